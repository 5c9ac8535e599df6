/-! a room that is being read: i clauses stand -/
theorem lkT_congrB {z z' : zS} {fr : Int} {N : Nat} (h : ∀ n : Nat, n < N → z' (fr + n) = z (fr + n)) : ∀ n : Nat, n ≤ N → lkT z' fr n = lkT z fr n
  | 0, _ => rfl
  | n + 1, hn => by unfold lkT; rw [h n (by omega), lkT_congrB h n (by omega)]
theorem ClP.mem {σ σ' : xM} {q : Nat} {z z' : zS} {fr : Int} {P P' : Nat → Nat} {k : Nat} (h : ClP σ q z fr P k) (h1 : σ' (q + 1) k = σ (q + 1) k) (h2 : σ' (q + 2) k = σ (q + 2) k) (h3 : Ef σ' q k = Ef σ q k) (h4 : Ef σ' q (k + 1) = Ef σ q (k + 1)) (h5 : ∀ j, j < Ef σ q (k + 1) → σ' (q + 4) j = σ (q + 4) j) (hP : P' k = P k) (hP1 : P' (k + 1) = P (k + 1)) (h6 : ∀ n : Nat, n < P (k + 1) → z' (fr + n) = z (fr + n)) : ClP σ' q z' fr P' k := by
  unfold ClP at *
  rw [h1, h2, h3, h4, hP, hP1]
  obtain ⟨a1, a2, a3, a4, a5⟩ := h
  refine ⟨a1, a2, a3, a4, fun hw => ?_⟩
  obtain ⟨len, b1, b2, b3, b4, b5, b6, b7⟩ := a5 hw
  have hl : ∀ n : Nat, n ≤ P (k + 1) → lkT z' fr n = lkT z fr n := lkT_congrB h6
  refine ⟨len, b1, b2, by rw [h6 _ (by omega)]; exact b3, fun x hx => ?_, by rw [hl _ (by omega)]; exact b5, by rw [hl _ (by omega)]; exact b6, fun x hx => by rw [hl _ (by omega)]; exact b7 x hx⟩
  rw [h5 _ (by omega), h6 _ (by omega)]
  exact b4 x hx
def RdC (σ : xM) (q : Nat) (en ac sp : Int) (z : zS) (i : Nat) (P : Nat → Nat) : Prop :=
  RdH σ q z sp en ∧ (σ q 6 = Ef σ q i ∧ 0 ≤ σ q 6 ∧ σ q 6 ≤ z (228 + ac) ∧ z (228 + ac) ≤ sp) ∧ (P 0 = 0 ∧ (P i : Int) = z (228 + ac) ∧ ∀ k, k ≤ i → P k ≤ P i ∧ Ef σ q k ≤ σ q 6) ∧
  (∀ k, k < i → ClP σ q z (243 + 140 * ac) P k) ∧ (lkT z (243 + 140 * ac) (P i) = 0 ∧ ∀ n : Nat, n < P i → stepOk (z (243 + 140 * ac + n)) (lkT z (243 + 140 * ac) n)) ∧
  (σ q 11 = z (218 + ac) ∧ 0 ≤ z (218 + ac) ∧ z (218 + ac) ≤ 99) ∧ (σ q 12 = (if z (223 + ac) < 1 then 1 else z (223 + ac)) ∧ 0 ≤ z (223 + ac) ∧ z (223 + ac) ≤ 99) ∧
  ((0 ≤ σ (q + 5) 2 ∧ σ (q + 5) 2 ≤ i) ∧ (z (233 + ac) = 0 ∨ z (233 + ac) = 1) ∧ (σ (q + 5) 2 ≠ 0 ↔ z (233 + ac) = 1)) ∧
  ((0 ≤ σ (q + 5) 3 ∧ σ (q + 5) 3 ≤ i) ∧ (z (238 + ac) = 0 ∨ z (238 + ac) = 1) ∧ (σ (q + 5) 3 ≠ 0 ↔ z (238 + ac) = 1))
theorem RdC.next {σ σF : xM} {q : Nat} {en ac sp sp5 : Int} {z z5 : zS} {i : Nat} {P : Nat → Nat} (hC : RdC σ q en ac sp z i P) (hH : RdH σF q z5 sp5 en)
    (hm : ∀ k : Nat, k < i → σF (q + 1) k = σ (q + 1) k ∧ σF (q + 2) k = σ (q + 2) k ∧ σF (q + 3) k = σ (q + 3) k) (hs : ∀ j, j < σ q 6 → σF (q + 4) j = σ (q + 4) j) (hz : ∀ n : Nat, n < P i → z5 (243 + 140 * ac + n) = z (243 + 140 * ac + n))
    (hw : 0 ≤ σF (q + 1) i ∧ σF (q + 1) i ≤ 3) (hn : 0 ≤ σF (q + 2) i ∧ σF (q + 2) i ≤ 99) (he : σF (q + 3) i = σF q 6) (hu : σ q 6 ≤ σF q 6 ∧ σF q 6 ≤ 100 ∧ σF q 6 ≤ z5 (228 + ac) ∧ z5 (228 + ac) ≤ sp5)
    (ht : σF (q + 1) i < 2 → z5 (228 + ac) = z (228 + ac) ∧ σF q 6 = σ q 6)
    (hc : 2 ≤ σF (q + 1) i → ∃ len : Nat, z5 (228 + ac) = z (228 + ac) + len + 1 ∧ σF q 6 = σ q 6 + len ∧ z5 (243 + 140 * ac + (P i + len : Nat)) = (if σF (q + 1) i = 2 then -10 else -200) - σF (q + 2) i ∧ (∀ k : Nat, k < len → σF (q + 4) (σ q 6 + k) = trS (z5 (243 + 140 * ac + (P i + k : Nat)))) ∧ Seg z5 (243 + 140 * ac) (P i) (P i + len) 14)
    (h11 : σF q 11 = z5 (218 + ac) ∧ 0 ≤ z5 (218 + ac) ∧ z5 (218 + ac) ≤ 99) (h12 : σF q 12 = (if z5 (223 + ac) < 1 then 1 else z5 (223 + ac)) ∧ 0 ≤ z5 (223 + ac) ∧ z5 (223 + ac) ≤ 99)
    (h2 : (0 ≤ σF (q + 5) 2 ∧ σF (q + 5) 2 ≤ (i + 1 : Nat)) ∧ (z5 (233 + ac) = 0 ∨ z5 (233 + ac) = 1) ∧ (σF (q + 5) 2 ≠ 0 ↔ z5 (233 + ac) = 1)) (h3 : (0 ≤ σF (q + 5) 3 ∧ σF (q + 5) 3 ≤ (i + 1 : Nat)) ∧ (z5 (238 + ac) = 0 ∨ z5 (238 + ac) = 1) ∧ (σF (q + 5) 3 ≠ 0 ↔ z5 (238 + ac) = 1)) : ∃ P', RdC σF q en ac sp5 z5 (i + 1) P' := by
  obtain ⟨c1, ⟨c2, c3, c4, c5⟩, ⟨c6, c7, c8⟩, c9, ⟨c10, c11⟩, -⟩ := hC
  have hEk : ∀ k, k ≤ i → Ef σF q k = Ef σ q k := fun k hk => by
    unfold Ef
    by_cases h0 : k = 0
    · rw [if_pos h0, if_pos h0]
    · rw [if_neg h0, if_neg h0]
      have := (hm (k - 1) (by omega)).2.2
      rw [show ((k - 1 : Nat) : Int) = (k : Int) - 1 by omega] at this
      exact this
  have hE1 : Ef σF q (i + 1) = σF q 6 := by
    unfold Ef
    rw [if_neg (by omega), ← he, show ((i + 1 : Nat) : Int) - 1 = i by omega]
  have hlk : ∀ n : Nat, n ≤ P i → lkT z5 (243 + 140 * ac) n = lkT z (243 + 140 * ac) n := lkT_congrB hz
  have hEi := hEk i (Nat.le_refl _)
  by_cases hw2 : σF (q + 1) i < 2
  · obtain ⟨d1, d2⟩ := ht hw2
    refine ⟨fun k => if k ≤ i then P k else P i, hH, ⟨hE1.symm, by omega, hu.2.2.1, hu.2.2.2⟩, ⟨?_, ?_, fun k hk => ⟨?_, ?_⟩⟩, fun k hk => ?_, ⟨?_, fun n hn2 => ?_⟩, h11, h12, h2, h3⟩
    · show (if 0 ≤ i then P 0 else P i) = 0; rw [if_pos (by omega)]; exact c6
    · show (((if i + 1 ≤ i then P (i + 1) else P i) : Nat) : Int) = _; rw [if_neg (by omega)]; omega
    · show (if k ≤ i then P k else P i) ≤ (if i + 1 ≤ i then P (i + 1) else P i)
      rw [if_neg (show ¬ i + 1 ≤ i by omega)]
      split
      · next h => exact (c8 k h).1
      · exact Nat.le_refl _
    · by_cases hki : k ≤ i
      · rw [hEk k hki]; have := (c8 k hki).2; omega
      · rw [show k = i + 1 by omega, hE1]; exact Int.le_refl _
    · by_cases hki : k < i
      · refine (c9 k hki).mem (hm k hki).1 (hm k hki).2.1 (hEk k (by omega)) (hEk (k + 1) (by omega)) (fun j hj => hs j (by have := (c8 (k + 1) (by omega)).2; omega)) (if_pos (by omega)) (if_pos (by omega)) (fun n hn2 => hz n (by have := (c8 (k + 1) (by omega)).1; omega))
      · have hki2 : k = i := by omega
        subst hki2
        refine ⟨hw, hn, by omega, fun _ => ⟨?_, by omega⟩, fun h => absurd h (by omega)⟩
        show (if k + 1 ≤ k then P (k + 1) else P k) = (if k ≤ k then P k else P k)
        rw [if_neg (by omega), if_pos (Nat.le_refl _)]
    · show lkT z5 _ (if i + 1 ≤ i then P (i + 1) else P i) = 0; rw [if_neg (by omega), hlk _ (Nat.le_refl _)]; exact c10
    · have hn3 : n < P i := by
        have : n < (if i + 1 ≤ i then P (i + 1) else P i) := hn2
        rw [if_neg (by omega)] at this; exact this
      rw [hz n hn3, hlk n (by omega)]; exact c11 n hn3
  · obtain ⟨len, d1, d2, d3, d4, d5, d6⟩ := hc (by omega)
    have hl0 : lkT z5 (243 + 140 * ac) (P i) = 0 := by rw [hlk _ (Nat.le_refl _)]; exact c10
    refine ⟨fun k => if k ≤ i then P k else P i + len + 1, hH, ⟨hE1.symm, by omega, hu.2.2.1, hu.2.2.2⟩, ⟨?_, ?_, fun k hk => ⟨?_, ?_⟩⟩, fun k hk => ?_, ⟨?_, fun n hn2 => ?_⟩, h11, h12, h2, h3⟩
    · show (if 0 ≤ i then P 0 else _) = 0; rw [if_pos (by omega)]; exact c6
    · show (((if i + 1 ≤ i then P (i + 1) else P i + len + 1) : Nat) : Int) = _; rw [if_neg (by omega)]; omega
    · show (if k ≤ i then P k else _) ≤ (if i + 1 ≤ i then P (i + 1) else P i + len + 1)
      rw [if_neg (show ¬ i + 1 ≤ i by omega)]
      split
      · next h => have := (c8 k h).1; omega
      · exact Nat.le_refl _
    · by_cases hki : k ≤ i
      · rw [hEk k hki]; have := (c8 k hki).2; omega
      · rw [show k = i + 1 by omega, hE1]; exact Int.le_refl _
    · by_cases hki : k < i
      · refine (c9 k hki).mem (hm k hki).1 (hm k hki).2.1 (hEk k (by omega)) (hEk (k + 1) (by omega)) (fun j hj => hs j (by have := (c8 (k + 1) (by omega)).2; omega)) (if_pos (by omega)) (if_pos (by omega)) (fun n hn2 => hz n (by have := (c8 (k + 1) (by omega)).1; omega))
      · have hki2 : k = i := by omega
        subst hki2
        have e1 : (if k ≤ k then P k else P k + len + 1) = P k := if_pos (Nat.le_refl _)
        have e2 : (if k + 1 ≤ k then P (k + 1) else P k + len + 1) = P k + len + 1 := if_neg (by omega)
        unfold ClP
        dsimp only
        rw [e1, e2, hE1, hEi, ← c2]
        refine ⟨hw, hn, by omega, fun h => absurd h (by omega), fun _ => ⟨len, rfl, d2, d3, fun x hx => ?_, hl0, by omega, fun x hx => ?_⟩⟩
        · obtain ⟨g1, g2, g3⟩ := d6 (P k + x) (by omega) (by omega)
          obtain ⟨u1, u2, u3, u4, u5⟩ := g3 (by omega)
          exact ⟨d4 x hx, u1, u2⟩
        · have := (d6 (P k + x) (by omega) (by omega)).2.1
          omega
    · show lkT z5 _ (if i + 1 ≤ i then P (i + 1) else P i + len + 1) = 0
      rw [if_neg (by omega)]
      show (if 0 ≤ z5 (243 + 140 * ac + (P i + len : Nat)) then _ else if z5 (243 + 140 * ac + (P i + len : Nat)) = -1 then _ else if -10 < z5 (243 + 140 * ac + (P i + len : Nat)) then _ else (0 : Int)) = 0
      have hle : z5 (243 + 140 * ac + (P i + len : Nat)) ≤ -10 := by rw [d3]; split <;> omega
      rw [if_neg (by omega), if_neg (by omega), if_neg (by omega)]
    · have hn3 : n < P i + len + 1 := by
        have : n < (if i + 1 ≤ i then P (i + 1) else P i + len + 1) := hn2
        rw [if_neg (by omega)] at this; exact this
      by_cases h1 : n < P i
      · rw [hz n h1, hlk n (by omega)]; exact c11 n h1
      · by_cases h2 : n < P i + len
        · obtain ⟨g1, g2, g3⟩ := d6 n (by omega) (by omega)
          obtain ⟨u1, u2, u3, u4, u5⟩ := g3 h2
          refine ⟨by omega, by omega, fun h => (u1 h).1, fun h => by have := u4 (by omega); omega, fun h _ => by have := u5 h; omega, fun h => by omega⟩
        · have hn4 : n = P i + len := by omega
          subst hn4
          have hle : z5 (243 + 140 * ac + (P i + len : Nat)) ≤ -10 ∧ -300 ≤ z5 (243 + 140 * ac + (P i + len : Nat)) := by rw [d3]; split <;> omega
          exact ⟨by omega, by omega, fun h => by omega, fun h => by omega, fun h _ => by omega, fun h => by omega⟩