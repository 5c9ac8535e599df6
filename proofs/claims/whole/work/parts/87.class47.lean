/-! a clause read: pure steps -/
theorem wr_if (σ : xM) (p : Nat) (k v j : Int) : wr σ p k v p j = if j = k then v else σ p j := by
  by_cases h : j = k
  · rw [h, wr_eq, if_pos rfl]
  · rw [wr_k _ _ _ h, if_neg h]
theorem clause_h {en ac sp op : Int} {z : zS} : (hereF z sp en = 104 → clauseF en ac (sp, 0, op, z) = tellF en ac 218 0 (sp, 0, op, z)) ∧ (hereF z sp en = 102 → clauseF en ac (sp, 0, op, z) = tellF en ac 223 1 (sp, 0, op, z)) ∧ (hereF z sp en = 119 → clauseF en ac (sp, 0, op, z) = muchF en ac (-10) 2 233 (sp, 0, op, z)) ∧ (hereF z sp en = 99 → clauseF en ac (sp, 0, op, z) = muchF en ac (-200) 3 238 (sp, 0, op, z)) ∧ (¬ hereF z sp en = 104 → ¬ hereF z sp en = 102 → ¬ hereF z sp en = 119 → ¬ hereF z sp en = 99 → clauseF en ac (sp, 0, op, z) = (sp, 1, op, z)) := by
  unfold clauseF
  dsimp only
  exact ⟨fun h => if_pos h, fun h => by rw [if_neg (by omega), if_pos h], fun h => by rw [if_neg (by omega), if_neg (by omega), if_pos h], fun h => by rw [if_neg (by omega), if_neg (by omega), if_neg (by omega), if_pos h], fun h1 h2 h3 h4 => by rw [if_neg h1, if_neg h2, if_neg h3, if_neg h4]⟩
theorem RdC.nextG {σ σF : xM} {q : Nat} {en ac sp sp5 u n V : Int} {z z5 : zS} {i : Nat} {P : Nat → Nat} (hC : RdC σ q en ac sp z i P) (hH : RdH σF q z5 sp5 en)
    (g1 : ∀ k : Int, σF (q + 1) k = if k = i then u else σ (q + 1) k) (g2 : ∀ k : Int, σF (q + 2) k = if k = i then n else σ (q + 2) k) (g3 : ∀ k : Int, σF (q + 3) k = if k = i then σF q 6 else σ (q + 3) k) (g5 : ∀ k : Int, σF (q + 5) k = if k = u then V else σ (q + 5) k)
    (hs : ∀ j, j < σ q 6 → σF (q + 4) j = σ (q + 4) j) (hz : ∀ m : Nat, m < P i → z5 (243 + 140 * ac + m) = z (243 + 140 * ac + m))
    (hw : 0 ≤ u ∧ u ≤ 3) (hn : 0 ≤ n ∧ n ≤ 99) (hu : σ q 6 ≤ σF q 6 ∧ σF q 6 ≤ 100 ∧ σF q 6 ≤ z5 (228 + ac) ∧ z5 (228 + ac) ≤ sp5)
    (ht : u < 2 → z5 (228 + ac) = z (228 + ac) ∧ σF q 6 = σ q 6)
    (hc : 2 ≤ u → ∃ len : Nat, z5 (228 + ac) = z (228 + ac) + len + 1 ∧ σF q 6 = σ q 6 + len ∧ z5 (243 + 140 * ac + (P i + len : Nat)) = (if u = 2 then -10 else -200) - n ∧ (∀ k : Nat, k < len → σF (q + 4) (σ q 6 + k) = trS (z5 (243 + 140 * ac + (P i + k : Nat)))) ∧ Seg z5 (243 + 140 * ac) (P i) (P i + len) 14)
    (h11 : σF q 11 = z5 (218 + ac) ∧ 0 ≤ z5 (218 + ac) ∧ z5 (218 + ac) ≤ 99) (h12 : σF q 12 = (if z5 (223 + ac) < 1 then 1 else z5 (223 + ac)) ∧ 0 ≤ z5 (223 + ac) ∧ z5 (223 + ac) ≤ 99)
    (h2 : (u = 2 ∧ V = σ (q + 5) 2 + 1 ∧ z5 (233 + ac) = 1) ∨ (u ≠ 2 ∧ z5 (233 + ac) = z (233 + ac))) (h3 : (u = 3 ∧ V = σ (q + 5) 3 + 1 ∧ z5 (238 + ac) = 1) ∨ (u ≠ 3 ∧ z5 (238 + ac) = z (238 + ac))) : ∃ P', RdC σF q en ac sp5 z5 (i + 1) P' := by
  obtain ⟨-, -, -, -, -, -, -, ⟨a1, a2, a3⟩, ⟨b1, b2, b3⟩⟩ := id hC
  have e1 : σF (q + 1) i = u := by rw [g1, if_pos rfl]
  have e2 : σF (q + 2) i = n := by rw [g2, if_pos rfl]
  refine hC.next hH (fun k hk => ⟨by rw [g1, if_neg (by omega)], by rw [g2, if_neg (by omega)], by rw [g3, if_neg (by omega)]⟩) hs hz (by rw [e1]; exact hw) (by rw [e2]; exact hn) (by rw [g3, if_pos rfl]) hu (fun h => ht (by omega)) (fun h => ?_) h11 h12 ?_ ?_
  · rw [e1, e2]; exact hc (by omega)
  · rcases h2 with ⟨x1, x2, x3⟩ | ⟨x1, x2⟩
    · have : σF (q + 5) 2 = V := by rw [g5, if_pos x1.symm]
      rw [this, x3]
      exact ⟨by omega, Or.inr rfl, ⟨fun _ => rfl, fun _ => by omega⟩⟩
    · have : σF (q + 5) 2 = σ (q + 5) 2 := by rw [g5, if_neg (fun h => x1 h.symm)]
      rw [this, x2]
      exact ⟨by omega, a2, a3⟩
  · rcases h3 with ⟨x1, x2, x3⟩ | ⟨x1, x2⟩
    · have : σF (q + 5) 3 = V := by rw [g5, if_pos x1.symm]
      rw [this, x3]
      exact ⟨by omega, Or.inr rfl, ⟨fun _ => rfl, fun _ => by omega⟩⟩
    · have : σF (q + 5) 3 = σ (q + 5) 3 := by rw [g5, if_neg (fun h => x1 h.symm)]
      rw [this, x2]
      exact ⟨by omega, b2, b3⟩
theorem cl_tell0 {σ σ2 : xM} {q : Nat} {en ac sp s2 n V : Int} {z : zS} {i : Nat} {P : Nat → Nat} (hq : 55 ≤ q) (hac : 0 ≤ ac ∧ ac ≤ 4) (he : 0 ≤ en ∧ en ≤ 100) (hC : RdC σ q en ac sp z i P) (hS : RdS σ2 σ q (z (228 + ac) - σ q 6) (z (228 + ac)) en ac (s2, 0, 0, z)) (hs : sp ≤ s2) (hn : 0 ≤ n ∧ n ≤ 99) {X : Int} (hX : X = σ2 q 6) : ∃ P', RdC (wr (wr (wr (wr (wr σ2 (q + 1) i 0) (q + 2) i n) q 11 n) (q + 5) 0 V) (q + 3) i X) q en ac s2 (up z (218 + ac) n) (i + 1) P' := by
  subst hX
  obtain ⟨⟨m1, m2⟩, ⟨a1, a2, a3, a4, a5, a6⟩, h4, h5, h6⟩ := hS
  simp only at a1 a2 a3 a4 a5 a6 h4 h5 h6
  obtain ⟨c1, ⟨c2, c3, c4, c5⟩, ⟨c6, c7, c8⟩, c9, c10, ⟨h11, h11b⟩, ⟨h12, h12b⟩, -⟩ := id hC
  refine hC.nextG (u := 0) (n := n) (V := V) ⟨?_, ?_, fun j j0 j1 => ?_, a4, a5, fun j j0 j1 => ?_⟩ (fun k => ?_) (fun k => ?_) (fun k => ?_) (fun k => ?_) (fun j hj => ?_) (fun m hm => ?_) (by omega) hn ?_ (fun _ => ⟨?_, ?_⟩) (fun h => absurd h (by omega)) ?_ ?_ (Or.inr ⟨by omega, ?_⟩) (Or.inr ⟨by omega, ?_⟩)
  · simp (disch := omega) only [wr_p, wr_k, wr_eq]; exact a1
  · simp (disch := omega) only [wr_p, wr_k, wr_eq]; exact a2
  · simp (disch := omega) only [wr_p, wr_k, wr_eq, up_ne]; exact a3 j j0 j1
  · rw [up_ne _ (by omega)]; exact a6 j j0 j1
  · simp (disch := omega) only [wr_p]; rw [wr_if, m1 (q + 1) (by omega) (by omega)]
  · simp (disch := omega) only [wr_p]; rw [wr_if, wr_p _ (by omega), m1 (q + 2) (by omega) (by omega)]
  · rw [wr_if]; simp (disch := omega) only [wr_p, wr_k]; rw [m1 (q + 3) (by omega) (by omega)]
  · rw [wr_p _ (by omega), wr_if]; simp (disch := omega) only [wr_p]; rw [m1 (q + 5) (by omega) (by omega)]
  · simp (disch := omega) only [wr_p]; exact h5 j (by omega)
  · rw [up_ne _ (by omega)]
  · simp (disch := omega) only [wr_p, wr_k, up_ne]; omega
  · rw [up_ne _ (by omega)]
  · simp (disch := omega) only [wr_p, wr_k]; omega
  · refine ⟨?_, by rw [up_eq]; exact hn⟩; simp (disch := omega) only [wr_p, wr_eq, up_eq]
  · simp (disch := omega) only [wr_p, wr_k, up_ne]; rw [m2 12 (by decide) (by decide) (by decide)]; exact ⟨h12, h12b⟩
  · rw [up_ne _ (by omega)]
  · rw [up_ne _ (by omega)]
theorem cl_tell1 {σ σ2 : xM} {q : Nat} {en ac sp s2 n V : Int} {z : zS} {i : Nat} {P : Nat → Nat} (hq : 55 ≤ q) (hac : 0 ≤ ac ∧ ac ≤ 4) (he : 0 ≤ en ∧ en ≤ 100) (hC : RdC σ q en ac sp z i P) (hS : RdS σ2 σ q (z (228 + ac) - σ q 6) (z (228 + ac)) en ac (s2, 0, 0, z)) (hs : sp ≤ s2) (hn : 0 ≤ n ∧ n ≤ 99) {X : Int} (hX : X = σ2 q 6) : ∃ P', RdC (wr (wr (wr (wr (wr σ2 (q + 1) i 1) (q + 2) i n) q 12 (mxI 1 n)) (q + 5) 1 V) (q + 3) i X) q en ac s2 (up z (223 + ac) n) (i + 1) P' := by
  subst hX
  obtain ⟨⟨m1, m2⟩, ⟨a1, a2, a3, a4, a5, a6⟩, h4, h5, h6⟩ := hS
  simp only at a1 a2 a3 a4 a5 a6 h4 h5 h6
  obtain ⟨c1, ⟨c2, c3, c4, c5⟩, ⟨c6, c7, c8⟩, c9, c10, ⟨h11, h11b⟩, ⟨h12, h12b⟩, -⟩ := id hC
  refine hC.nextG (u := 1) (n := n) (V := V) ⟨?_, ?_, fun j j0 j1 => ?_, a4, a5, fun j j0 j1 => ?_⟩ (fun k => ?_) (fun k => ?_) (fun k => ?_) (fun k => ?_) (fun j hj => ?_) (fun m hm => ?_) (by omega) hn ?_ (fun _ => ⟨?_, ?_⟩) (fun h => absurd h (by omega)) ?_ ?_ (Or.inr ⟨by omega, ?_⟩) (Or.inr ⟨by omega, ?_⟩)
  · simp (disch := omega) only [wr_p, wr_k, wr_eq]; exact a1
  · simp (disch := omega) only [wr_p, wr_k, wr_eq]; exact a2
  · simp (disch := omega) only [wr_p, wr_k, wr_eq, up_ne]; exact a3 j j0 j1
  · rw [up_ne _ (by omega)]; exact a6 j j0 j1
  · simp (disch := omega) only [wr_p]; rw [wr_if, m1 (q + 1) (by omega) (by omega)]
  · simp (disch := omega) only [wr_p]; rw [wr_if, wr_p _ (by omega), m1 (q + 2) (by omega) (by omega)]
  · rw [wr_if]; simp (disch := omega) only [wr_p, wr_k]; rw [m1 (q + 3) (by omega) (by omega)]
  · rw [wr_p _ (by omega), wr_if]; simp (disch := omega) only [wr_p]; rw [m1 (q + 5) (by omega) (by omega)]
  · simp (disch := omega) only [wr_p]; exact h5 j (by omega)
  · rw [up_ne _ (by omega)]
  · simp (disch := omega) only [wr_p, wr_k, up_ne]; omega
  · rw [up_ne _ (by omega)]
  · simp (disch := omega) only [wr_p, wr_k]; omega
  · simp (disch := omega) only [wr_p, wr_k, up_ne]; rw [m2 11 (by decide) (by decide) (by decide)]; exact ⟨h11, h11b⟩
  · refine ⟨?_, by rw [up_eq]; exact hn⟩; simp (disch := omega) only [wr_p, wr_eq, up_eq]; unfold mxI; by_cases h : n < 1
    · rw [if_neg (by omega), if_pos h]
    · rw [if_neg h]; by_cases h1 : (1 : Int) < n
      · rw [if_pos h1]
      · rw [if_neg h1]; omega
  · rw [up_ne _ (by omega)]
  · rw [up_ne _ (by omega)]
theorem cl_much {σ σ2 σ5 : xM} {q : Nat} {en ac sp s2 n u neg wh : Int} {z : zS} {i : Nat} {P : Nat → Nat} {T : pT} (hq : 55 ≤ q) (hac : 0 ≤ ac ∧ ac ≤ 4) (he : 0 ≤ en ∧ en ≤ 100) (hC : RdC σ q en ac sp z i P) (hS : RdS σ2 σ q (z (228 + ac) - σ q 6) (z (228 + ac)) en ac (s2, 0, 0, z)) (hn : 0 ≤ n ∧ n ≤ 99) (hu : (u = 2 ∧ neg = -10 ∧ wh = 233) ∨ (u = 3 ∧ neg = -200 ∧ wh = 238))
    (h5 : RdS σ5 (wr (wr σ2 (q + 1) i u) (q + 2) i n) q (z (228 + ac) - σ q 6) (z (228 + ac)) en ac T) (hw : T.2.1 = 0) (hG : EmG ac 14 (s2, 0, 0, z) T) (hpi : PIn en ac T) (hgo : T.2.2.2 (228 + ac) < T.1) {X : Int} (hX : X = σ5 q 6) :
    ∃ P', RdC (wr (wr σ5 (q + 5) u (σ (q + 5) u + 1)) (q + 3) i X) q en ac T.1 (up (emF ac (neg - n) T).2.2.2 (wh + ac) 1) (i + 1) P' := by
  subst hX
  obtain ⟨⟨m1, m2⟩, ⟨a1, a2, a3, a4, a5, a6⟩, h4, hb5, h6⟩ := hS
  simp only at a1 a2 a3 a4 a5 a6 h4 hb5 h6
  obtain ⟨⟨n1, n2⟩, ⟨b1, b2, b3, b4, b5, b6⟩, k4, k5, k6⟩ := h5
  obtain ⟨c1, ⟨c2, c3, c4, c5⟩, ⟨c6, c7, c8⟩, c9, c10, ⟨h11, h11b⟩, ⟨h12, h12b⟩, -⟩ := id hC
  obtain ⟨a, b, e1, e2, e3, e4, e5⟩ := hG hw
  simp only at e1 e4
  have ea : a = P i := by omega
  subst ea
  rw [emF_e hw]
  dsimp only
  refine hC.nextG (u := u) (n := n) (V := σ (q + 5) u + 1) ⟨?_, ?_, fun j j0 j1 => ?_, b4, b5, fun j j0 j1 => ?_⟩ (fun k => ?_) (fun k => ?_) (fun k => ?_) (fun k => ?_) (fun j hj => ?_) (fun m hm => ?_) (by omega) hn ?_ (fun h => absurd h (by omega)) (fun _ => ?_) ?_ ?_ ?_ ?_
  · simp (disch := omega) only [wr_p]; exact b1
  · simp (disch := omega) only [wr_p]; exact b2
  · simp (disch := omega) only [wr_p, up_ne]; exact b3 j j0 j1
  · simp (disch := omega) only [up_ne]; exact b6 j j0 j1
  · simp (disch := omega) only [wr_p]; rw [n1 (q + 1) (by omega) (by omega), wr_p _ (by omega), wr_if, m1 (q + 1) (by omega) (by omega)]
  · simp (disch := omega) only [wr_p]; rw [n1 _ (by omega) (by omega), wr_if, wr_p _ (by omega), m1 _ (by omega) (by omega)]
  · rw [wr_if]; simp (disch := omega) only [wr_p]; rw [n1 (q + 3) (by omega) (by omega)]; simp (disch := omega) only [wr_p]; rw [m1 (q + 3) (by omega) (by omega)]
  · rw [wr_p _ (by omega), wr_if, n1 (q + 5) (by omega) (by omega)]; simp (disch := omega) only [wr_p]; rw [m1 (q + 5) (by omega) (by omega)]
  · simp (disch := omega) only [wr_p]; rw [k5 j (by omega)]; simp (disch := omega) only [wr_p]; exact hb5 j (by omega)
  · simp (disch := omega) only [up_ne]; exact e4 _ (by omega) (by omega)
  · simp (disch := omega) only [wr_p, up_ne, up_eq]; omega
  · have hT : ∀ j : Int, 243 + 140 * ac + (P i : Int) ≤ j → j < 243 + 140 * ac + b → up (up (up T.2.2.2 (243 + 140 * ac + T.2.2.2 (228 + ac)) (neg - n)) (228 + ac) (T.2.2.2 (228 + ac) + 1)) (wh + ac) 1 j = T.2.2.2 j := fun j j1 j2 => by
      simp (disch := omega) only [up_ne]
    refine ⟨b - P i, ?_, ?_, ?_, fun k hk => ?_, ?_⟩
    · simp (disch := omega) only [up_ne, up_eq]; omega
    · simp (disch := omega) only [wr_p]; omega
    · rw [show P i + (b - P i) = b by omega, up_ne _ (by omega), up_ne _ (by omega), e2, up_eq]
      rcases hu with ⟨u1, u2, u3⟩ | ⟨u1, u2, u3⟩
      · rw [if_pos u1, u2]
      · rw [if_neg (by omega), u2]
    · simp (disch := omega) only [wr_p]
      rw [hT _ (by omega) (by omega)]
      have := k6 (P i + k : Nat) (by omega) (by omega)
      rw [show ((P i + k : Nat) : Int) - (z (228 + ac) - σ q 6) = σ q 6 + k by omega] at this
      exact this
    · rw [show P i + (b - P i) = b by omega]
      exact e5 _ hT
  · simp (disch := omega) only [wr_p, up_ne]; rw [n2 11 (by decide) (by decide) (by decide)]; simp (disch := omega) only [wr_p]; rw [m2 11 (by decide) (by decide) (by decide), e4 _ (by omega) (by omega)]; exact ⟨h11, h11b⟩
  · simp (disch := omega) only [wr_p, up_ne]; rw [n2 12 (by decide) (by decide) (by decide)]; simp (disch := omega) only [wr_p]; rw [m2 12 (by decide) (by decide) (by decide), e4 _ (by omega) (by omega)]; exact ⟨h12, h12b⟩
  · rcases hu with ⟨u1, u2, u3⟩ | ⟨u1, u2, u3⟩
    · refine Or.inl ⟨u1, by rw [u1], ?_⟩; rw [u3, up_eq]
    · refine Or.inr ⟨by omega, ?_⟩; simp (disch := omega) only [up_ne]; exact e4 _ (by omega) (by omega)
  · rcases hu with ⟨u1, u2, u3⟩ | ⟨u1, u2, u3⟩
    · refine Or.inr ⟨by omega, ?_⟩; simp (disch := omega) only [up_ne]; exact e4 _ (by omega) (by omega)
    · refine Or.inl ⟨u1, by rw [u1], ?_⟩; rw [u3, up_eq]