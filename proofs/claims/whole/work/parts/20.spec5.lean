theorem FansOk.congr {z z' : zS} (h : ∀ j, 13 ≤ j → z' j = z j) (hf : FansOk z) : FansOk z' := by
  refine ⟨by rw [h 13 (by decide)]; exact hf.1, fun f h0 h1 => ?_⟩
  rw [h 13 (by decide)] at h1
  obtain ⟨a1, a2, a3, a4, a5, a6⟩ := hf.2 f h0 h1
  unfold FanOk
  rw [h _ (by omega), h _ (by omega), h _ (by omega), h _ (by omega), h _ (by omega), h _ (by omega)]
  exact ⟨a1, a2, a3, a4, a5, fun k g0 g1 => by rw [h _ (by omega)]; exact a6 k g0 g1⟩
/-- all that a second needs -/
def PlOk (z : zS) : Prop := FansOk z ∧ SitOk z ∧ RoomOk z ∧ (0 ≤ z 0 ∧ z 0 < 900000)
theorem onMany_in {z : zS} (h : FansOk z) : 0 ≤ onManyF z (z 13).toNat ∧ onManyF z (z 13).toNat ≤ 4 := by
  have h1 := h.1
  have h2 := sumTo_in (g := fun f => z (42 + f)) (N := (z 13).toNat) (M := 1) (fun p hp => by
    obtain ⟨-, -, -, -, a5, -⟩ := h.2 p (by omega) (by omega)
    omega) (z 13).toNat (Nat.le_refl _)
  unfold onManyF
  omega
theorem sec_out (z : zS) (hs : SitOk z) (r on : Int) {j : Int} (hj : 13 ≤ j ∨ j < 0) : secF z r on j = z j := by
  have := hs.1
  unfold secF
  rw [up_ne _ (by omega)]
  exact goesF_hi _ _ _ (by omega) _ (by omega)
theorem sec_0 (z : zS) (hs : SitOk z) (r on : Int) : secF z r on 0 = z 0 + 1 := by
  have := hs.1
  unfold secF
  rw [up_eq, goesF_hi _ _ _ (by omega) _ (by omega)]
theorem sec_sit {z : zS} (hs : SitOk z) (r on : Int) : SitOk (secF z r on) := by
  have h14 := hs.1
  have h := goesF_ok hs r on (z 14).toNat (by omega)
  unfold secF
  refine ⟨by rw [up_ne _ (by decide)]; exact h.1, fun q h0 h6 => ?_⟩
  rw [up_ne _ (by omega), up_ne _ (by omega), up_ne _ (by omega)]
  exact h.2 q h0 h6
theorem sec_pl {z : zS} (h : PlOk z) (r on : Int) (ht : z 0 + 1 < 900000) : PlOk (secF z r on) := by
  obtain ⟨h1, h2, h3, h4⟩ := h
  refine ⟨h1.congr (fun j hj => sec_out z h2 r on (Or.inl hj)), sec_sit h2 r on, RoomOk.congr (fun j hj => sec_out z h2 r on (Or.inl hj)) h3, ?_⟩
  rw [sec_0 z h2]; omega
theorem play_pl {z : zS} (h : PlOk z) : ∀ n : Nat, z 0 + n < 900000 → PlOk (playF z n) ∧ playF z n 0 = z 0 + n ∧ ∀ j, (13 ≤ j ∨ j < 0) → playF z n j = z j
  | 0, _ => ⟨h, by simp [playF], fun _ _ => rfl⟩
  | n + 1, hn => by
    obtain ⟨a, b, c⟩ := play_pl h n (by omega)
    refine ⟨sec_pl a _ _ (by rw [b]; omega), ?_, fun j hj => ?_⟩
    · show secF _ _ _ 0 = _
      rw [sec_0 _ a.2.1, b]; omega
    · show secF _ _ _ j = _
      rw [sec_out _ a.2.1 _ _ hj, c j hj]
/-- what asking leaves of the memory -/
def Ask (σ σ' : xM) : Prop := (∀ q, q ≠ 46 → q ≠ 49 → q ≠ 50 → q ≠ 51 → q ≠ 52 → q ≠ 53 → σ' q = σ q) ∧ (∀ j, j ≠ 12 → j ≠ 13 → σ' 46 j = σ 46 j)
theorem Ask.s {σ σ' : xM} (h : Ask σ σ') : σ' 47 = σ 47 := h.1 47 (by decide) (by decide) (by decide) (by decide) (by decide) (by decide)
theorem Ask.trans {a b c : xM} (h1 : Ask a b) (h2 : Ask b c) : Ask a c := ⟨fun q x y w u v t => (h2.1 q x y w u v t).trans (h1.1 q x y w u v t), fun j x y => (h2.2 j x y).trans (h1.2 j x y)⟩
theorem Ask.rf (a : xM) : Ask a a := ⟨fun _ _ _ _ _ _ _ => rfl, fun _ _ _ => rfl⟩
theorem back_ok {σ σ2 : xM} (h : Sc (sw σ 49 (cp49 σ 13)) σ2) (ho : ∀ j, 13 ≤ j ∨ j < 0 → σ2 47 j = σ 47 j) : Ask σ (sw σ2 47 (cp47 σ2 13)) := by
  have h49 : σ2 49 = cp49 σ 13 := by rw [h.1 49 (by decide) (by decide) (by decide) (by decide) (by decide), sw_eq]
  refine ⟨fun q x y w u v t => ?_, fun j x y => ?_⟩
  · by_cases hq : q = 47
    · subst hq
      rw [sw_eq]
      funext j
      unfold cp47
      by_cases hj : 0 ≤ j ∧ j < 13
      · rw [if_pos hj, h49]; unfold cp49; rw [if_pos hj]
      · rw [if_neg hj]; exact ho j (by omega)
    · rw [sw_ne _ hq, h.1 q x hq w u v, sw_ne _ y]
  · rw [sw_ne _ (by decide), h.2 j x y, sw_ne _ (by decide)]
def m0F (m : zS) : zS := fun j => if 0 ≤ j ∧ j < 6 then 0 else m j
def worseF (z : zS) (n : Nat) : Int := 1000 * greatF (playF z n) (z 14).toNat + allF (playF z n) (z 14).toNat
theorem great_play {z : zS} (h : SitOk z) : (0 ≤ greatF z (z 14).toNat ∧ greatF z (z 14).toNat ≤ 99) ∧ (0 ≤ allF z (z 14).toNat ∧ allF z (z 14).toNat ≤ 594) := by
  have h1 := h.1
  have h2 := greatF_in (z := z) (N := 6) (fun p hp => (h.2 p (by omega) (by omega)).2.1) (z 14).toNat (by omega)
  have h3 := sumTo_in (g := fun p => z (1 + p)) (N := 6) (M := 99) (fun p hp => (h.2 p (by omega) (by omega)).2.1) (z 14).toNat (by omega)
  unfold allF
  omega
theorem worse_in {z : zS} (h : PlOk z) (n : Nat) (hn : z 0 + n < 900000) : 0 ≤ worseF z n ∧ worseF z n < 100000 ∧ worseF z n / 1000 = greatF (playF z n) (z 14).toNat ∧ worseF z n % 1000 = allF (playF z n) (z 14).toNat := by
  obtain ⟨a, b, c⟩ := play_pl h n hn
  have g := great_play a.2.1
  rw [c 14 (by decide)] at g
  unfold worseF
  omega
