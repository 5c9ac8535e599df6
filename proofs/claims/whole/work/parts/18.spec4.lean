theorem goP_hi (z : zS) (r on : Int) {p j : Int} (hp : 0 ≤ p ∧ p < 6) (hj : 13 ≤ j ∨ j ≤ 0) : goP z r on p j = z j := by
  unfold goP
  rw [up_ne _ (by omega), up_ne _ (by omega)]
theorem goesF_hi (z : zS) (r on : Int) {j : Int} (hj : 13 ≤ j ∨ j ≤ 0) : ∀ n : Nat, n ≤ 6 → goesF z r on n j = z j
  | 0, _ => rfl
  | n + 1, hn => (goP_hi _ r on (by omega) hj).trans (goesF_hi z r on hj n (by omega))
theorem tellsF_congr {z z' : zS} (h : ∀ j, 13 ≤ j → z' j = z j) {a : Int} (ha : 14 ≤ a) (hz : -1 ≤ z 20) (b : Int) : tellsF z' a b = tellsF z a b := by
  unfold tellsF
  rw [h 20 (by omega)]
  split
  · rfl
  · rw [h _ (by omega)]
theorem lkT_congr {z z' : zS} {fr : Int} (h : ∀ n : Nat, z' (fr + n) = z (fr + n)) : ∀ n, lkT z' fr n = lkT z fr n
  | 0 => rfl
  | n + 1 => by unfold lkT; rw [h n, lkT_congr h n]
theorem lkF_congr {z z' : zS} {fr : Int} (h : ∀ n : Nat, z' (fr + n) = z (fr + n)) (k : zS) (u : zL) : ∀ n, lkF z' fr k u n = lkF z fr k u n
  | 0 => rfl
  | n + 1 => by unfold lkF; rw [h n, lkF_congr h k u n]
theorem RoomOk.congr {z z' : zS} (h : ∀ j, 13 ≤ j → z' j = z j) (hr : RoomOk z) : RoomOk z' := by
  have h20 := hr.1.1
  have e20 := h 20 (by omega)
  unfold RoomOk at hr ⊢
  have hs : ∀ n : Nat, z' (243 + 140 * z 20 + n) = z (243 + 140 * z 20 + n) := fun n => h _ (by omega)
  rw [e20, tellsF_congr h (by omega) h20, tellsF_congr h (by omega) h20, tellsF_congr h (by omega) h20, tellsF_congr h (by omega) h20, tellsF_congr h (by omega) h20]
  refine ⟨hr.1, hr.2.1, fun n hn => ?_, hr.2.2.2⟩
  rw [hs n, lkT_congr hs]
  exact hr.2.2.1 n hn
theorem warmF_congr {z z' : zS} (h : ∀ j, 13 ≤ j → z' j = z j) (h20 : -1 ≤ z 20) (k : zS) : warmF z' k = warmF z k ∧ coolF z' k = coolF z k := by
  have hs : ∀ n : Nat, z' (243 + 140 * z 20 + n) = z (243 + 140 * z 20 + n) := fun n => h _ (by omega)
  unfold warmF coolF
  rw [h 20 (by omega), tellsF_congr h (by omega) h20, lkF_congr hs]
  exact ⟨rfl, rfl⟩
theorem warm_in {z : zS} (hr : RoomOk z) (k : zS) : (0 ≤ warmF z k ∧ warmF z k ≤ 56000) ∧ (0 ≤ coolF z k ∧ coolF z k ≤ 56000) := by
  have h := lk_rng (k := k) (N := (tellsF z 228 0).toNat) (fun n hn => hr.2.2.1 n (by have := hr.2.1; omega)) (fun _ => 0) (tellsF z 228 0).toNat (Nat.le_refl _)
  have h2 := hr.2.1
  unfold warmF coolF
  omega
theorem rnF_in {z : zS} {r p : Int} : 0 ≤ rnF z r p ∧ rnF z r p ≤ 9 := by
  unfold rnF
  split
  · exact within_in _ _ _ (by decide)
  · omega
theorem goP_ok {z : zS} (h : SitOk z) (r on : Int) {p : Int} (hp : 0 ≤ p ∧ p < 6) : SitOk (goP z r on p) := by
  refine ⟨by rw [goP_hi _ _ _ hp (Or.inl (by decide))]; exact h.1, fun q h0 h6 => ?_⟩
  have hq := h.2 q h0 h6
  refine ⟨by rw [goP_hi _ _ _ hp (Or.inl (by omega))]; exact hq.1, ?_, ?_⟩
  · unfold goP
    by_cases e : q = p
    · subst e; rw [up_eq]; exact within_in _ _ _ (by decide)
    · rw [up_ne _ (by omega), up_ne _ (by omega)]; exact hq.2.1
  · unfold goP
    by_cases e : q = p
    · subst e; rw [up_ne _ (by omega), up_eq]; exact rnF_in
    · rw [up_ne _ (by omega), up_ne _ (by omega)]; exact hq.2.2
theorem goesF_ok {z : zS} (h : SitOk z) (r on : Int) : ∀ n : Nat, n ≤ 6 → SitOk (goesF z r on n)
  | 0, _ => h
  | n + 1, hn => goP_ok (goesF_ok h r on n (by omega)) r on (by omega)
theorem metsF_ne (z : zS) (r : Int) (m : zS) {j : Int} : ∀ n : Nat, (n : Int) ≤ j → metsF z r m n j = m j
  | 0, _ => rfl
  | n + 1, h => by
    show up _ _ _ j = _
    rw [up_ne _ (by omega)]
    exact metsF_ne z r m n (by omega)
/-- what a second leaves of the memory, apart from s and mets -/
def Sc (σ σ' : xM) : Prop := (∀ q, q ≠ 46 → q ≠ 47 → q ≠ 50 → q ≠ 51 → q ≠ 52 → σ' q = σ q) ∧ (∀ j, j ≠ 12 → j ≠ 13 → σ' 46 j = σ 46 j)
theorem Sc.trans {a b c : xM} (h1 : Sc a b) (h2 : Sc b c) : Sc a c := ⟨fun q x y w u v => (h2.1 q x y w u v).trans (h1.1 q x y w u v), fun j x y => (h2.2 j x y).trans (h1.2 j x y)⟩
theorem Sc.rf (a : xM) : Sc a a := ⟨fun _ _ _ _ _ _ => rfl, fun _ _ _ => rfl⟩
