theorem byF_in {z : zS} {p on : Int} (h0 : 0 ≤ p ∧ p < 6) (h1 : 0 ≤ z (62 + p) ∧ z (62 + p) ≤ 9) (h2 : 0 ≤ z (1 + p) ∧ z (1 + p) ≤ 99) (h3 : 0 ≤ z (7 + p) ∧ z (7 + p) ≤ 9) (h5 : 0 ≤ on ∧ on ≤ 4) (j : Int) : 0 ≤ byF z p on j ∧ byF z p on j ≤ 9 := by
  unfold byF
  split
  · omega
  · split
    · omega
    · split
      · omega
      · split
        · omega
        · split <;> omega
/-- what looks leaves of the memory -/
def Lk (σ σ' : xM) : Prop := (∀ q, q ≠ 46 → q ≠ 50 → q ≠ 51 → σ' q = σ q) ∧ (∀ j, j ≠ 12 → j ≠ 13 → σ' 46 j = σ 46 j)
theorem Lk.trans {a b c : xM} (h1 : Lk a b) (h2 : Lk b c) : Lk a c := ⟨fun q x y w => (h2.1 q x y w).trans (h1.1 q x y w), fun j x y => (h2.2 j x y).trans (h1.2 j x y)⟩
theorem lk1_A {k : zS} {step : Int} {u : zL} (h : 0 ≤ step) : lk1 k step u = (up u.1 u.2.1 (bI ((step / 8 % 4 = 0 ∧ k (step % 8) < step / 32) ∨ (step / 8 % 4 = 1 ∧ k (step % 8) = step / 32) ∨ (step / 8 % 4 ≠ 0 ∧ step / 8 % 4 ≠ 1 ∧ step / 32 < k (step % 8)))), u.2.1 + 1, u.2.2) := if_pos h
theorem lk1_B {k : zS} {step : Int} {u : zL} (h : step = -1) : lk1 k step u = (up u.1 (u.2.1 - 1) (bI (u.1 (u.2.1 - 1) = 0)), u.2) := by unfold lk1; rw [if_neg (by omega), if_pos h]
theorem lk1_C {k : zS} {step : Int} {u : zL} (h : step < -1) (h2 : -10 < step) : lk1 k step u = (up u.1 (u.2.1 - 2) (bI (if step = -2 then (u.1 (u.2.1 - 2) ≠ 0 ∧ u.1 (u.2.1 - 1) ≠ 0) else (u.1 (u.2.1 - 2) ≠ 0 ∨ u.1 (u.2.1 - 1) ≠ 0))), u.2.1 - 1, u.2.2) := by unfold lk1; rw [if_neg (by omega), if_neg (by omega), if_pos h2]
theorem lk1_D {k : zS} {step : Int} {u : zL} (h : step ≤ -10) : lk1 k step u = (u.1, 0, u.2.2.1 + (if u.1 0 ≠ 0 ∧ -200 < step then -10 - step else 0), u.2.2.2 + (if u.1 0 ≠ 0 ∧ step ≤ -200 then -200 - step else 0)) := by unfold lk1; rw [if_neg (by omega), if_neg (by omega), if_neg (by omega)]
