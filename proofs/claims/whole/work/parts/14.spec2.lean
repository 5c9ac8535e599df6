/-! seconds -/
theorem chain_s (g : Int → Int) (n : Nat) : chain g (n + 1) = bOr (chain g n) (g n) := rfl
theorem sumTo_s (g : Int → Int) (n : Nat) : sumTo g (n + 1) = sumTo g n + g n := rfl
def byF (z : zS) (p on : Int) : zS := fun j => if j = 0 then p else if j = 1 then z (62 + p) else if j = 2 then z (1 + p) / 10 else if j = 3 then z (7 + p) else if j = 4 then z 0 % 10 else on
/-- one step of a ROOM's E: truths, how many, warmed, cooled -/
abbrev zL : Type := zS × Int × Int × Int
def lk1 (k : zS) (step : Int) (u : zL) : zL :=
  if 0 ≤ step then (up u.1 u.2.1 (bI ((step / 8 % 4 = 0 ∧ k (step % 8) < step / 32) ∨ (step / 8 % 4 = 1 ∧ k (step % 8) = step / 32) ∨ (step / 8 % 4 ≠ 0 ∧ step / 8 % 4 ≠ 1 ∧ step / 32 < k (step % 8)))), u.2.1 + 1, u.2.2)
  else if step = -1 then (up u.1 (u.2.1 - 1) (bI (u.1 (u.2.1 - 1) = 0)), u.2)
  else if -10 < step then (up u.1 (u.2.1 - 2) (bI (if step = -2 then (u.1 (u.2.1 - 2) ≠ 0 ∧ u.1 (u.2.1 - 1) ≠ 0) else (u.1 (u.2.1 - 2) ≠ 0 ∨ u.1 (u.2.1 - 1) ≠ 0))), u.2.1 - 1, u.2.2)
  else (u.1, 0, u.2.2.1 + (if u.1 0 ≠ 0 ∧ -200 < step then -10 - step else 0), u.2.2.2 + (if u.1 0 ≠ 0 ∧ step ≤ -200 then -200 - step else 0))
def lkF (z : zS) (fr : Int) (k : zS) (u : zL) : Nat → zL
  | 0 => u
  | n + 1 => lk1 k (z (fr + n)) (lkF z fr k u n)
/-- how many truths are open behind n steps -/
def lkT (z : zS) (fr : Int) : Nat → Int
  | 0 => 0
  | n + 1 => if 0 ≤ z (fr + n) then lkT z fr n + 1 else if z (fr + n) = -1 then lkT z fr n else if -10 < z (fr + n) then lkT z fr n - 1 else 0
theorem lkF_top (z : zS) (fr : Int) (k : zS) (u : zL) (hu : u.2.1 = 0) : ∀ n, (lkF z fr k u n).2.1 = lkT z fr n
  | 0 => hu
  | n + 1 => by
    have ih := lkF_top z fr k u hu n
    show (lk1 k (z (fr + n)) (lkF z fr k u n)).2.1 = _
    unfold lk1 lkT
    split
    · simp only [ih]
    · split
      · simp only [ih]
      · split
        · simp only [ih]
        · rfl
/-- a step may stand there -/
def stepOk (step top : Int) : Prop := (-400 ≤ step ∧ step ≤ 10000) ∧ (0 ≤ top ∧ top ≤ 60) ∧ (0 ≤ step → step % 8 ≤ 5) ∧ (step = -1 → 1 ≤ top) ∧ (step < -1 → -10 < step → 2 ≤ top) ∧ (step ≤ -10 → 1 ≤ top)
/-- the ROOM that holds -/
def RoomOk (z : zS) : Prop := (-1 ≤ z 20 ∧ z 20 ≤ 4) ∧ (0 ≤ tellsF z 228 0 ∧ tellsF z 228 0 ≤ 140) ∧ (∀ n : Nat, (n : Int) < tellsF z 228 0 → stepOk (z (243 + 140 * z 20 + n)) (lkT z (243 + 140 * z 20) n)) ∧ (0 ≤ tellsF z 218 80 ∧ tellsF z 218 80 ≤ 99) ∧ (0 ≤ tellsF z 223 3 ∧ tellsF z 223 3 ≤ 99) ∧ (tellsF z 233 0 = 0 ∨ tellsF z 233 0 = 1) ∧ (tellsF z 238 0 = 0 ∨ tellsF z 238 0 = 1)
def warmF (z k : zS) : Int := (lkF z (243 + 140 * z 20) k (fun _ => 0, 0, 0, 0) (tellsF z 228 0).toNat).2.2.1
def coolF (z k : zS) : Int := (lkF z (243 + 140 * z 20) k (fun _ => 0, 0, 0, 0) (tellsF z 228 0).toNat).2.2.2
theorem lk_ok {z : zS} {fr : Int} {k : zS} {N : Nat} (h : ∀ n : Nat, n < N → stepOk (z (fr + n)) (lkT z fr n)) (tr0 : zS) : ∀ n : Nat, n ≤ N → (∀ j, 0 ≤ j → j < lkT z fr n → ((lkF z fr k (tr0, 0, 0, 0) n).1 j = 0 ∨ (lkF z fr k (tr0, 0, 0, 0) n).1 j = 1) ∧ (lkF z fr k (tr0, 0, 0, 0) n).1 j = (lkF z fr k (fun _ => 0, 0, 0, 0) n).1 j) ∧ (lkF z fr k (tr0, 0, 0, 0) n).2.2 = (lkF z fr k (fun _ => 0, 0, 0, 0) n).2.2
  | 0, _ => ⟨fun j h1 h2 => by simp only [lkT] at h2; omega, rfl⟩
  | n + 1, hn => by
    obtain ⟨ih, ihe⟩ := lk_ok h tr0 n (by omega)
    have e1 := lkF_top z fr k (tr0, 0, 0, 0) rfl n
    have e2 := lkF_top z fr k (fun _ => 0, 0, 0, 0) rfl n
    obtain ⟨a1, a2, a3, a4, a5, a6⟩ := h n (by omega)
    show (∀ j, 0 ≤ j → j < lkT z fr (n + 1) → ((lk1 k (z (fr + n)) (lkF z fr k (tr0, 0, 0, 0) n)).1 j = 0 ∨ (lk1 k (z (fr + n)) (lkF z fr k (tr0, 0, 0, 0) n)).1 j = 1) ∧ (lk1 k (z (fr + n)) (lkF z fr k (tr0, 0, 0, 0) n)).1 j = (lk1 k (z (fr + n)) (lkF z fr k (fun _ => 0, 0, 0, 0) n)).1 j) ∧ (lk1 k (z (fr + n)) (lkF z fr k (tr0, 0, 0, 0) n)).2.2 = (lk1 k (z (fr + n)) (lkF z fr k (fun _ => 0, 0, 0, 0) n)).2.2
    have hT : lkT z fr (n + 1) = if 0 ≤ z (fr + n) then lkT z fr n + 1 else if z (fr + n) = -1 then lkT z fr n else if -10 < z (fr + n) then lkT z fr n - 1 else 0 := rfl
    rw [hT]
    generalize lkF z fr k (tr0, 0, 0, 0) n = u at *
    generalize lkF z fr k (fun _ => 0, 0, 0, 0) n = v at *
    obtain ⟨u1, u2, u3⟩ := u
    obtain ⟨v1, v2, v3⟩ := v
    simp only at e1 e2 ih ihe
    subst e1; subst e2; subst ihe
    generalize lkT z fr n = T at *
    generalize z (fr + n) = step at *
    by_cases c1 : 0 ≤ step
    · simp only [lk1, if_pos c1]
      refine ⟨fun j h1 h2 => ?_, trivial⟩
      by_cases hj : j = T
      · subst hj; simp only [up_eq]; exact ⟨bI_01 _, trivial⟩
      · simp only [up_ne _ hj]; exact ih j h1 (by omega)
    · by_cases c2 : step = -1
      · have g := ih (T - 1) (by omega) (by omega)
        simp only [lk1, if_neg c1, if_pos c2]
        refine ⟨fun j h1 h2 => ?_, trivial⟩
        by_cases hj : j = T - 1
        · subst hj; simp only [up_eq, g.2]; exact ⟨bI_01 _, trivial⟩
        · simp only [up_ne _ hj]; exact ih j h1 (by omega)
      · by_cases c3 : -10 < step
        · have g := ih (T - 1) (by omega) (by omega)
          have g2 := ih (T - 2) (by omega) (by omega)
          simp only [lk1, if_neg c1, if_neg c2, if_pos c3]
          refine ⟨fun j h1 h2 => ?_, trivial⟩
          by_cases hj : j = T - 2
          · subst hj; simp only [up_eq, g.2, g2.2]; exact ⟨bI_01 _, trivial⟩
          · simp only [up_ne _ hj]; exact ih j h1 (by omega)
        · have g := ih 0 (by omega) (by omega)
          simp only [lk1, if_neg c1, if_neg c2, if_neg c3, g.2]
          exact ⟨fun j h1 h2 => by omega, trivial⟩
theorem lk_rng {z : zS} {fr : Int} {k : zS} {N : Nat} (h : ∀ n : Nat, n < N → stepOk (z (fr + n)) (lkT z fr n)) (tr0 : zS) : ∀ n : Nat, n ≤ N → (0 ≤ (lkF z fr k (tr0, 0, 0, 0) n).2.2.1 ∧ (lkF z fr k (tr0, 0, 0, 0) n).2.2.1 ≤ 400 * n) ∧ (0 ≤ (lkF z fr k (tr0, 0, 0, 0) n).2.2.2 ∧ (lkF z fr k (tr0, 0, 0, 0) n).2.2.2 ≤ 400 * n)
  | 0, _ => by simp [lkF]
  | n + 1, hn => by
    have ih := lk_rng (k := k) h tr0 n (by omega)
    obtain ⟨a1, a2, a3, a4, a5, a6⟩ := h n (by omega)
    show (0 ≤ (lk1 k (z (fr + n)) (lkF z fr k (tr0, 0, 0, 0) n)).2.2.1 ∧ (lk1 k (z (fr + n)) (lkF z fr k (tr0, 0, 0, 0) n)).2.2.1 ≤ 400 * ((n + 1 : Nat) : Int)) ∧ (0 ≤ (lk1 k (z (fr + n)) (lkF z fr k (tr0, 0, 0, 0) n)).2.2.2 ∧ (lk1 k (z (fr + n)) (lkF z fr k (tr0, 0, 0, 0) n)).2.2.2 ≤ 400 * ((n + 1 : Nat) : Int))
    generalize lkF z fr k (tr0, 0, 0, 0) n = u at *
    obtain ⟨u1, u2, u3, u4⟩ := u
    simp only at ih
    unfold lk1
    split
    · simp only; omega
    · split
      · simp only; omega
      · split
        · simp only; omega
        · simp only
          refine ⟨?_, ?_⟩
          · split <;> omega
          · split <;> omega
/-- a sitter's second -/
def rnF (z : zS) (reached p : Int) : Int := if bAnd (bShr reached (z (62 + p))) 1 = 1 then withinF (z (7 + p) + 1) 0 9 else 0
def htF (z z1 : zS) (p on : Int) : Int := z (1 + p) + (if tellsF z1 233 0 = 1 then warmF z1 (byF z1 p on) else 2)
def clF (z1 : zS) (p on : Int) : Int := if tellsF z1 238 0 = 1 then coolF z1 (byF z1 p on) else withinF (6 - z1 (7 + p)) 1 6
def goP (z : zS) (reached on p : Int) : zS :=
  let z1 := up z (7 + p) (rnF z reached p)
  up z1 (1 + p) (withinF (if bAnd (bShr reached (z (62 + p))) 1 = 1 then htF z z1 p on - clF z1 p on else htF z z1 p on) 0 99)
def goesF (z : zS) (reached on : Int) : Nat → zS
  | 0 => z
  | n + 1 => goP (goesF z reached on n) reached on n
def metsF (z : zS) (reached : Int) (m : zS) : Nat → zS
  | 0 => m
  | n + 1 => up (metsF z reached m n) n (metsF z reached m n n + bI (bAnd (bShr reached (z (62 + n))) 1 = 1))
/-- a second of all -/
def secF (z : zS) (reached on : Int) : zS := up (goesF z reached on (z 14).toNat) 0 (goesF z reached on (z 14).toNat 0 + 1)
def sec1 (z : zS) : zS := secF z (reachedF z (z 0) (z 13).toNat) (onManyF z (z 13).toNat)
def playF (z : zS) : Nat → zS
  | 0 => z
  | n + 1 => sec1 (playF z n)
def playM (z m : zS) : Nat → zS
  | 0 => m
  | n + 1 => metsF (playF z n) (reachedF (playF z n) (playF z n 0) (playF z n 13).toNat) (playM z m n) (playF z n 14).toNat
def mx2 (a b : Int) : Int := if b < a then a else b
def greatF (z : zS) : Nat → Int
  | 0 => 0
  | n + 1 => mx2 (z (1 + n)) (greatF z n)
def allF (z : zS) (n : Nat) : Int := sumTo (fun p => z (1 + p)) n
/-! ranges -/
theorem within_in (v lo hi : Int) (h : lo ≤ hi) : lo ≤ withinF v lo hi ∧ withinF v lo hi ≤ hi := by
  unfold withinF
  split
  · omega
  · split <;> omega
theorem greatF_in {z : zS} {N : Nat} (h : ∀ p : Nat, p < N → 0 ≤ z (1 + p) ∧ z (1 + p) ≤ 99) : ∀ n, n ≤ N → 0 ≤ greatF z n ∧ greatF z n ≤ 99
  | 0, _ => ⟨by simp [greatF], by simp [greatF]⟩
  | n + 1, hn => by
    have ih := greatF_in h n (by omega)
    have h1 := h n (by omega)
    show 0 ≤ mx2 (z (1 + n)) (greatF z n) ∧ mx2 (z (1 + n)) (greatF z n) ≤ 99
    unfold mx2; split <;> omega
theorem sumTo_in {g : Int → Int} {N : Nat} {M : Int} (h : ∀ p : Nat, p < N → 0 ≤ g p ∧ g p ≤ M) : ∀ n, n ≤ N → 0 ≤ sumTo g n ∧ sumTo g n ≤ M * n
  | 0, _ => by simp [sumTo]
  | n + 1, hn => by
    have ih := sumTo_in h n (by omega)
    have h1 := h n (by omega)
    show 0 ≤ sumTo g n + g n ∧ sumTo g n + g n ≤ M * ((n + 1 : Nat) : Int)
    have : M * ((n + 1 : Nat) : Int) = M * n + M := by rw [show ((n + 1 : Nat) : Int) = (n : Int) + 1 from rfl, Int.mul_add, Int.mul_one]
    omega
