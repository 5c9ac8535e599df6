/-! WHAT THE ANSWERS ARE, over one row of numbers z (the reference's s): 0 second, 1.. heat, 7.. run, 13 fans, 14 sitters, 15 rooms, 16 seen, 17 ruled, 18 booked, 19 taped, 20 holding, 21 flown, 22.. kind, 26.. v, 30.. from, 34.. to, 38.. pace, 42.. on, 46.. row, 62.. sits, 68.. seen who, 74.. when, 80.. heat, 86.. rule fan, 90.. long, 94.. book fan, 102.. when, 110.. where, 118.. tape, 218.. hot, 223.. fly, 228.. steps' number, 233.. has warm, 238.. has cool, 243.. steps -/
abbrev zS : Type := Int → Int
def up (z : zS) (k v : Int) : zS := fun j => if j = k then v else z j
theorem up_eq (z : zS) (k v : Int) : up z k v k = v := if_pos rfl
theorem up_ne (z : zS) {k j : Int} (h : j ≠ k) (v : Int) : up z k v j = z j := if_neg h
/-- a whole cell is replaced -/
def sw (σ : xM) (p : Nat) (f : zS) : xM := fun q => if q = p then f else σ q
theorem sw_eq (σ : xM) (p : Nat) (f : zS) : sw σ p f p = f := if_pos rfl
theorem sw_ne (σ : xM) {p q : Nat} (h : q ≠ p) (f : zS) : sw σ p f q = σ q := if_neg h
theorem wr_sw (σ : xM) (p : Nat) (k v : Int) : wr σ p k v = sw σ p (up (σ p) k v) := by
  funext q j
  unfold wr sw up
  by_cases h : q = p
  · subst h; by_cases h2 : j = k <;> simp [h2]
  · simp [h]
theorem sw_sw (σ : xM) (p : Nat) (f g : zS) : sw (sw σ p f) p g = sw σ p g := by
  funext q; unfold sw; by_cases h : q = p <;> simp [h]
theorem sw_id (σ : xM) (p : Nat) : sw σ p (σ p) = σ := by
  funext q; unfold sw; by_cases h : q = p
  · subst h; simp
  · simp [h]
theorem sw_id' {σ : xM} {p : Nat} {f : zS} (h : f = σ p) : sw σ p f = σ := by rw [h, sw_id]
/-- chain of ors -/
def chain (g : Int → Int) : Nat → Int
  | 0 => 0
  | n + 1 => bOr (chain g n) (g n)
def sumTo (g : Int → Int) : Nat → Int
  | 0 => 0
  | n + 1 => sumTo g n + g n
/-- to and fro -/
def swingF (z : zS) (f t : Int) : Int :=
  let fr := z (30 + f)
  let far := z (34 + f) - fr
  let pace := z (38 + f)
  let ends := pace + z (26 + f)
  let left := t % (2 * ends + 2 * (far - 1) * pace)
  if far = 0 then fr else if left < ends then fr else if left - ends < (far - 1) * pace then fr + 1 + (left - ends) / pace
  else if left - ends - (far - 1) * pace < ends then fr + far else fr + far - 1 - (left - ends - (far - 1) * pace - ends) / pace
def isAtF (z : zS) (f t : Int) : Int :=
  if z (22 + f) = 1 ∨ z (22 + f) = 4 then swingF z f t
  else if z (22 + f) = 2 then z (30 + f) + t / z (38 + f) % (z (34 + f) - z (30 + f) + 1)
  else if z (22 + f) = 3 then z (26 + f)
  else if z (22 + f) = 5 then (if z 14 = 0 then z (30 + f) else z (62 + t / 10 % z 14))
  else if z (22 + f) = 6 then z (46 + 4 * f + t / z (38 + f) % 4)
  else z (30 + f)
def withinF (v lo hi : Int) : Int := if v < lo then lo else if hi < v then hi else v
def reachF (z : zS) (f t : Int) : Int := bOr (bShl 1 (isAtF z f t)) (if z (22 + f) = 4 then bShl 1 (withinF (isAtF z f t + 1) 0 9) else 0)
def reachedF (z : zS) (t : Int) (n : Nat) : Int := chain (fun f => if z (42 + f) = 1 then reachF z f t else 0) n
def metByF (z : zS) (p t : Int) (n : Nat) : Int := chain (fun f => if z (42 + f) = 1 ∧ bAnd (bShr (reachF z f t) (z (62 + p))) 1 = 1 then bShl 1 f else 0) n
def onManyF (z : zS) (n : Nat) : Int := sumTo (fun f => z (42 + f)) n
/-- a fan's numbers -/
def FanOk (z : zS) (f : Int) : Prop := (0 ≤ z (22 + f) ∧ z (22 + f) ≤ 6) ∧ (0 ≤ z (26 + f) ∧ z (26 + f) ≤ 9) ∧ (0 ≤ z (30 + f) ∧ z (30 + f) ≤ z (34 + f) ∧ z (34 + f) ≤ 9) ∧ (1 ≤ z (38 + f) ∧ z (38 + f) ≤ 4) ∧ (z (42 + f) = 0 ∨ z (42 + f) = 1) ∧ (∀ k, 0 ≤ k → k < 4 → 0 ≤ z (46 + 4 * f + k) ∧ z (46 + 4 * f + k) ≤ 9)
def FansOk (z : zS) : Prop := (0 ≤ z 13 ∧ z 13 ≤ 4) ∧ ∀ f, 0 ≤ f → f < z 13 → FanOk z f
def SitOk (z : zS) : Prop := (0 ≤ z 14 ∧ z 14 ≤ 6) ∧ ∀ p, 0 ≤ p → p < 6 → (0 ≤ z (62 + p) ∧ z (62 + p) ≤ 9) ∧ (0 ≤ z (1 + p) ∧ z (1 + p) ≤ 99) ∧ (0 ≤ z (7 + p) ∧ z (7 + p) ≤ 9)
theorem tdiv_lt {t d : Int} (h : 0 ≤ t) (hd : 1 ≤ d) : 0 ≤ t / d ∧ t / d ≤ t := ⟨Int.ediv_nonneg h (by omega), Int.ediv_le_self _ h⟩
theorem emod_in {t d : Int} (hd : 1 ≤ d) : 0 ≤ t % d ∧ t % d < d := ⟨Int.emod_nonneg _ (by omega), Int.emod_lt_of_pos _ (by omega)⟩
/-- pace by pace: the way's pieces are small -/
theorem sw_small {a p : Int} (ha : 0 ≤ a) (ha2 : a ≤ 8) (hp : 1 ≤ p) (hp2 : p ≤ 4) : 0 ≤ a * p ∧ a * p ≤ 32 := by
  rcases (show p = 1 ∨ p = 2 ∨ p = 3 ∨ p = 4 by omega) with h | h | h | h <;> subst h <;> omega
theorem swing_in {z : zS} {f t : Int} (h : FanOk z f) (ht : 0 ≤ t) : z (30 + f) ≤ swingF z f t ∧ swingF z f t ≤ z (34 + f) := by
  obtain ⟨-, h2, h3, h4, -, -⟩ := h
  unfold swingF
  dsimp only
  by_cases hf : z (34 + f) - z (30 + f) = 0
  · rw [if_pos hf]; omega
  · rw [if_neg hf]
    generalize ha : z (34 + f) - z (30 + f) - 1 = a
    have ha0 : 0 ≤ a ∧ a ≤ 8 := by omega
    generalize hp : z (38 + f) = p at *
    generalize hv : z (26 + f) = v at *
    have hs := sw_small ha0.1 ha0.2 h4.1 h4.2
    have e2 : 2 * a * p = 2 * (a * p) := Int.mul_assoc _ _ _
    rw [e2]
    generalize hq : a * p = q at *
    have hm := emod_in (t := t) (d := 2 * (p + v) + 2 * q) (by omega)
    generalize hl : t % (2 * (p + v) + 2 * q) = l at *
    by_cases c1 : l < p + v
    · rw [if_pos c1]; omega
    · rw [if_neg c1]
      by_cases c2 : l - (p + v) < q
      · rw [if_pos c2]
        have h5 : (l - (p + v)) / p < a := Int.ediv_lt_of_lt_mul (by omega) (by rw [hq]; exact c2)
        have h6 : 0 ≤ (l - (p + v)) / p := Int.ediv_nonneg (by omega) (by omega)
        omega
      · rw [if_neg c2]
        by_cases c3 : l - (p + v) - q < p + v
        · rw [if_pos c3]; omega
        · rw [if_neg c3]
          have h5 : (l - (p + v) - q - (p + v)) / p < a := Int.ediv_lt_of_lt_mul (by omega) (by rw [hq]; omega)
          have h6 : 0 ≤ (l - (p + v) - q - (p + v)) / p := Int.ediv_nonneg (by omega) (by omega)
          omega
theorem isAt_in {z : zS} {f t : Int} (h : FanOk z f) (hs : SitOk z) (ht : 0 ≤ t) : 0 ≤ isAtF z f t ∧ isAtF z f t ≤ 9 := by
  have hsw := swing_in h ht
  obtain ⟨h1, h2, h3, h4, -, h6⟩ := h
  unfold isAtF
  split
  · omega
  · split
    · have := emod_in (t := t / z (38 + f)) (d := z (34 + f) - z (30 + f) + 1) (by omega)
      omega
    · split
      · omega
      · split
        · split
          · omega
          · have hm := emod_in (t := t / 10) (d := z 14) (by have := hs.1; omega)
            have := (hs.2 (t / 10 % z 14) hm.1 (by have := hs.1; omega)).1
            exact this
        · split
          · have hm := emod_in (t := t / z (38 + f)) (d := 4) (by omega)
            exact h6 _ hm.1 hm.2
          · omega
