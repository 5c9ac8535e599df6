/-! best of several; what changes where a fan or a sitter is set otherwise -/
def mnF (g : Int → Int) (b l k0 : Int) : Nat → Int × Int
  | 0 => (b, l)
  | n + 1 => if g (k0 + n) < (mnF g b l k0 n).2 then (k0 + n, g (k0 + n)) else mnF g b l k0 n
theorem mnF_s (g : Int → Int) (b l k0 : Int) (n : Nat) : mnF g b l k0 (n + 1) = if g (k0 + n) < (mnF g b l k0 n).2 then (k0 + n, g (k0 + n)) else mnF g b l k0 n := rfl
theorem mnF_le (g : Int → Int) (b l k0 : Int) : ∀ n, (mnF g b l k0 n).2 ≤ l
  | 0 => Int.le_refl _
  | n + 1 => by
    have := mnF_le g b l k0 n
    rw [mnF_s]; split
    · show g (k0 + n) ≤ l; omega
    · exact this
theorem mnF_ge {g : Int → Int} {b l k0 : Int} {N : Nat} {M : Int} (hl : M ≤ l) (h : ∀ k : Nat, k < N → M ≤ g (k0 + k)) : ∀ n, n ≤ N → M ≤ (mnF g b l k0 n).2
  | 0, _ => hl
  | n + 1, hn => by
    have := mnF_ge (b := b) hl h n (by omega)
    rw [mnF_s]; split
    · exact h n (by omega)
    · exact this
theorem mnF_b {g : Int → Int} {b l k0 : Int} : ∀ n, (mnF g b l k0 n).1 = b ∨ (k0 ≤ (mnF g b l k0 n).1 ∧ (mnF g b l k0 n).1 < k0 + n)
  | 0 => Or.inl rfl
  | n + 1 => by
    have := mnF_b (g := g) (b := b) (l := l) (k0 := k0) n
    rw [mnF_s]; split
    · right; show k0 ≤ k0 + n ∧ k0 + n < k0 + ((n + 1 : Nat) : Int); omega
    · omega
theorem RoomOk.c2 {z z' : zS} (h20 : z' 20 = z 20) (h : ∀ j, 118 ≤ j → z' j = z j) (hr : RoomOk z) : RoomOk z' := by
  have h0 := hr.1
  have ht : ∀ a b, 118 ≤ a → tellsF z' a b = tellsF z a b := by
    intro a b ha
    unfold tellsF
    rw [h20]
    split
    · rfl
    · rw [h _ (by omega)]
  by_cases hm : z 20 = -1
  · have e : ∀ a b, tellsF z a b = b := fun a b => if_pos hm
    unfold RoomOk
    rw [h20, ht _ _ (by omega), ht _ _ (by omega), ht _ _ (by omega), ht _ _ (by omega), ht _ _ (by omega)]
    refine ⟨hr.1, hr.2.1, fun n hn => ?_, hr.2.2.2⟩
    rw [e] at hn; omega
  · have hs : ∀ n : Nat, z' (243 + 140 * z 20 + n) = z (243 + 140 * z 20 + n) := fun n => h _ (by omega)
    unfold RoomOk at hr ⊢
    rw [h20, ht _ _ (by omega), ht _ _ (by omega), ht _ _ (by omega), ht _ _ (by omega), ht _ _ (by omega)]
    refine ⟨hr.1, hr.2.1, fun n hn => ?_, hr.2.2.2⟩
    rw [hs n, lkT_congr hs]
    exact hr.2.2.1 n hn
def setY (z : zS) (f a b : Int) : zS := up (up z (30 + f) a) (34 + f) b
theorem setY_sw (z : zS) (f a b c d : Int) : up (up (setY z f a b) (30 + f) c) (34 + f) d = setY z f c d := by
  funext j; unfold setY up
  by_cases h1 : j = 34 + f
  · simp [h1]
  · by_cases h2 : j = 30 + f <;> simp [h1, h2]
theorem setY_id (z : zS) (f : Int) : setY z f (z (30 + f)) (z (34 + f)) = z := by
  funext j; unfold setY up
  by_cases h1 : j = 34 + f
  · simp [h1]
  · by_cases h2 : j = 30 + f <;> simp [h1, h2]
theorem up_id (z : zS) (k : Int) : up z k (z k) = z := by
  funext j; unfold up; split
  · next h => rw [h]
  · rfl
theorem up_up (z : zS) (k v w : Int) : up (up z k v) k w = up z k w := by
  funext j; unfold up; split <;> rfl
theorem PlOk.set {z : zS} (h : PlOk z) {f a b : Int} (hf : 0 ≤ f ∧ f < 4) (hs : 0 ≤ a ∧ a ≤ b ∧ b ≤ 9) : PlOk (setY z f a b) := by
  obtain ⟨h1, h2, h3, h4⟩ := h
  refine ⟨⟨?_, fun i i0 i1 => ?_⟩, ⟨?_, fun p p0 p1 => ?_⟩, RoomOk.c2 ?_ (fun j hj => ?_) h3, ?_⟩
  · unfold setY; simp (disch := omega) only [up_ne]; exact h1.1
  · unfold setY at i1; simp (disch := omega) only [up_ne] at i1
    have := h1.1
    obtain ⟨a1, a2, a3, a4, a5, a6⟩ := h1.2 i i0 i1
    unfold FanOk setY
    by_cases e : i = f
    · subst e
      simp (disch := omega) only [up_ne, up_eq]
      exact ⟨a1, a2, by omega, a4, a5, fun k g0 g1 => by simp (disch := omega) only [up_ne]; exact a6 k g0 g1⟩
    · simp (disch := omega) only [up_ne]
      exact ⟨a1, a2, a3, a4, a5, fun k g0 g1 => by simp (disch := omega) only [up_ne]; exact a6 k g0 g1⟩
  · unfold setY; simp (disch := omega) only [up_ne]; exact h2.1
  · unfold setY; simp (disch := omega) only [up_ne]; exact h2.2 p p0 p1
  · unfold setY; simp (disch := omega) only [up_ne]
  · unfold setY; simp (disch := omega) only [up_ne]
  · unfold setY; simp (disch := omega) only [up_ne]; exact h4
theorem PlOk.pace {z : zS} (h : PlOk z) {f a : Int} (hf : 0 ≤ f ∧ f < 4) (hs : 1 ≤ a ∧ a ≤ 4) : PlOk (up z (38 + f) a) := by
  obtain ⟨h1, h2, h3, h4⟩ := h
  refine ⟨⟨?_, fun i i0 i1 => ?_⟩, ⟨?_, fun p p0 p1 => ?_⟩, RoomOk.c2 ?_ (fun j hj => ?_) h3, ?_⟩
  · simp (disch := omega) only [up_ne]; exact h1.1
  · simp (disch := omega) only [up_ne] at i1
    have := h1.1
    obtain ⟨a1, a2, a3, a4, a5, a6⟩ := h1.2 i i0 i1
    unfold FanOk
    by_cases e : i = f
    · subst e
      simp (disch := omega) only [up_ne, up_eq]
      exact ⟨a1, a2, a3, by omega, a5, fun k g0 g1 => by simp (disch := omega) only [up_ne]; exact a6 k g0 g1⟩
    · simp (disch := omega) only [up_ne]
      exact ⟨a1, a2, a3, a4, a5, fun k g0 g1 => by simp (disch := omega) only [up_ne]; exact a6 k g0 g1⟩
  · simp (disch := omega) only [up_ne]; exact h2.1
  · simp (disch := omega) only [up_ne]; exact h2.2 p p0 p1
  · simp (disch := omega) only [up_ne]
  · simp (disch := omega) only [up_ne]
  · simp (disch := omega) only [up_ne]; exact h4
theorem PlOk.on {z : zS} (h : PlOk z) {f a : Int} (hf : 0 ≤ f ∧ f < 4) (hs : a = 0 ∨ a = 1) : PlOk (up z (42 + f) a) := by
  obtain ⟨h1, h2, h3, h4⟩ := h
  refine ⟨⟨?_, fun i i0 i1 => ?_⟩, ⟨?_, fun p p0 p1 => ?_⟩, RoomOk.c2 ?_ (fun j hj => ?_) h3, ?_⟩
  · simp (disch := omega) only [up_ne]; exact h1.1
  · simp (disch := omega) only [up_ne] at i1
    have := h1.1
    obtain ⟨a1, a2, a3, a4, a5, a6⟩ := h1.2 i i0 i1
    unfold FanOk
    by_cases e : i = f
    · subst e
      simp (disch := omega) only [up_ne, up_eq]
      exact ⟨a1, a2, a3, a4, hs, fun k g0 g1 => by simp (disch := omega) only [up_ne]; exact a6 k g0 g1⟩
    · simp (disch := omega) only [up_ne]
      exact ⟨a1, a2, a3, a4, a5, fun k g0 g1 => by simp (disch := omega) only [up_ne]; exact a6 k g0 g1⟩
  · simp (disch := omega) only [up_ne]; exact h2.1
  · simp (disch := omega) only [up_ne]; exact h2.2 p p0 p1
  · simp (disch := omega) only [up_ne]
  · simp (disch := omega) only [up_ne]
  · simp (disch := omega) only [up_ne]; exact h4
theorem PlOk.sits {z : zS} (h : PlOk z) {f a : Int} (hf : 0 ≤ f ∧ f < 6) (hs : 0 ≤ a ∧ a ≤ 9) : PlOk (up z (62 + f) a) := by
  obtain ⟨h1, h2, h3, h4⟩ := h
  refine ⟨⟨?_, fun i i0 i1 => ?_⟩, ⟨?_, fun p p0 p1 => ?_⟩, RoomOk.c2 ?_ (fun j hj => ?_) h3, ?_⟩
  · simp (disch := omega) only [up_ne]; exact h1.1
  · simp (disch := omega) only [up_ne] at i1
    have := h1.1
    obtain ⟨a1, a2, a3, a4, a5, a6⟩ := h1.2 i i0 i1
    unfold FanOk
    simp (disch := omega) only [up_ne]
    exact ⟨a1, a2, a3, a4, a5, fun k g0 g1 => by simp (disch := omega) only [up_ne]; exact a6 k g0 g1⟩
  · simp (disch := omega) only [up_ne]; exact h2.1
  · obtain ⟨b1, b2, b3⟩ := h2.2 p p0 p1
    by_cases e : p = f
    · subst e; simp (disch := omega) only [up_ne, up_eq]; exact ⟨hs, b2, b3⟩
    · simp (disch := omega) only [up_ne]; exact ⟨b1, b2, b3⟩
  · simp (disch := omega) only [up_ne]
  · simp (disch := omega) only [up_ne]
  · simp (disch := omega) only [up_ne]; exact h4
/-- as Ask, but for s -/
def AskS (σ σ' : xM) : Prop := (∀ q, q ≠ 46 → q ≠ 47 → q ≠ 49 → q ≠ 50 → q ≠ 51 → q ≠ 52 → q ≠ 53 → σ' q = σ q) ∧ (∀ j, j ≠ 12 → j ≠ 13 → σ' 46 j = σ 46 j)
theorem AskS.rf (a : xM) : AskS a a := ⟨fun _ _ _ _ _ _ _ _ => rfl, fun _ _ _ => rfl⟩
theorem AskS.sw {a b : xM} (h : AskS a b) (f : zS) : AskS a (sw b 47 f) := ⟨fun q x y w u v t r => by rw [sw_ne _ y]; exact h.1 q x y w u v t r, fun j x y => by rw [sw_ne _ (by decide)]; exact h.2 j x y⟩
theorem AskS.ask {a b c : xM} (h : AskS a b) (h2 : Ask b c) : AskS a c := ⟨fun q x y w u v t r => (h2.1 q x w u v t r).trans (h.1 q x y w u v t r), fun j x y => (h2.2 j x y).trans (h.2 j x y)⟩
theorem AskS.to {a b : xM} (h : AskS a b) (h2 : b 47 = a 47) : Ask a b := ⟨fun q x w u v t r => by
    by_cases e : q = 47
    · subst e; exact h2
    · exact h.1 q x e w u v t r, h.2⟩
def hotI (z : zS) : Nat → Int
  | 0 => if z 14 = 0 then -5 else 0
  | n + 1 => if z (1 + hotI z n) < z (1 + (n + 1 : Nat)) then (n + 1 : Nat) else hotI z n
theorem hotI_in {z : zS} (h : 0 < z 14) : ∀ n, 0 ≤ hotI z n ∧ hotI z n ≤ n
  | 0 => by simp [hotI, show ¬ z 14 = 0 by omega]
  | n + 1 => by
    have := hotI_in h n
    unfold hotI; split <;> omega
def tooF (z : zS) (p : Int) : Nat → Nat → Int
  | 0, _ => -5
  | m + 1, n => if tellsF z 218 80 ≤ playF z n (1 + p) then n else tooF z p m (n + 1)
def seatF (z : zS) (p x : Int) (n : Nat) : Int := playF (up z (62 + p) x) n (1 + p)
