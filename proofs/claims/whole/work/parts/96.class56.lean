/-! THE LAW'S INVARIANT: the class's world and the reference's, the row z between them -/
def KP (σ : xM) (ρ : xR) (ks : xKs) (z : zS) : Prop := (σ 0 2 = 0 ∧ σ 46 4 = 0) ∨ (σ 0 2 = 1 ∧ σ 46 4 = 1 ∧ Inv (σ 48) ∧ HZ σ ρ ks 19 (σ 48) ∧ ∀ p, FPB 19 ρ (σ 48) p → ¬ FPB 1 ρ z p)
def TC (σ : xM) : Prop := σ 44 1 = σ 46 17 ∧ (0 ≤ σ 46 17 ∧ σ 46 17 ≤ 1000) ∧ ∀ j, 0 ≤ j → j < σ 46 17 → j < 20 → σ 45 j = σ 54 j
def LH (σ : xM) (ρ : xR) (ks : xKs) (z : zS) : Prop := 55 ≤ ks.length ∧ MK ks ∧ MW ρ ∧ WK ks ρ ∧ Inv z ∧ HZ σ ρ ks 1 z ∧ KP σ ρ ks z ∧ TC σ ∧ ∀ j, (j < 0 ∨ 943 ≤ j) → σ 48 j = 0
/-- the reference's cells changed, but what the invariant tells of them -/
theorem LH.ref {σ σ' : xM} {ρ : xR} {ks : xKs} {z : zS} (h : LH σ ρ ks z) (hm : ∀ p, (p < 46 ∨ 54 < p) → σ' p = σ p) (h4 : σ' 46 4 = σ 46 4) (h17 : σ' 46 17 = σ 46 17) (h48 : σ' 48 = σ 48) (h54 : σ' 54 = σ 54) : LH σ' ρ ks z := by
  obtain ⟨a1, a2, a3, a4, a5, a6, a7, a8, a9⟩ := h
  refine ⟨a1, a2, a3, a4, a5, a6.mem (by decide) (fun p hp => hm p (by omega)) (fun _ _ => rfl) (fun _ _ => rfl), ?_, ?_, by rw [h48]; exact a9⟩
  · unfold KP at *
    rw [h4, h48, hm 0 (by decide)]
    rcases a7 with a7 | ⟨b1, b2, b3, b4, b5⟩
    · exact Or.inl a7
    · exact Or.inr ⟨b1, b2, b3, b4.mem (by decide) (fun p hp => hm p (by omega)) (fun _ _ => rfl) (fun _ _ => rfl), b5⟩
  · unfold TC at *
    rw [h17, h54, hm 44 (by decide), hm 45 (by decide)]
    exact a8
/-- what a question of the class leaves -/
theorem LH.nx {σ σ' : xM} {ρ : xR} {ks : xKs} {z : zS} (h : LH σ ρ ks z) (hm : Nx σ σ') : LH σ' ρ ks z := by
  obtain ⟨a1, a2, a3, a4, a5, a6, a7, a8, a9⟩ := h
  have e : ∀ p, (p < 37 ∨ 43 < p) → σ' p = σ p := hm
  refine ⟨a1, a2, a3, a4, a5, a6.nx (by decide) hm, ?_, ?_, by rw [e 48 (by decide)]; exact a9⟩
  · unfold KP at *
    rw [e 48 (by decide), e 0 (by decide), e 46 (by decide)]
    rcases a7 with a7 | ⟨b1, b2, b3, b4, b5⟩
    · exact Or.inl a7
    · exact Or.inr ⟨b1, b2, b3, b4.nx (by decide) hm, b5⟩
  · unfold TC at *
    rw [e 46 (by decide), e 54 (by decide), e 44 (by decide), e 45 (by decide)]
    exact a8
theorem LH.ask {σ σ' : xM} {ρ : xR} {ks : xKs} {z : zS} (h : LH σ ρ ks z) (hm : Ask σ σ') : LH σ' ρ ks z := h.ref (fun p hp => hm.1 p (by omega) (by omega) (by omega) (by omega) (by omega) (by omega)) (hm.2 4 (by decide) (by decide)) (hm.2 17 (by decide) (by decide)) (hm.1 48 (by decide) (by decide) (by decide) (by decide) (by decide) (by decide)) (hm.1 54 (by decide) (by decide) (by decide) (by decide) (by decide) (by decide))
theorem FPB_1 {ρ : xR} {z : zS} {p : Nat} : FPB 1 ρ z p ↔ FP ρ z p := Iff.rfl
/-- what a call of the class that makes cells leaves; the row is then Z -/
theorem LH.gx {σ σ' : xM} {ρ ρ' : xR} {ks ks' : xKs} {z Z : zS} (h : LH σ ρ ks z) (hm : Gx σ σ' ρ ρ' ks ks' z) (hz : HZ σ' ρ' ks' 1 Z) (hw : WK ks' ρ') (hi : Inv Z) (hf : ∀ p, FP ρ' Z p → FP ρ z p ∨ ks.length ≤ p) : LH σ' ρ' ks' Z := by
  obtain ⟨a1, a2, a3, a4, a5, a6, a7, a8, a9⟩ := h
  obtain ⟨⟨m1, m2⟩, m3⟩ := hm
  have hn : ∀ p, p < 55 → ¬ FP ρ z p := fun p hp hq => by have := (HZ.fpb (B := 1) a6 hq).1; omega
  have e : ∀ p, (p = 0 ∨ 44 ≤ p) → p < 55 → σ' p = σ p ∧ ρ' p = ρ p := fun p hp h5 => m3 p (by omega) (by omega) (by omega) (hn p h5)
  refine ⟨by omega, ?_, ?_, hw, hi, hz, ?_, ?_, by rw [(e 48 (by omega) (by omega)).1]; exact a9⟩
  · unfold MK at *
    rw [m1 46 (by omega), m1 47 (by omega), m1 48 (by omega), m1 49 (by omega), m1 50 (by omega), m1 51 (by omega), m1 52 (by omega), m1 53 (by omega), m1 54 (by omega)]
    exact a2
  · unfold MW at *
    rw [(e 46 (by omega) (by omega)).2]
    exact a3
  · unfold KP at *
    rw [(e 48 (by omega) (by omega)).1, (e 46 (by omega) (by omega)).1, (e 0 (by omega) (by omega)).1]
    rcases a7 with a7 | ⟨b1, b2, b3, b4, b5⟩
    · exact Or.inl a7
    · refine Or.inr ⟨b1, b2, b3, b4.kept (Or.inr rfl) a6 a1 b5 (fun p p1 p2 p3 => m3 p p1 (by omega) (by omega) p3) m1, fun p hp hq => ?_⟩
      have hp2 : FPB 19 ρ (σ 48) p := by
        obtain ⟨f, y, x1, x2, x3⟩ := hp
        refine ⟨f, y, x1, ?_, x3⟩
        rw [(m3 20 (by omega) (by omega) (by omega) (hn 20 (by omega))).2] at x2
        exact x2
      rcases hf p hq with q1 | q1
      · exact b5 p hp2 q1
      · have := (b4.fpb hp2).2
        omega
  · unfold TC at *
    rw [(e 46 (by omega) (by omega)).1, (e 54 (by omega) (by omega)).1, (e 44 (by omega) (by omega)).1, (e 45 (by omega) (by omega)).1]
    exact a8
/-- what a call of the class that makes none leaves -/
theorem LH.hx {σ σ' : xM} {ρ : xR} {ks : xKs} {z Z : zS} (h : LH σ ρ ks z) (hm : Hx σ σ' ρ z) (hz : HZ σ' ρ ks 1 Z) (hi : Inv Z) (h13 : Z 13 = z 13) (h22 : ∀ f, 0 ≤ f → f < 4 → Z (22 + f) = z (22 + f)) : LH σ' ρ ks Z := by
  refine h.gx (ρ' := ρ) (ks' := ks) ⟨⟨fun _ _ => rfl, Nat.le_refl _⟩, fun p p1 p2 p3 p4 => ⟨hm p p2 p3 p4, rfl⟩⟩ hz h.2.2.2.1 hi (fun p hp => ?_)
  obtain ⟨f, y, ⟨x0, x1⟩, x2, x3⟩ := hp
  have := h.2.2.2.2.1.1.1.1
  rw [h13] at x1
  rw [h22 f x0 (by omega)] at x3
  exact Or.inl ⟨f, y, ⟨x0, x1⟩, x2, x3⟩
theorem LH.hx46 {σ σ' : xM} {ρ : xR} {ks : xKs} {z : zS} (h : LH σ ρ ks z) (hm : Hx σ σ' ρ z) (p : Nat) (h1 : 44 ≤ p) (h2 : p < 55) : σ' p = σ p :=
  hm p (by omega) (by omega) (fun hq => by have := (HZ.fpb (B := 1) h.2.2.2.2.2.1 hq).1; omega)
theorem LH.gx46 {σ σ' : xM} {ρ ρ' : xR} {ks ks' : xKs} {z : zS} (h : LH σ ρ ks z) (hm : Gx σ σ' ρ ρ' ks ks' z) (p : Nat) (h1 : 44 ≤ p) (h2 : p < 55) : σ' p = σ p :=
  (hm.2 p (by have := h.1; omega) (by omega) (by omega) (fun hq => by have := (HZ.fpb (B := 1) h.2.2.2.2.2.1 hq).1; omega)).1
/-- the reference's row set -/
theorem LH.swz {σ : xM} {ρ : xR} {ks : xKs} {Z : zS} (h : LH σ ρ ks Z) : LH (sw σ 47 Z) ρ ks (sw σ 47 Z 47) := by
  rw [sw_eq]
  exact h.ref (fun p hp => sw_ne _ (by omega) _) (by rw [sw_ne _ (by decide)]) (by rw [sw_ne _ (by decide)]) (sw_ne _ (by decide) _) (sw_ne _ (by decide) _)
/-! act -/
theorem pushL_same {a b : zS} {r : Int} : ∀ (l : List Int) (n : Int), 0 ≤ n → (∀ j, 0 ≤ j → j < r → a j = b j) → ∀ j, 0 ≤ j → j < r + l.length → pushL a r l j = pushL b r l j
  | [], n, _, h, j, j0, j1 => h j j0 (by simpa using j1)
  | x :: l, n, hn, h, j, j0, j1 => by
    show pushL (up a r x) (r + 1) l j = pushL (up b r x) (r + 1) l j
    refine pushL_same l n hn (fun k k0 k1 => ?_) j j0 (by simp only [List.length_cons] at j1; omega)
    by_cases hk : k = r
    · rw [hk, up_eq, up_eq]
    · rw [up_ne _ hk, up_ne _ hk]; exact h k k0 (by omega)
theorem blowsT_l (k : Int) : (blowsT k).length ≤ 2 := by
  unfold blowsT; split
  · simp
  · split <;> simp
theorem goesT_l (k : Int) : (goesT k).length ≤ 5 := by
  have := blowsT_l k
  unfold goesT; split
  · simp; omega
  · split <;> simp <;> omega
theorem tellsT_l (k : Int) : (tellsT k).length ≤ 9 := by
  have := blowsT_l k
  have := goesT_l k
  unfold tellsT; split
  · simp; omega
  · split <;> simp <;> omega
theorem actT_l (z : zS) (f a : Int) : (actT z f a).length ≤ 9 := by
  have := blowsT_l (z (22 + f))
  have := goesT_l (z (22 + f))
  have := tellsT_l (z (22 + f))
  unfold actT
  split
  · simp
  · split
    · omega
    · split <;> omega
theorem LH.act {σ σ1 σ2 : xM} {ρ : xR} {ks : xKs} {z : zS} {T : List Int} (h : LH σ ρ ks z) (hT : T.length ≤ 9) (m1 : ∀ p, p ≠ 44 → p ≠ 45 → σ1 p = σ p) (m2 : σ1 45 = pushL (σ 45) 0 T) (m3 : σ1 44 1 = T.length)
    (n1 : ∀ q, q ≠ 46 → q ≠ 54 → σ2 q = σ1 q) (n2 : ∀ j, j ≠ 17 → j ≠ 18 → j ≠ 19 → j ≠ 20 → σ2 46 j = σ1 46 j) (n3 : σ2 54 = pushL (σ1 54) 0 T) (n4 : σ2 46 17 = T.length) : LH σ2 ρ ks z := by
  obtain ⟨a1, a2, a3, a4, a5, a6, a7, a8, a9⟩ := h
  have e : ∀ p, p ≠ 44 → p ≠ 45 → p ≠ 46 → p ≠ 54 → σ2 p = σ p := fun p p1 p2 p3 p4 => (n1 p p3 p4).trans (m1 p p1 p2)
  refine ⟨a1, a2, a3, a4, a5, a6.mem (by decide) (fun p hp => e p (by omega) (by omega) (by omega) (by omega)) (fun _ _ => rfl) (fun _ _ => rfl), ?_, ?_, by rw [e 48 (by decide) (by decide) (by decide) (by decide)]; exact a9⟩
  · unfold KP at *
    rw [n2 4 (by decide) (by decide) (by decide) (by decide), m1 46 (by decide) (by decide), e 48 (by decide) (by decide) (by decide) (by decide), e 0 (by decide) (by decide) (by decide) (by decide)]
    rcases a7 with a7 | ⟨b1, b2, b3, b4, b5⟩
    · exact Or.inl a7
    · exact Or.inr ⟨b1, b2, b3, b4.mem (by decide) (fun p hp => e p (by omega) (by omega) (by omega) (by omega)) (fun _ _ => rfl) (fun _ _ => rfl), b5⟩
  · unfold TC
    rw [n1 44 (by decide) (by decide), n1 45 (by decide) (by decide), m2, m3, n3, n4, m1 54 (by decide) (by decide)]
    exact ⟨rfl, by omega, fun j j0 j1 _ => pushL_same T 0 (Int.le_refl _) (fun k k0 k1 => by omega) j j0 (by omega)⟩
/-! image, undo -/
theorem ci48_e {σ : xM} (h : ∀ j, (j < 0 ∨ 943 ≤ j) → σ 47 j = 0) (h2 : ∀ j, (j < 0 ∨ 943 ≤ j) → σ 48 j = 0) : ci48 σ 943 = σ 47 := by
  funext j; unfold ci48
  by_cases hj : 0 ≤ j ∧ j < 943
  · rw [if_pos hj]
  · rw [if_neg hj, h j (by omega), h2 j (by omega)]
theorem ci47_e {σ : xM} (h : ∀ j, (j < 0 ∨ 943 ≤ j) → σ 47 j = 0) (h2 : ∀ j, (j < 0 ∨ 943 ≤ j) → σ 48 j = 0) : ci47 σ 943 = σ 48 := by
  funext j; unfold ci47
  by_cases hj : 0 ≤ j ∧ j < 943
  · rw [if_pos hj]
  · rw [if_neg hj, h j (by omega), h2 j (by omega)]
/-- behind the class's image or undo; zk is the row that both halls now show -/
theorem LH.img {σ σ1 σ2 : xM} {ρ ρ1 : xR} {ks ks1 : xKs} {z zk : zS} (h : LH σ ρ ks z) (hi : Inv zk) (g1 : HZ σ1 ρ1 ks1 1 zk) (g2 : HZ σ1 ρ1 ks1 19 zk) (g3 : WK ks1 ρ1) (g4 : σ1 0 2 = 1) (g5 : (∀ p, p < ks.length → ks1[p]? = ks[p]?) ∧ ks.length ≤ ks1.length) (g6 : ∀ p, p < ks.length → 37 ≤ p → σ1 p = σ p ∧ ρ1 p = ρ p) (g7 : ∀ p, FPB 19 ρ1 zk p → ¬ FPB 1 ρ1 zk p)
    (n1 : ∀ p, (p < 46 ∨ 54 < p) → σ2 p = σ1 p) (n2 : σ2 46 4 = 1) (n3 : σ2 46 17 = σ1 46 17) (n4 : σ2 48 = zk) (n5 : σ2 54 = σ1 54) : LH σ2 ρ1 ks1 zk := by
  obtain ⟨a1, a2, a3, a4, a5, a6, a7, a8, a9⟩ := h
  have e : ∀ p, 44 ≤ p → p < 55 → σ1 p = σ p ∧ ρ1 p = ρ p := fun p p1 p2 => g6 p (by omega) (by omega)
  refine ⟨by omega, ?_, ?_, g3, hi, g1.mem (by decide) (fun p hp => n1 p (by omega)) (fun _ _ => rfl) (fun _ _ => rfl), ?_, ?_, by rw [n4]; exact hi.2.2.2.2.2.2.2.2.2⟩
  · unfold MK at *
    rw [g5.1 46 (by omega), g5.1 47 (by omega), g5.1 48 (by omega), g5.1 49 (by omega), g5.1 50 (by omega), g5.1 51 (by omega), g5.1 52 (by omega), g5.1 53 (by omega), g5.1 54 (by omega)]
    exact a2
  · unfold MW at *
    rw [(e 46 (by omega) (by omega)).2]
    exact a3
  · unfold KP
    rw [n4, n2, n1 0 (by decide)]
    exact Or.inr ⟨g4, rfl, hi, g2.mem (by decide) (fun p hp => n1 p (by omega)) (fun _ _ => rfl) (fun _ _ => rfl), g7⟩
  · unfold TC at *
    rw [n1 44 (by decide), n1 45 (by decide), n3, n5, (e 44 (by omega) (by omega)).1, (e 45 (by omega) (by omega)).1, (e 46 (by omega) (by omega)).1, (e 54 (by omega) (by omega)).1]
    exact a8