def testF (en ac : Int) (t : pT) : pT :=
  if amF en 4 t = -1 then (t.1, 1, t.2.2) else if amF en 5 (t.1 + 1, t.2) = -1 then (t.1 + 1, 1, t.2.2)
  else emF ac (amF en 4 t + 8 * amF en 5 (t.1 + 1, t.2) + 32 * (figF en (t.1 + 2, t.2)).2) (figF en (t.1 + 2, t.2)).1
def evL (en ac c v : Int) (fac : pT → pT) : Nat → pT → pT
  | 0, t => t
  | m + 1, t => if t.2.1 = 0 ∧ hereF t.2.2.2 t.1 en = c then evL en ac c v fac m (emF ac v (fac (t.1 + 1, t.2))) else t
def evF (en ac c v : Int) (fac : pT → pT) (t : pT) : pT := evL en ac c v fac 101 (fac t)
def opn (t : pT) : pT := if t.2.2.1 = 5 then (t.1, 1, t.2.2.1 + 1, t.2.2.2) else (t.1 + 1, t.2.1, t.2.2.1 + 1, t.2.2.2)
def bck (t : pT) : pT := (t.1, t.2.1, t.2.2.1 - 1, t.2.2.2)
def soF (en ac : Int) (fac : pT → pT) (t : pT) : pT := evF en ac 124 (-3) (evF en ac 38 (-2) fac) t
def facF (en ac : Int) : Nat → pT → pT
  | 0, t => t
  | n + 1, t => if t.2.1 ≠ 0 then t else if hereF t.2.2.2 t.1 en = 33 then bck (emF ac (-1) (facF en ac n (opn t)))
    else if hereF t.2.2.2 t.1 en = 40 then bck (mustF en 41 (soF en ac (facF en ac n) (opn t))) else testF en ac t
/-- what a piece of the parser keeps -/
def PGo (en ac : Int) (t t' : pT) : Prop := PIn en ac t' ∧ t.1 ≤ t'.1 ∧ t'.2.2.1 = t.2.2.1 ∧ (t'.2.1 = 0 → t.2.1 = 0 ∧ t.1 - t.2.2.2 (228 + ac) ≤ t'.1 - t'.2.2.2 (228 + ac))
theorem PGo.rf {en ac : Int} {t : pT} (h : PIn en ac t) : PGo en ac t t := ⟨h, Int.le_refl _, rfl, fun h2 => ⟨h2, Int.le_refl _⟩⟩
theorem PGo.tr {en ac : Int} {a b c : pT} (h : PGo en ac a b) (h2 : PGo en ac b c) : PGo en ac a c :=
  ⟨h2.1, Int.le_trans h.2.1 h2.2.1, h2.2.2.1.trans h.2.2.1, fun w => by
    have e2 := h2.2.2.2 w
    have e1 := h.2.2.2 e2.1
    exact ⟨e1.1, by omega⟩⟩
theorem must_go {en ac c : Int} {t : pT} (h : PIn en ac t) (he : en ≤ 100) (hc : 0 ≤ c) : PGo en ac t (mustF en c t) := by
  have hi := must_in (c := c) h he hc
  refine ⟨hi, ?_, ?_, ?_⟩
  · unfold mustF; split <;> simp only <;> omega
  · unfold mustF; split <;> rfl
  · unfold mustF; split
    · next hw => intro _; exact ⟨hw.1, by simp only; omega⟩
    · intro h; exact absurd h (by simp)
theorem fig_go {en ac : Int} {t : pT} (h : PIn en ac t) (he : en ≤ 100) : PGo en ac t (figF en t).1 ∧ ((figF en t).1.2.1 = 0 → t.1 + 1 ≤ (figF en t).1.1 ∧ (figF en t).1.2.2.2 = t.2.2.2) := by
  have hi := (fig_in h he).1
  refine ⟨⟨hi, ?_, ?_, ?_⟩, ?_⟩
  · unfold figF; split
    · simp only; omega
    · split <;> simp only <;> omega
  · unfold figF; split
    · rfl
    · split <;> rfl
  · unfold figF; split
    · intro h; exact absurd h (by simp)
    · split
      · intro _; exact ⟨by omega, by simp only; omega⟩
      · intro _; exact ⟨by omega, by simp only; omega⟩
  · unfold figF; split
    · intro h; exact absurd h (by simp)
    · split
      · intro _; exact ⟨by simp only; omega, rfl⟩
      · intro _; exact ⟨by simp only; omega, rfl⟩
/-- a step is emitted where a sign more than steps was taken -/
theorem em_go {en ac v : Int} {t t' : pT} (h : PIn en ac t') (ha : 0 ≤ ac ∧ ac ≤ 4) (h1 : t.1 ≤ t'.1) (h2 : t'.2.2.1 = t.2.2.1) (h0 : PIn en ac t) (h3 : t'.2.1 = 0 → t.2.1 = 0 ∧ t.1 - t.2.2.2 (228 + ac) + 1 ≤ t'.1 - t'.2.2.2 (228 + ac)) : PGo en ac t (emF ac v t') := by
  have hi : PIn en ac (emF ac v t') := em_in h (fun w => by have := h3 w; have := h0.2.2.2.1; omega) ha
  refine ⟨hi, ?_, ?_, ?_⟩
  · unfold emF; split <;> exact h1
  · unfold emF; split <;> exact h2
  · unfold emF; split
    · next hw => intro _; have := h3 hw; exact ⟨this.1, by simp only; rw [up_eq]; omega⟩
    · next hw => intro h; exact absurd h hw
theorem emF_1 (ac v : Int) (t : pT) : (emF ac v t).1 = t.1 := by unfold emF; split <;> rfl
theorem emF_op (ac v : Int) (t : pT) : (emF ac v t).2.2.1 = t.2.2.1 := by unfold emF; split <;> rfl
theorem emF_c {ac v : Int} {t : pT} (ha : 0 ≤ ac ∧ ac ≤ 4) (h : (emF ac v t).2.1 = 0) : t.2.1 = 0 ∧ (emF ac v t).2.2.2 (228 + ac) = t.2.2.2 (228 + ac) + 1 := by
  by_cases hw : t.2.1 = 0
  · exact ⟨hw, by unfold emF; rw [if_pos hw]; exact up_eq _ _ _⟩
  · unfold emF at h; rw [if_neg hw] at h; exact absurd h hw
theorem PIn.adv {en ac : Int} {t : pT} (h : PIn en ac t) (he : t.1 < en) : PIn en ac (t.1 + 1, t.2) := by
  obtain ⟨h1, h2, h3, h4, h5⟩ := h
  exact ⟨by simp only; omega, h2, h3, by simp only; omega, h5⟩
theorem evL_go {en ac c v : Int} {fac : pT → pT} (ha : 0 ≤ ac ∧ ac ≤ 4) (he : en ≤ 100) (hc : 0 ≤ c) (hf : ∀ t, PIn en ac t → PGo en ac t (fac t)) : ∀ (m : Nat) (t : pT), PIn en ac t → PGo en ac t (evL en ac c v fac m t)
  | 0, t, h => PGo.rf h
  | m + 1, t, h => by
    unfold evL
    split
    · next hw =>
      have hh := here_in h.2.2.2.2 h.1.1 he
      have hA := h.adv (show t.1 < en by omega)
      have h1 := hf _ hA
      have h2 : PGo en ac t (emF ac v (fac (t.1 + 1, t.2))) := em_go h1.1 ha (by have := h1.2.1; simp only at this; omega) h1.2.2.1 h (fun w => by have := h1.2.2.2 w; simp only at this; omega)
      exact h2.tr (evL_go ha he hc hf m _ h2.1)
    · exact PGo.rf h
theorem evF_go {en ac c v : Int} {fac : pT → pT} (ha : 0 ≤ ac ∧ ac ≤ 4) (he : en ≤ 100) (hc : 0 ≤ c) (hf : ∀ t, PIn en ac t → PGo en ac t (fac t)) (t : pT) (h : PIn en ac t) : PGo en ac t (evF en ac c v fac t) :=
  (hf t h).tr (evL_go ha he hc hf 101 _ (hf t h).1)
theorem soF_go {en ac : Int} {fac : pT → pT} (ha : 0 ≤ ac ∧ ac ≤ 4) (he : en ≤ 100) (hf : ∀ t, PIn en ac t → PGo en ac t (fac t)) (t : pT) (h : PIn en ac t) : PGo en ac t (soF en ac fac t) :=
  evF_go ha he (by decide) (fun t h => evF_go ha he (by decide) hf t h) t h
theorem am_in {en : Int} {u : Nat} {t : pT} (hu : u < 6) : -1 ≤ amF en u t ∧ amF en u t < sLn u := by
  have hl := sLn_in hu
  have := amI_in (hereF t.2.2.2 t.1 en) u (sLn u).toNat 0 (by decide)
  unfold amF; omega
theorem amI_m1 {u : Nat} (hu : u < 6) : ∀ (n : Nat) (k : Int), 0 ≤ k → k + n ≤ sLn u → amI (-1) u n k = -1
  | 0, _, _, _ => rfl
  | n + 1, k, h0, h => by
    unfold amI
    rw [if_neg (by have := (sB_k (k := k) hu (by omega)).2.1; omega)]
    exact amI_m1 hu n (k + 1) (by omega) (by omega)
theorem am_lt {en ac : Int} {u : Nat} {t : pT} (hu : u < 6) (h : PIn en ac t) (he : en ≤ 100) (hf : amF en u t ≠ -1) : t.1 < en := by
  have hl := sLn_in hu
  have hh := here_in h.2.2.2.2 h.1.1 he
  rcases hh.2.2 with e | e
  · exfalso; apply hf; unfold amF; rw [e]; exact amI_m1 hu _ 0 (by decide) (by omega)
  · exact e
theorem test_go {en ac : Int} {t : pT} (ha : 0 ≤ ac ∧ ac ≤ 4) (he : en ≤ 100) (h : PIn en ac t) (hw : t.2.1 = 0) : PGo en ac t (testF en ac t) := by
  have wr1 : ∀ x : Int, t.1 ≤ x → x ≤ en → PGo en ac t (x, 1, t.2.2) := fun x x0 x1 => ⟨⟨by have := h.1; simp only; omega, Or.inr rfl, ⟨h.2.2.1.1, h.2.2.1.2.1, fun h => absurd h (by simp)⟩, by have := h.2.2.2.1; simp only; omega, h.2.2.2.2⟩, x0, rfl, fun h => absurd h (by simp)⟩
  unfold testF
  split
  · exact wr1 _ (Int.le_refl _) h.1.2
  · next h4 =>
    have l1 := am_lt (by decide) h he h4
    have hA := h.adv l1
    split
    · exact wr1 _ (by omega) (by omega)
    · next h5 =>
      have l2 := am_lt (by decide) hA he h5
      have hB := hA.adv l2
      simp only at hB l2
      rw [show t.1 + 1 + 1 = t.1 + 2 by omega] at hB
      obtain ⟨g1, g2⟩ := fig_go hB he
      exact em_go g1.1 ha (by have := g1.2.1; simp only at this; omega) g1.2.2.1 h (fun w => by have := g2 w; have := g1.2.2.2 w; simp only at *; omega)
theorem opn_in {en ac : Int} {t : pT} (h : PIn en ac t) (hw : t.2.1 = 0) (hl : t.1 < en) : PIn en ac (opn t) := by
  obtain ⟨h1, h2, h3, h4, h5⟩ := h
  have h6 := h3.2.2 hw
  unfold opn
  split
  · exact ⟨h1, Or.inr rfl, ⟨by simp only; omega, by simp only; omega, fun h => absurd h (by simp)⟩, h4, h5⟩
  · exact ⟨by simp only; omega, h2, ⟨by simp only; omega, by simp only; omega, fun _ => by simp only; omega⟩, by simp only; omega, h5⟩
theorem fac_go {en ac : Int} (ha : 0 ≤ ac ∧ ac ≤ 4) (he : en ≤ 100) : ∀ (n : Nat) (t : pT), PIn en ac t → PGo en ac t (facF en ac n t)
  | 0, t, h => PGo.rf h
  | n + 1, t, h => by
    unfold facF
    split
    · exact PGo.rf h
    · next hw =>
      have hw0 : t.2.1 = 0 := by omega
      have hh := here_in h.2.2.2.2 h.1.1 he
      have hb : ∀ t2 : pT, PIn en ac t2 → (opn t).1 ≤ t2.1 → t2.2.2.1 = (opn t).2.2.1 → (t2.2.1 = 0 → t.1 - t.2.2.2 (228 + ac) ≤ t2.1 - t2.2.2.2 (228 + ac)) → PGo en ac t (bck t2) := by
        intro t2 ⟨k1, k2, k3, k4, k5⟩ g2 g3 hs
        have h6 := h.2.2.1.2.2 hw0
        have o1 : t.1 ≤ (opn t).1 := by unfold opn; split <;> simp only <;> omega
        have o3 : (opn t).2.2.1 = t.2.2.1 + 1 := by unfold opn; split <;> rfl
        have h30 := h.2.2.1.1
        exact ⟨⟨k1, k2, ⟨by simp only [bck]; omega, by simp only [bck]; omega, fun _ => by simp only [bck]; omega⟩, k4, k5⟩, by simp only [bck]; omega, by simp only [bck]; omega, fun w => ⟨hw0, hs w⟩⟩
      have ho : ∀ t2 : pT, PGo en ac (opn t) t2 → t2.2.1 = 0 → (opn t).2.1 = 0 ∧ t.1 + 1 - t.2.2.2 (228 + ac) ≤ t2.1 - t2.2.2.2 (228 + ac) := by
        intro t2 g w
        have e := g.2.2.2 w
        refine ⟨e.1, ?_⟩
        have e1 := e.1
        have e2 := e.2
        unfold opn at e1 e2
        split at e1
        · exact absurd e1 (by simp)
        · next h5 => rw [if_neg h5] at e2; exact e2
      split
      · next h33 =>
        have hl : t.1 < en := by omega
        have g := fac_go ha he n _ (opn_in h hw0 hl)
        refine hb _ (em_in g.1 (fun w => by have := (ho _ g w).2; have := h.2.2.2.1; omega) ha) (by rw [emF_1]; exact g.2.1) (by rw [emF_op]; exact g.2.2.1) (fun w => ?_)
        obtain ⟨e1, e2⟩ := emF_c ha w
        rw [emF_1, e2]
        have := (ho _ g e1).2
        omega
      · split
        · next h40 =>
          have hl : t.1 < en := by omega
          have g := soF_go ha he (fac_go ha he n) _ (opn_in h hw0 hl)
          have g2 := g.tr (must_go (c := 41) g.1 he (by decide))
          exact hb _ g2.1 g2.2.1 g2.2.2.1 (fun w => by have := (ho _ g2 w).2; omega)
        · exact test_go ha he h hw0