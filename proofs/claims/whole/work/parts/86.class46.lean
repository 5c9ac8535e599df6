/-! reading a clause -/
theorem RdS.start {σ : xM} {q : Nat} {D en ac sp op : Int} {z : zS} (h : RdH σ q z sp en) (h6 : σ q 6 = z (228 + ac) - D) : RdS σ σ q D (z (228 + ac)) en ac (sp, 0, op, z) :=
  ⟨⟨fun _ _ _ => rfl, fun _ _ _ _ => rfl⟩, h, h6, fun _ _ => rfl, fun k k0 k1 => by
    have : k < z (228 + ac) := k1
    omega⟩
theorem clause_tell {en ac wh sp n : Int} {u : Nat} {z : zS} {l s2 : Int} (hsp : spellF en u (sp, 0, 0, z) (sLn u).toNat = (l, 0, 0, z)) (e : figF en (l, 0, 0, z) = ((s2, 0, 0, z), n)) : tellF en ac wh u (sp, 0, 0, z) = (s2, 0, 0, up z (wh + ac) n) := by
  unfold tellF
  rw [hsp]
  dsimp only
  rw [e]
  exact if_pos rfl
theorem tell_w1 {en ac wh sp : Int} {u : Nat} {z : zS} (h : ¬ (spellF en u (sp, 0, 0, z) (sLn u).toNat).2.1 = 0) : (tellF en ac wh u (sp, 0, 0, z)).1 = (spellF en u (sp, 0, 0, z) (sLn u).toNat).1 ∧ ¬ (tellF en ac wh u (sp, 0, 0, z)).2.1 = 0 := by
  have e : figF en (spellF en u (sp, 0, 0, z) (sLn u).toNat) = (((spellF en u (sp, 0, 0, z) (sLn u).toNat).1, 1, (spellF en u (sp, 0, 0, z) (sLn u).toNat).2.2.1, (spellF en u (sp, 0, 0, z) (sLn u).toNat).2.2.2), 0) := if_pos (fun x => h x.1)
  unfold tellF
  dsimp only
  rw [e]
  dsimp only
  rw [if_neg (show ¬ ((1 : Int) = 0) by decide)]
  exact ⟨rfl, (show ¬ ((1 : Int) = 0) by decide)⟩
theorem tell_w2 {en ac wh sp l : Int} {u : Nat} {z : zS} (hsp : spellF en u (sp, 0, 0, z) (sLn u).toNat = (l, 0, 0, z)) (h : ¬ (figF en (l, 0, 0, z)).1.2.1 = 0) : (tellF en ac wh u (sp, 0, 0, z)).1 = l ∧ ¬ (tellF en ac wh u (sp, 0, 0, z)).2.1 = 0 := by
  unfold tellF
  rw [hsp]
  dsimp only
  rw [fig_w h]
  dsimp only
  rw [if_neg (show ¬ ((1 : Int) = 0) by decide)]
  exact ⟨rfl, (show ¬ ((1 : Int) = 0) by decide)⟩
theorem much_w {en ac neg wh : Int} {u : Nat} {t : pT} (h : ¬ (figF en (spellF en u t (sLn u).toNat)).1.2.1 = 0) : (muchF en ac neg u wh t).1 = (figF en (spellF en u t (sLn u).toNat)).1.1 ∧ ¬ (muchF en ac neg u wh t).2.1 = 0 := by
  have e1 := mustF_w (en := en) (c := 32) h
  have hw : (((figF en (spellF en u t (sLn u).toNat)).1.1, 1, (figF en (spellF en u t (sLn u).toNat)).1.2.2.1, (figF en (spellF en u t (sLn u).toNat)).1.2.2.2) : pT).2.1 ≠ 0 := (show (1 : Int) ≠ 0 by decide)
  unfold muchF
  dsimp only
  rw [e1, soF_w hw (facF_w hw 6), emF_w hw]
  exact ⟨rfl, (show ¬ ((1 : Int) = 0) by decide)⟩
theorem much_w1 {en ac neg wh sp : Int} {u : Nat} {z : zS} (h : ¬ (spellF en u (sp, 0, 0, z) (sLn u).toNat).2.1 = 0) : (muchF en ac neg u wh (sp, 0, 0, z)).1 = (spellF en u (sp, 0, 0, z) (sLn u).toNat).1 ∧ ¬ (muchF en ac neg u wh (sp, 0, 0, z)).2.1 = 0 := by
  have e : figF en (spellF en u (sp, 0, 0, z) (sLn u).toNat) = (((spellF en u (sp, 0, 0, z) (sLn u).toNat).1, 1, (spellF en u (sp, 0, 0, z) (sLn u).toNat).2.2.1, (spellF en u (sp, 0, 0, z) (sLn u).toNat).2.2.2), 0) := if_pos (fun x => h x.1)
  have := much_w (en := en) (ac := ac) (neg := neg) (wh := wh) (u := u) (t := (sp, 0, 0, z)) (by rw [e]; exact (show ¬ ((1 : Int) = 0) by decide))
  rw [e] at this
  exact this
theorem much_w2 {en ac neg wh sp l : Int} {u : Nat} {z : zS} (hsp : spellF en u (sp, 0, 0, z) (sLn u).toNat = (l, 0, 0, z)) (h : ¬ (figF en (l, 0, 0, z)).1.2.1 = 0) : (muchF en ac neg u wh (sp, 0, 0, z)).1 = l ∧ ¬ (muchF en ac neg u wh (sp, 0, 0, z)).2.1 = 0 := by
  have := much_w (en := en) (ac := ac) (neg := neg) (wh := wh) (u := u) (t := (sp, 0, 0, z)) (by rw [hsp]; exact h)
  rw [hsp, fig_w h] at this
  exact this
theorem much_e {en ac neg wh sp n : Int} {u : Nat} {z : zS} {l s2 : Int} (hsp : spellF en u (sp, 0, 0, z) (sLn u).toNat = (l, 0, 0, z)) (e : figF en (l, 0, 0, z) = ((s2, 0, 0, z), n)) : muchF en ac neg u wh (sp, 0, 0, z) = ((emF ac (neg - n) (soF en ac (facF en ac 6) (mustF en 32 (s2, 0, 0, z)))).1, (emF ac (neg - n) (soF en ac (facF en ac 6) (mustF en 32 (s2, 0, 0, z)))).2.1, (emF ac (neg - n) (soF en ac (facF en ac 6) (mustF en 32 (s2, 0, 0, z)))).2.2.1, up (emF ac (neg - n) (soF en ac (facF en ac 6) (mustF en 32 (s2, 0, 0, z)))).2.2.2 (wh + ac) 1) := by
  unfold muchF
  rw [hsp]
  dsimp only
  rw [e]