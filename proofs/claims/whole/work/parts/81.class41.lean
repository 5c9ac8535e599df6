/-! what the reference's parser writes: steps that push one truth, at most so many at once -/
def Seg (w : zS) (fr : Int) (a b : Nat) (H : Int) : Prop := lkT w fr b = lkT w fr a + 1 ∧ ∀ m : Nat, a ≤ m → m ≤ b → lkT w fr a ≤ lkT w fr m ∧ lkT w fr m ≤ lkT w fr a + H ∧ (m < b → okS (w (fr + m)) ∧ -3 ≤ w (fr + m) ∧ w (fr + m) ≤ 10000 ∧ (w (fr + m) < 0 → lkT w fr a + 1 ≤ lkT w fr m) ∧ (w (fr + m) < -1 → lkT w fr a + 2 ≤ lkT w fr m))
theorem okS_n {s : Int} (h : s < 0) : okS s := fun h0 => absurd h0 (by omega)
theorem Seg.test {w : zS} {fr H : Int} {a : Nat} (h0 : 0 ≤ w (fr + a)) (h1 : okS (w (fr + a))) (h2 : w (fr + a) ≤ 10000) (hH : 1 ≤ H) : Seg w fr a (a + 1) H := by
  have e : lkT w fr (a + 1) = lkT w fr a + 1 := by show (if 0 ≤ w (fr + a) then _ else _) = _; rw [if_pos h0]
  refine ⟨e, fun m m1 m2 => ?_⟩
  rcases (show m = a ∨ m = a + 1 by omega) with rfl | rfl
  · exact ⟨by omega, by omega, fun _ => ⟨h1, by omega, h2, by omega, by omega⟩⟩
  · exact ⟨by omega, by omega, fun h => absurd h (by omega)⟩
theorem Seg.not {w : zS} {fr H : Int} {a b : Nat} (h : Seg w fr a b H) (hab : a ≤ b) (hv : w (fr + b) = -1) (hH : 1 ≤ H) : Seg w fr a (b + 1) H := by
  obtain ⟨h1, h2⟩ := h
  have e : lkT w fr (b + 1) = lkT w fr b := by show (if 0 ≤ w (fr + b) then _ else if w (fr + b) = -1 then _ else _) = _; rw [if_neg (by omega), if_pos hv]
  refine ⟨by omega, fun m m1 m2 => ?_⟩
  by_cases hm : m ≤ b
  · obtain ⟨g1, g2, g3⟩ := h2 m m1 hm
    refine ⟨g1, g2, fun _ => ?_⟩
    by_cases hb : m < b
    · exact g3 hb
    · have e2 : m = b := by omega
      subst e2
      exact ⟨okS_n (by omega), by omega, by omega, by omega, by omega⟩
  · have e2 : m = b + 1 := by omega
    subst e2
    exact ⟨by omega, by omega, fun h => absurd h (by omega)⟩
theorem Seg.join {w : zS} {fr H H1 : Int} {a b d : Nat} (h : Seg w fr a b H) (h' : Seg w fr b d H1) (hab : a ≤ b) (hbd : b ≤ d) (hv : w (fr + d) = -2 ∨ w (fr + d) = -3) (hH : H1 + 1 ≤ H) (h1H : 1 ≤ H1) : Seg w fr a (d + 1) H := by
  obtain ⟨h1, h2⟩ := h
  obtain ⟨h3, h4⟩ := h'
  have e : lkT w fr (d + 1) = lkT w fr d - 1 := by show (if 0 ≤ w (fr + d) then _ else if w (fr + d) = -1 then _ else if -10 < w (fr + d) then _ else _) = _; rw [if_neg (by omega), if_neg (by omega), if_pos (by omega)]
  refine ⟨by omega, fun m m1 m2 => ?_⟩
  by_cases hm : m < b
  · obtain ⟨g1, g2, g3⟩ := h2 m m1 (by omega)
    exact ⟨g1, g2, fun _ => g3 hm⟩
  · by_cases hd : m < d
    · obtain ⟨g1, g2, g3⟩ := h4 m (by omega) (by omega)
      obtain ⟨u1, u2, u3, u4, u5⟩ := g3 hd
      exact ⟨by omega, by omega, fun _ => ⟨u1, u2, u3, fun x => by have := u4 x; omega, fun x => by have := u5 x; omega⟩⟩
    · by_cases hd2 : m = d
      · subst hd2
        exact ⟨by omega, by omega, fun _ => ⟨okS_n (by omega), by omega, by omega, by omega, by omega⟩⟩
      · have e2 : m = d + 1 := by omega
        subst e2
        exact ⟨by omega, by omega, fun h => absurd h (by omega)⟩
theorem Seg.wide {w : zS} {fr H H1 : Int} {a b : Nat} (h : Seg w fr a b H) (hH : H ≤ H1) : Seg w fr a b H1 :=
  ⟨h.1, fun m m1 m2 => ⟨(h.2 m m1 m2).1, by have := (h.2 m m1 m2).2.1; omega, (h.2 m m1 m2).2.2⟩⟩
def EmG (ac H : Int) (t t' : pT) : Prop := t'.2.1 = 0 → ∃ a b : Nat, t.2.2.2 (228 + ac) = a ∧ t'.2.2.2 (228 + ac) = b ∧ a ≤ b ∧ (∀ j, j ≠ 228 + ac → (j < 243 + 140 * ac + a ∨ 243 + 140 * ac + b ≤ j) → t'.2.2.2 j = t.2.2.2 j) ∧ ∀ w : zS, (∀ j : Int, 243 + 140 * ac + a ≤ j → j < 243 + 140 * ac + b → w j = t'.2.2.2 j) → Seg w (243 + 140 * ac) a b H
theorem EmG.wide {ac H H1 : Int} {t t' : pT} (h : EmG ac H t t') (hH : H ≤ H1) : EmG ac H1 t t' := fun hw => by
  obtain ⟨a, b, h1, h2, h3, h4, h5⟩ := h hw
  exact ⟨a, b, h1, h2, h3, h4, fun w hw => (h5 w hw).wide hH⟩
/-- the same but for the sign it stands at, how many are open, and that it is not wrong -/
theorem EmG.src {ac H : Int} {t u t' : pT} (h : EmG ac H t t') (e : u.2.2.2 = t.2.2.2) : EmG ac H u t' := by unfold EmG at *; rw [e]; exact h
theorem EmG.dst {ac H : Int} {t t' u : pT} (h : EmG ac H t t') (e : u.2.2.2 = t'.2.2.2) (hw : u.2.1 = 0 → t'.2.1 = 0) : EmG ac H t u := fun h0 => by
  have := h (hw h0)
  rw [e]; exact this
theorem emF_e {ac v : Int} {t : pT} (h : t.2.1 = 0) : emF ac v t = (t.1, 0, t.2.2.1, up (up t.2.2.2 (243 + 140 * ac + t.2.2.2 (228 + ac)) v) (228 + ac) (t.2.2.2 (228 + ac) + 1)) := if_pos h
theorem emF_0 {ac v : Int} {t : pT} (h : (emF ac v t).2.1 = 0) : t.2.1 = 0 := by
  revert h; unfold emF; split
  · next hw => intro _; exact hw
  · intro h; exact h
theorem EmG.not {ac H : Int} {t t' : pT} (h : EmG ac H t t') (ha : 0 ≤ ac ∧ ac ≤ 4) (hH : 1 ≤ H) : EmG ac H t (emF ac (-1) t') := fun h0 => by
  have hw := emF_0 h0
  obtain ⟨a, b, h1, h2, h3, h4, h5⟩ := h hw
  rw [emF_e hw]
  refine ⟨a, b + 1, h1, ?_, by omega, fun j j1 j2 => ?_, fun w hww => ?_⟩
  · show up _ (228 + ac) _ (228 + ac) = _
    rw [up_eq, h2]; rfl
  · show up (up _ _ _) _ _ j = _
    rw [up_ne _ j1, up_ne _ (by omega)]
    exact h4 j j1 (by omega)
  · have hw2 : ∀ j : Int, 243 + 140 * ac + a ≤ j → j < 243 + 140 * ac + b → w j = t'.2.2.2 j := fun j j1 j2 => by
      rw [hww j j1 (by omega)]
      show up (up _ _ _) _ _ j = _
      rw [up_ne _ (by omega), up_ne _ (by omega)]
    refine (h5 w hw2).not h3 ?_ hH
    rw [hww _ (by omega) (by omega)]
    show up (up _ _ _) _ _ _ = _
    rw [up_ne _ (by omega), h2, up_eq]
theorem EmG.join {ac H H1 v : Int} {t x u y : pT} (h : EmG ac H t x) (hx : x.2.1 = 0) (hu : u.2.2.2 = x.2.2.2) (h' : EmG ac H1 u y) (ha : 0 ≤ ac ∧ ac ≤ 4) (hv : v = -2 ∨ v = -3) (hH : H1 + 1 ≤ H) (h1H : 1 ≤ H1) : EmG ac H t (emF ac v y) := fun h0 => by
  have hw := emF_0 h0
  obtain ⟨a, b, h1, h2, h3, h4, h5⟩ := h hx
  obtain ⟨b', d, g1, g2, g3, g4, g5⟩ := h' hw
  rw [hu] at g1 g4
  have hbb : b' = b := by omega
  subst hbb
  rw [emF_e hw]
  refine ⟨a, d + 1, h1, ?_, by omega, fun j j1 j2 => ?_, fun w hww => ?_⟩
  · show up _ (228 + ac) _ (228 + ac) = _
    rw [up_eq, g2]; rfl
  · show up (up _ _ _) _ _ j = _
    rw [up_ne _ j1, up_ne _ (by omega), g4 j j1 (by omega)]
    exact h4 j j1 (by omega)
  · have hw2 : ∀ j : Int, 243 + 140 * ac + a ≤ j → j < 243 + 140 * ac + d → w j = y.2.2.2 j := fun j j1 j2 => by
      rw [hww j j1 (by omega)]
      show up (up _ _ _) _ _ j = _
      rw [up_ne _ (by omega), up_ne _ (by omega)]
    refine (h5 w (fun j j1 j2 => ?_)).join (g5 w (fun j j1 j2 => hw2 j (by omega) j2)) h3 g3 ?_ hH h1H
    · rw [hw2 j j1 (by omega)]
      exact g4 j (by omega) (by omega)
    · rw [hww _ (by omega) (by omega)]
      have : up (up y.2.2.2 (243 + 140 * ac + y.2.2.2 (228 + ac)) v) (228 + ac) (y.2.2.2 (228 + ac) + 1) (243 + 140 * ac + (d : Int)) = v := by
        rw [up_ne _ (by omega), g2, up_eq]
      show up (up _ _ _) _ _ _ = _ ∨ up (up _ _ _) _ _ _ = _
      rw [this]; exact hv
theorem test_em {en ac : Int} {t : pT} (ha : 0 ≤ ac ∧ ac ≤ 4) (he : en ≤ 100) (h : PIn en ac t) (hw : t.2.1 = 0) : EmG ac 1 t (testF en ac t) := by
  obtain ⟨sp, wg, op, z⟩ := t
  simp only at hw
  subst hw
  obtain ⟨p1, p2, p3, p4, p5⟩ := h
  simp only at p1 p3 p4 p5
  have am1 := am_in (en := en) (u := 4) (t := (sp, 0, op, z)) (by decide)
  have am2 := am_in (en := en) (u := 5) (t := (sp + 1, 0, op, z)) (by decide)
  have l4 : sLn 4 = 6 := by decide
  have l5 : sLn 5 = 3 := by decide
  intro h0
  unfold testF at h0 ⊢
  split at h0
  · exact absurd h0 (show ¬ ((1 : Int) = 0) by decide)
  · next n1 =>
    split at h0
    · exact absurd h0 (show ¬ ((1 : Int) = 0) by decide)
    · next n2 =>
      rw [if_neg n1, if_neg n2]
      dsimp only at n1 n2 h0 ⊢
      have hf := emF_0 h0
      obtain ⟨e1, e2, e3, e4, e5⟩ := fig_sp hf p5 (by omega) he
      obtain ⟨k1, k2, k3⟩ := trS_mk (a := amF en 4 (sp, 0, op, z)) (b := amF en 5 (sp + 1, 0, op, z)) (n := (figF en (sp + 2, 0, op, z)).2) (by omega) (by omega) ⟨e4, e5⟩
      rw [emF_e hf, e1]
      dsimp only
      obtain ⟨a, ha0⟩ : ∃ a : Nat, z (228 + ac) = a := ⟨(z (228 + ac)).toNat, by omega⟩
      refine ⟨a, a + 1, ha0, ?_, by omega, fun j j1 j2 => ?_, fun w hww => ?_⟩
      · show up _ (228 + ac) _ (228 + ac) = _
        rw [up_eq, ha0]; rfl
      · show up (up _ _ _) _ _ j = _
        rw [up_ne _ j1, up_ne _ (by omega)]
      · have hv : w (243 + 140 * ac + (a : Int)) = amF en 4 (sp, 0, op, z) + 8 * amF en 5 (sp + 1, 0, op, z) + 32 * (figF en (sp + 2, 0, op, z)).2 := by
          rw [hww _ (by omega) (by omega)]
          show up (up _ _ _) _ _ _ = _
          rw [up_ne _ (by omega), ha0, up_eq]
        exact Seg.test (by rw [hv]; exact k3) (by rw [hv]; exact k2) (by rw [hv]; omega) (by decide)
theorem evL_em {en ac c v H H1 : Int} {fac : pT → pT} (ha : 0 ≤ ac ∧ ac ≤ 4) (he : en ≤ 100) (hc : 0 ≤ c) (hv : v = -2 ∨ v = -3) (hH : H1 + 1 ≤ H) (h1H : 1 ≤ H1) {t0 : pT} (hf : ∀ t, PIn en ac t → PGo en ac t (fac t)) (hfe : ∀ t, PIn en ac t → t.2.1 = 0 → t.2.2.1 = t0.2.2.1 → EmG ac H1 t (fac t)) : ∀ (m : Nat) (x : pT), PIn en ac x → x.2.2.1 = t0.2.2.1 → EmG ac H t0 x → EmG ac H t0 (evL en ac c v fac m x)
  | 0, _, _, _, h => h
  | m + 1, x, hp, ho, h => by
    show EmG ac H t0 (if x.2.1 = 0 ∧ hereF x.2.2.2 x.1 en = c then _ else _)
    split
    · next hx =>
      have hlt : x.1 < en := by
        have := here_in hp.2.2.2.2 hp.1.1 he
        omega
      have hp1 := hp.adv hlt
      have hg := hf _ hp1
      have hj := h.join (u := (x.1 + 1, x.2)) hx.1 rfl (hfe _ hp1 hx.1 ho) ha hv hH h1H
      refine evL_em ha he hc hv hH h1H hf hfe m _ ?_ ?_ hj
      · have := evL_go (v := v) ha he hc hf 1 x hp
        have e : evL en ac c v fac 1 x = emF ac v (fac (x.1 + 1, x.2)) := by
          show (if x.2.1 = 0 ∧ hereF x.2.2.2 x.1 en = c then evL en ac c v fac 0 (emF ac v (fac (x.1 + 1, x.2))) else x) = _
          rw [if_pos hx]; rfl
        rw [e] at this
        exact this.1
      · rw [emF_op, hg.2.2.1]; exact ho
    · exact h
theorem soF_em {en ac H : Int} {fac : pT → pT} (ha : 0 ≤ ac ∧ ac ≤ 4) (he : en ≤ 100) (h1H : 1 ≤ H) {t : pT} (hf : ∀ t, PIn en ac t → PGo en ac t (fac t)) (hfe : ∀ u, PIn en ac u → u.2.1 = 0 → u.2.2.1 = t.2.2.1 → EmG ac H u (fac u)) (hp : PIn en ac t) (hw : t.2.1 = 0) : EmG ac (H + 2) t (soF en ac fac t) := by
  have hE : ∀ u, PIn en ac u → u.2.1 = 0 → u.2.2.1 = t.2.2.1 → EmG ac (H + 1) u (evF en ac 38 (-2) fac u) := fun u hu hw ho => by
    have hg := hf u hu
    exact evL_em ha he (by decide) (Or.inl rfl) (Int.le_refl _) h1H hf (fun y hy hwy hoy => hfe y hy hwy (by omega)) 101 _ hg.1 hg.2.2.1 ((hfe u hu hw ho).wide (by omega))
  have hG : ∀ u, PIn en ac u → PGo en ac u (evF en ac 38 (-2) fac u) := fun u hu => evF_go ha he (by decide) hf u hu
  have hg := hG t hp
  exact evL_em ha he (by decide) (Or.inr rfl) (by omega) (by omega) hG (fun y hy hwy hoy => hE y hy hwy hoy) 101 _ hg.1 hg.2.2.1 ((hE t hp hw rfl).wide (by omega))
theorem opn_w {t : pT} (h : (opn t).2.1 = 0) : ¬ t.2.2.1 = 5 ∧ opn t = (t.1 + 1, t.2.1, t.2.2.1 + 1, t.2.2.2) := by
  revert h; unfold opn; split
  · intro h; exact absurd h (show ¬ ((1 : Int) = 0) by decide)
  · next h5 => intro _; exact ⟨h5, rfl⟩
theorem must_z (en c : Int) (t : pT) : (mustF en c t).2.2.2 = t.2.2.2 ∧ ((mustF en c t).2.1 = 0 → t.2.1 = 0) := by
  unfold mustF; split
  · next h => exact ⟨rfl, fun _ => h.1⟩
  · exact ⟨rfl, fun h => absurd h (show ¬ ((1 : Int) = 0) by decide)⟩
theorem fac_em {en ac : Int} (ha : 0 ≤ ac ∧ ac ≤ 4) (he : en ≤ 100) : ∀ (n : Nat) (t : pT), PIn en ac t → t.2.1 = 0 → 5 - t.2.2.1 < n → EmG ac (2 * n) t (facF en ac n t)
  | 0, t, hp, hw, hn => by have := hp.2.2.1.2.2 hw; omega
  | n + 1, t, hp, hw, hn => by
    have hh := here_in hp.2.2.2.2 hp.1.1 he
    rw [facF_s, if_neg (by omega)]
    by_cases h33 : hereF t.2.2.2 t.1 en = 33
    · rw [if_pos h33]
      have hpo := opn_in hp hw (by omega)
      have hg := fac_go ha he n (opn t) hpo
      intro h0
      have h1 : (facF en ac n (opn t)).2.1 = 0 := emF_0 h0
      obtain ⟨h5, e⟩ := opn_w (hg.2.2.2 h1).1
      have hem := fac_em ha he n (opn t) hpo (hg.2.2.2 h1).1 (by rw [e]; show 5 - (t.2.2.1 + 1) < _; omega)
      have hn1 : 1 ≤ n := by have := hp.2.2.1.2.2 hw; omega
      exact (((hem.not ha (by omega)).wide (by omega : 2 * (n : Int) ≤ 2 * ((n + 1 : Nat) : Int))).src (u := t) (by rw [e])) h0
    · rw [if_neg h33]
      by_cases h40 : hereF t.2.2.2 t.1 en = 40
      · rw [if_pos h40]
        have hpo := opn_in hp hw (by omega)
        have hg := soF_go ha he (fac_go ha he n) (opn t) hpo
        intro h0
        obtain ⟨m1, m2⟩ := must_z en 41 (soF en ac (facF en ac n) (opn t))
        have h1 : (soF en ac (facF en ac n) (opn t)).2.1 = 0 := m2 h0
        have hwo := (hg.2.2.2 h1).1
        obtain ⟨h5, e⟩ := opn_w hwo
        have ho : (opn t).2.2.1 = t.2.2.1 + 1 := by rw [e]
        have hn1 : 1 ≤ n := by have := hp.2.2.1.2.2 hw; omega
        have hem := soF_em ha he (H := 2 * n) (by omega) (fac_go ha he n) (fun u hu hwu hou => fac_em ha he n u hu hwu (by omega)) hpo hwo
        exact (((hem.wide (by omega : 2 * (n : Int) + 2 ≤ 2 * ((n + 1 : Nat) : Int))).src (u := t) (by rw [e])).dst (u := bck (mustF en 41 (soF en ac (facF en ac n) (opn t)))) m1 m2) h0
      · rw [if_neg h40]
        exact (test_em ha he hp hw).wide (by omega)