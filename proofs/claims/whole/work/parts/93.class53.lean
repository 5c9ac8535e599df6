/-! what the reference's parser leaves -/
def Fr (ac : Int) (z z' : zS) : Prop := ∀ j, j ≠ 218 + ac → j ≠ 223 + ac → j ≠ 228 + ac → j ≠ 233 + ac → j ≠ 238 + ac → (j < 243 + 140 * ac ∨ 383 + 140 * ac ≤ j) → z' j = z j
theorem Fr.rf (ac : Int) (z : zS) : Fr ac z z := fun _ _ _ _ _ _ _ => rfl
theorem Fr.tr {ac : Int} {a b c : zS} (h : Fr ac a b) (h2 : Fr ac b c) : Fr ac a c := fun j j1 j2 j3 j4 j5 j6 => (h2 j j1 j2 j3 j4 j5 j6).trans (h j j1 j2 j3 j4 j5 j6)
theorem Fr.eq {ac : Int} {a b : zS} (h : b = a) : Fr ac a b := h ▸ Fr.rf ac a
theorem Fr.set {ac : Int} {a b : zS} (h : Fr ac a b) {k v : Int} (hk : k = 218 ∨ k = 223 ∨ k = 228 ∨ k = 233 ∨ k = 238) : Fr ac a (up b (k + ac) v) := fun j j1 j2 j3 j4 j5 j6 => by
  rw [up_ne _ (by omega)]
  exact h j j1 j2 j3 j4 j5 j6
theorem emF_fr {ac v : Int} {t : pT} (h : 0 ≤ t.2.2.2 (228 + ac) ∧ t.2.2.2 (228 + ac) ≤ 100) : Fr ac t.2.2.2 (emF ac v t).2.2.2 := by
  unfold emF
  split
  · intro j j1 j2 j3 j4 j5 j6
    show up (up _ _ _) _ _ j = _
    rw [up_ne _ j3, up_ne _ (by omega)]
  · exact Fr.rf _ _
theorem spell_z (en : Int) (u : Nat) (t : pT) : ∀ k : Nat, (spellF en u t k).2.2.2 = t.2.2.2
  | 0 => rfl
  | k + 1 => ((must_z en (sB u k) (spellF en u t k)).1).trans (spell_z en u t k)
theorem fig_z (en : Int) (t : pT) : (figF en t).1.2.2.2 = t.2.2.2 := by
  unfold figF; split
  · rfl
  · split <;> rfl
theorem pin_c {en ac : Int} {t : pT} (h : PIn en ac t) (he : en ≤ 100) : 0 ≤ t.2.2.2 (228 + ac) ∧ t.2.2.2 (228 + ac) ≤ 100 := by
  obtain ⟨h1, h2, h3, h4, h5⟩ := h
  omega
theorem test_fr {en ac : Int} {t : pT} (h : PIn en ac t) (he : en ≤ 100) : Fr ac t.2.2.2 (testF en ac t).2.2.2 := by
  unfold testF
  split
  · exact Fr.rf _ _
  · split
    · exact Fr.rf _ _
    · have hz := fig_z en (t.1 + 2, t.2)
      exact (Fr.eq hz).tr (emF_fr (by rw [hz]; exact (pin_c h he : 0 ≤ t.2.2.2 (228 + ac) ∧ t.2.2.2 (228 + ac) ≤ 100)))
theorem evL_fr {en ac c v : Int} {fac : pT → pT} (ha : 0 ≤ ac ∧ ac ≤ 4) (he : en ≤ 100) (hc : 0 ≤ c) (hf : ∀ t, PIn en ac t → PGo en ac t (fac t)) (hr : ∀ t, PIn en ac t → Fr ac t.2.2.2 (fac t).2.2.2) : ∀ (m : Nat) (t : pT), PIn en ac t → Fr ac t.2.2.2 (evL en ac c v fac m t).2.2.2
  | 0, _, _ => Fr.rf _ _
  | m + 1, t, hp => by
    show Fr ac t.2.2.2 (if t.2.1 = 0 ∧ hereF t.2.2.2 t.1 en = c then _ else t).2.2.2
    split
    · next hx =>
      have hlt : t.1 < en := by
        have := here_in hp.2.2.2.2 hp.1.1 he
        omega
      have hp1 := hp.adv hlt
      have hg := hf _ hp1
      have h1 := evL_go (v := v) ha he hc hf 1 t hp
      have e : evL en ac c v fac 1 t = emF ac v (fac (t.1 + 1, t.2)) := by
        show (if t.2.1 = 0 ∧ hereF t.2.2.2 t.1 en = c then evL en ac c v fac 0 (emF ac v (fac (t.1 + 1, t.2))) else t) = _
        rw [if_pos hx]; rfl
      rw [e] at h1
      exact (hr _ hp1).tr ((emF_fr (pin_c hg.1 he)).tr (evL_fr ha he hc hf hr m _ h1.1))
    · exact Fr.rf _ _
theorem soF_fr {en ac : Int} {fac : pT → pT} (ha : 0 ≤ ac ∧ ac ≤ 4) (he : en ≤ 100) (hf : ∀ t, PIn en ac t → PGo en ac t (fac t)) (hr : ∀ t, PIn en ac t → Fr ac t.2.2.2 (fac t).2.2.2) (t : pT) (h : PIn en ac t) : Fr ac t.2.2.2 (soF en ac fac t).2.2.2 := by
  have h1 : ∀ t, PIn en ac t → PGo en ac t (evF en ac 38 (-2) fac t) := fun t ht => evF_go ha he (by decide) hf t ht
  have h2 : ∀ t, PIn en ac t → Fr ac t.2.2.2 (evF en ac 38 (-2) fac t).2.2.2 := fun t ht => (hr t ht).tr (evL_fr ha he (by decide) hf hr 101 _ (hf t ht).1)
  exact (h2 t h).tr (evL_fr ha he (by decide) h1 h2 101 _ (h1 t h).1)
theorem fac_fr {en ac : Int} (ha : 0 ≤ ac ∧ ac ≤ 4) (he : en ≤ 100) : ∀ (n : Nat) (t : pT), PIn en ac t → Fr ac t.2.2.2 (facF en ac n t).2.2.2
  | 0, _, _ => Fr.rf _ _
  | n + 1, t, hp => by
    have hh := here_in hp.2.2.2.2 hp.1.1 he
    rw [facF_s]
    split
    · exact Fr.rf _ _
    · next hw =>
      have hw0 : t.2.1 = 0 := by omega
      have ho : (opn t).2.2.2 = t.2.2.2 := by unfold opn; split <;> rfl
      split
      · have hpo := opn_in hp hw0 (by omega)
        have h1 := fac_fr ha he n (opn t) hpo
        have hg := fac_go ha he n (opn t) hpo
        rw [ho] at h1
        exact h1.tr (emF_fr (pin_c hg.1 he))
      · split
        · have hpo := opn_in hp hw0 (by omega)
          have h1 := soF_fr ha he (fac_go ha he n) (fac_fr ha he n) (opn t) hpo
          rw [ho] at h1
          exact h1.tr (Fr.eq (must_z en 41 _).1)
        · exact test_fr hp he
theorem tell_fr {en ac wh : Int} {u : Nat} {t : pT} (hwh : wh = 218 ∨ wh = 223) : Fr ac t.2.2.2 (tellF en ac wh u t).2.2.2 := by
  have hz : (figF en (spellF en u t (sLn u).toNat)).1.2.2.2 = t.2.2.2 := (fig_z en _).trans (spell_z en u t _)
  unfold tellF
  dsimp only
  split
  · exact (Fr.eq hz).set (by omega)
  · exact Fr.eq hz
theorem much_fr {en ac neg wh : Int} {u : Nat} {t : pT} (ha : 0 ≤ ac ∧ ac ≤ 4) (he : en ≤ 100) (hu : u < 6) (h : PIn en ac t) (hwh : wh = 233 ∨ wh = 238) : Fr ac t.2.2.2 (muchF en ac neg u wh t).2.2.2 := by
  have hz : (mustF en 32 (figF en (spellF en u t (sLn u).toNat)).1).2.2.2 = t.2.2.2 := ((must_z en 32 _).1.trans (fig_z en _)).trans (spell_z en u t _)
  have hp : PIn en ac (mustF en 32 (figF en (spellF en u t (sLn u).toNat)).1) := must_in (fig_in (spell_in hu h he _ (by have := sLn_in hu; omega)) he).1 he (by decide)
  have h1 := soF_fr ha he (fac_go ha he 6) (fac_fr ha he 6) _ hp
  have hg := soF_go ha he (fac_go ha he 6) _ hp
  rw [hz] at h1
  unfold muchF
  dsimp only
  exact (h1.tr (emF_fr (pin_c hg.1 he))).set (by omega)
theorem clause_fr {en ac : Int} {t : pT} (ha : 0 ≤ ac ∧ ac ≤ 4) (he : en ≤ 100) (h : PIn en ac t) : Fr ac t.2.2.2 (clauseF en ac t).2.2.2 := by
  unfold clauseF
  split
  · exact tell_fr (Or.inl rfl)
  · split
    · exact tell_fr (Or.inr rfl)
    · split
      · exact much_fr ha he (by decide) h (Or.inl rfl)
      · split
        · exact much_fr ha he (by decide) h (Or.inr rfl)
        · exact Fr.rf _ _
theorem clL_fr {en ac : Int} (ha : 0 ≤ ac ∧ ac ≤ 4) (he : en ≤ 100) : ∀ (m : Nat) (t : pT), PIn en ac t → Fr ac t.2.2.2 (clL en ac m t).2.2.2 ∧ PIn en ac (clL en ac m t)
  | 0, _, h => ⟨Fr.rf _ _, h⟩
  | m + 1, t, h => by
    show Fr ac t.2.2.2 (if t.2.1 = 0 ∧ hereF t.2.2.2 t.1 en = 59 then clL en ac m (clauseF en ac (t.1 + 1, t.2)) else t).2.2.2 ∧ PIn en ac (if t.2.1 = 0 ∧ hereF t.2.2.2 t.1 en = 59 then clL en ac m (clauseF en ac (t.1 + 1, t.2)) else t)
    split
    · next hx =>
      have hlt : t.1 < en := by
        have := here_in h.2.2.2.2 h.1.1 he
        omega
      have hp := h.adv hlt
      obtain ⟨r1, r2⟩ := clL_fr ha he m _ (clause_in ha he hp).1
      exact ⟨(clause_fr ha he hp).tr r1, r2⟩
    · exact ⟨Fr.rf _ _, h⟩
theorem rmR0_v (z : zS) (h : 0 ≤ z 15 ∧ z 15 ≤ 4) : rmR0 z 19 = 0 ∧ rmR0 z (218 + z 15) = 80 ∧ rmR0 z (223 + z 15) = 3 ∧ rmR0 z (228 + z 15) = 0 ∧ rmR0 z (233 + z 15) = 0 ∧ rmR0 z (238 + z 15) = 0 ∧ (∀ j, j ≠ 19 → j < 218 → rmR0 z j = z j) := by
  unfold rmR0
  refine ⟨?_, ?_, ?_, ?_, ?_, ?_, fun j j1 j2 => ?_⟩ <;> simp (disch := omega) only [up_ne, up_eq]
theorem rmR0_in {z : zS} (h15 : 0 ≤ z 15 ∧ z 15 ≤ 4) (h19 : 0 ≤ z 19 ∧ z 19 ≤ 100) (ht : TapeOk z) : PIn (z 19) (z 15) (0, 0, 0, rmR0 z) := by
  obtain ⟨r1, r2, r3, r4, r5, r6, r7⟩ := rmR0_v z h15
  refine ⟨⟨Int.le_refl _, h19.1⟩, Or.inl rfl, (show (0 : Int) ≤ 0 ∧ (0 : Int) ≤ 6 ∧ ((0 : Int) = 0 → (0 : Int) ≤ 5) by decide), ⟨?_, ?_⟩, fun j j0 j1 => ?_⟩
  · show 0 ≤ rmR0 z (228 + z 15); omega
  · show rmR0 z (228 + z 15) ≤ 0; omega
  · show 0 ≤ rmR0 z (118 + j) ∧ rmR0 z (118 + j) ≤ 127
    rw [r7 _ (by omega) (by omega)]; exact ht j j0 j1
theorem rmT_fr {z : zS} (h15 : 0 ≤ z 15 ∧ z 15 ≤ 4) (h19 : 0 ≤ z 19 ∧ z 19 ≤ 100) (ht : TapeOk z) : Fr (z 15) (rmR0 z) (rmT z).2.2.2 ∧ PIn (z 19) (z 15) (rmT z) := by
  have hp := rmR0_in h15 h19 ht
  obtain ⟨r1, r2⟩ := clL_fr h15 h19.2 9 _ (clause_in h15 h19.2 hp).1
  exact ⟨(clause_fr h15 h19.2 hp).tr r1, r2⟩
theorem rmT_o {z : zS} (h15 : 0 ≤ z 15 ∧ z 15 ≤ 4) (h19 : 0 ≤ z 19 ∧ z 19 ≤ 100) (ht : TapeOk z) : (rmT z).2.2.2 19 = 0 ∧ (∀ j, j ≠ 19 → j < 218 → (rmT z).2.2.2 j = z j) ∧ ∀ k : Int, 0 ≤ k → k < z 15 → (∀ w : Int, (w = 218 ∨ w = 223 ∨ w = 228 ∨ w = 233 ∨ w = 238) → (rmT z).2.2.2 (w + k) = z (w + k)) ∧ ∀ n : Nat, n < 140 → (rmT z).2.2.2 (243 + 140 * k + n) = z (243 + 140 * k + n) := by
  obtain ⟨r1, r2, r3, r4, r5, r6, r7⟩ := rmR0_v z h15
  have hf := (rmT_fr h15 h19 ht).1
  have hr : ∀ j, 218 ≤ j → j ≠ 218 + z 15 → j ≠ 223 + z 15 → j ≠ 228 + z 15 → j ≠ 233 + z 15 → j ≠ 238 + z 15 → rmR0 z j = z j := fun j j0 j1 j2 j3 j4 j5 => by
    unfold rmR0; simp (disch := omega) only [up_ne]
  refine ⟨?_, fun j j1 j2 => ?_, fun k k0 k1 => ⟨fun w hw => ?_, fun n hn => ?_⟩⟩
  · rw [hf 19 (by omega) (by omega) (by omega) (by omega) (by omega) (by omega)]; exact r1
  · rw [hf j (by omega) (by omega) (by omega) (by omega) (by omega) (by omega)]; exact r7 j j1 j2
  · rw [hf _ (by omega) (by omega) (by omega) (by omega) (by omega) (by omega)]; exact hr _ (by omega) (by omega) (by omega) (by omega) (by omega) (by omega)
  · rw [hf _ (by omega) (by omega) (by omega) (by omega) (by omega) (by omega)]; exact hr _ (by omega) (by omega) (by omega) (by omega) (by omega) (by omega)
/-! a room under a row that is the same for it -/
def Rs (z z' : zS) : Prop := z' 20 = z 20 ∧ (z 20 = -1 ∨ 0 ≤ z 20 ∧ (∀ w : Int, (w = 218 ∨ w = 223 ∨ w = 228 ∨ w = 233 ∨ w = 238) → z' (w + z 20) = z (w + z 20)) ∧ ∀ n : Nat, n < 140 → z' (243 + 140 * z 20 + n) = z (243 + 140 * z 20 + n))
theorem Rs.tells {z z' : zS} (h : Rs z z') {w d : Int} (hw : w = 218 ∨ w = 223 ∨ w = 228 ∨ w = 233 ∨ w = 238) : tellsF z' w d = tellsF z w d := by
  obtain ⟨h1, h2⟩ := h
  unfold tellsF
  rw [h1]
  rcases h2 with h2 | ⟨h2, h3, h4⟩
  · rw [if_pos h2, if_pos h2]
  · rw [if_neg (by omega), if_neg (by omega)]; exact h3 w hw
theorem Rs.room {z z' : zS} (h : Rs z z') (hr : RoomOk z) : RoomOk z' := by
  obtain ⟨r1, r2, r3, r4, r5, r6, r7⟩ := hr
  unfold RoomOk
  rw [h.tells (by decide), h.tells (by decide), h.tells (by decide), h.tells (by decide), h.tells (by decide), h.1]
  refine ⟨r1, r2, fun n hn => ?_, r4, r5, r6, r7⟩
  rcases h.2 with h2 | ⟨h2, h3, h4⟩
  · unfold tellsF at hn; rw [if_pos h2] at hn; omega
  · rw [h4 n (by omega), lkT_congrB h4 n (by omega)]
    exact r3 n hn
theorem Rs.rmp {σ : xM} {ρ : xR} {ks : xKs} {q : Nat} {z z' : zS} (h : Rs z z') (ho : tellsF z 228 0 ≤ 140) (hr : RmP σ ρ ks q z) : RmP σ ρ ks q z' := by
  obtain ⟨a1, a2, a3, a4, a5, a6, P, b1, b2, b3⟩ := hr
  refine ⟨a1, ?_, ?_, a4, ?_, ?_, P, b1, ?_, ?_⟩
  · rw [h.tells (by decide)]; exact a2
  · unfold flyF; rw [h.tells (by decide)]; exact a3
  · rw [h.tells (by decide)]; exact a5
  · rw [h.tells (by decide)]; exact a6
  · rw [h.tells (by decide)]; exact b2
  · intro i hi
    have hP := P_mono b3 (i + 1) ((σ q 5).toNat - (i + 1)) (by omega)
    rw [show i + 1 + ((σ q 5).toNat - (i + 1)) = (σ q 5).toNat by omega] at hP
    rw [h.1]
    rcases h.2 with h2 | ⟨h2, h3, h4⟩
    · obtain ⟨c1, c2, c3, c4, c5⟩ := b3 i hi
      refine ⟨c1, c2, c3, c4, fun hw => ?_⟩
      exfalso
      obtain ⟨len, d1, -⟩ := c5 hw
      have : tellsF z 228 0 = 0 := if_pos h2
      omega
    · exact (b3 i hi).mem rfl rfl rfl rfl (fun _ _ => rfl) rfl rfl (fun n hn => h4 n (by omega))
/-- the room that was read -/
theorem RdC.room {σ : xM} {ρ : xR} {ks : xKs} {q : Nat} {en ac : Int} {z z' : zS} {i : Nat} {P : Nat → Nat} (h : RdC σ q en ac en z i P) (hk : RmK ks ρ q) (ha : 0 ≤ ac ∧ ac ≤ 4) (hi : i ≤ 10) (h5 : σ q 5 = i) (h20 : z' 20 = ac) (hz : ∀ j, 218 ≤ j → z' j = z j) : RmP σ ρ ks q z' ∧ RoomOk z' := by
  obtain ⟨c1, ⟨c2, c3, c4, c5⟩, ⟨c6, c7, c8⟩, c9, ⟨c10, c11⟩, ⟨c12, c13⟩, ⟨c14, c15⟩, ⟨c16, c17, c18⟩, ⟨c19, c20, c21⟩⟩ := h
  have he := c1.2.2.2.1
  have ht : ∀ w d : Int, 218 ≤ w → tellsF z' w d = z (w + ac) := fun w d hw => by
    unfold tellsF
    rw [h20, if_neg (by omega), hz _ (by omega)]
  have hs : ∀ n : Nat, z' (243 + 140 * z' 20 + n) = z (243 + 140 * ac + n) := fun n => by rw [h20, hz _ (by omega)]
  have hs2 : ∀ n : Nat, z' (243 + 140 * ac + n) = z (243 + 140 * ac + n) := fun n => hz _ (by omega)
  refine ⟨⟨hk, by rw [ht _ _ (by decide)]; exact c12, by unfold flyF; rw [ht _ _ (by decide)]; exact c14, by omega, ?_, ?_, P, c6, ?_, fun k hk2 => ?_⟩, ?_⟩
  · rw [ht _ _ (by decide)]; exact ⟨by omega, c18⟩
  · rw [ht _ _ (by decide)]; exact ⟨by omega, c21⟩
  · rw [ht _ _ (by decide), h5]; exact c7
  · rw [h20]
    exact (c9 k (by omega)).mem rfl rfl rfl rfl (fun _ _ => rfl) rfl rfl (fun n _ => hs2 n)
  · unfold RoomOk
    rw [ht _ _ (by decide), ht _ _ (by decide), ht _ _ (by decide), ht _ _ (by decide), ht _ _ (by decide), h20]
    refine ⟨by omega, by omega, fun n hn => ?_, c13, c15, c17, c20⟩
    rw [hs2, lkT_congr hs2]
    exact c11 n (by omega)