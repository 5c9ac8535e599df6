def tellF (en ac wh : Int) (u : Nat) (t : pT) : pT :=
  let r := figF en (spellF en u t (sLn u).toNat)
  if r.1.2.1 = 0 then (r.1.1, r.1.2.1, r.1.2.2.1, up r.1.2.2.2 (wh + ac) r.2) else r.1
def muchF (en ac neg : Int) (u : Nat) (wh : Int) (t : pT) : pT :=
  let r := figF en (spellF en u t (sLn u).toNat)
  let t4 := emF ac (neg - r.2) (soF en ac (facF en ac 6) (mustF en 32 r.1))
  (t4.1, t4.2.1, t4.2.2.1, up t4.2.2.2 (wh + ac) 1)
def clauseF (en ac : Int) (t : pT) : pT :=
  if hereF t.2.2.2 t.1 en = 104 then tellF en ac 218 0 t else if hereF t.2.2.2 t.1 en = 102 then tellF en ac 223 1 t
  else if hereF t.2.2.2 t.1 en = 119 then muchF en ac (-10) 2 233 t else if hereF t.2.2.2 t.1 en = 99 then muchF en ac (-200) 3 238 t else (t.1, 1, t.2.2)
theorem spell_go {en ac : Int} {u : Nat} {t : pT} (hu : u < 6) (h : PIn en ac t) (he : en ≤ 100) : ∀ k : Nat, (k : Int) ≤ sLn u → PGo en ac t (spellF en u t k) ∧ ((spellF en u t k).2.1 = 0 → (spellF en u t k).1 = t.1 + k ∧ (spellF en u t k).2.2.2 = t.2.2.2)
  | 0, _ => ⟨PGo.rf h, fun _ => ⟨by simp [spellF], rfl⟩⟩
  | k + 1, hk => by
    obtain ⟨g, e⟩ := spell_go hu h he k (by omega)
    have hc := (sB_k (k := k) hu (by omega)).2.1
    have g2 := must_go (c := sB u k) g.1 he (by omega)
    refine ⟨g.tr g2, fun w => ?_⟩
    have w1 : (mustF en (sB u k) (spellF en u t k)).2.1 = 0 := w
    have w0 := (g2.2.2.2 w1).1
    have e1 := e w0
    show (mustF en (sB u k) (spellF en u t k)).1 = _ ∧ (mustF en (sB u k) (spellF en u t k)).2.2.2 = _
    unfold mustF at w1 ⊢
    split at w1
    · next hh => rw [if_pos hh]; exact ⟨by simp only; omega, e1.2⟩
    · exact absurd w1 (by simp)
theorem PIn.set {en ac x v : Int} {t : pT} (h : PIn en ac t) (ha : 0 ≤ ac ∧ ac ≤ 4) (hx : 218 ≤ x) (hx2 : x ≠ 228 + ac) : PIn en ac (t.1, t.2.1, t.2.2.1, up t.2.2.2 x v) := by
  obtain ⟨h1, h2, h3, h4, h5⟩ := h
  exact ⟨h1, h2, h3, by simp only; rw [up_ne _ (by omega)]; exact h4, fun j j0 j1 => by simp only; rw [up_ne _ (by omega)]; exact h5 j j0 j1⟩
theorem tell_in {en ac wh : Int} {u : Nat} {t : pT} (ha : 0 ≤ ac ∧ ac ≤ 4) (he : en ≤ 100) (hu : u < 6) (h : PIn en ac t) (hwh : wh = 218 ∨ wh = 223) : PIn en ac (tellF en ac wh u t) ∧ t.1 ≤ (tellF en ac wh u t).1 ∧ (tellF en ac wh u t).2.2.1 = t.2.2.1 := by
  have hl := sLn_in hu
  obtain ⟨g1, -⟩ := spell_go hu h he (sLn u).toNat (by omega)
  obtain ⟨g2, -⟩ := fig_go g1.1 he
  have g := g1.tr g2
  unfold tellF
  simp only
  split
  · exact ⟨g.1.set ha (by omega) (by omega), g.2.1, g.2.2.1⟩
  · exact ⟨g.1, g.2.1, g.2.2.1⟩
theorem much_in {en ac neg wh : Int} {u : Nat} {t : pT} (ha : 0 ≤ ac ∧ ac ≤ 4) (he : en ≤ 100) (hu : u < 6) (h : PIn en ac t) (hwh : wh = 233 ∨ wh = 238) : PIn en ac (muchF en ac neg u wh t) ∧ t.1 ≤ (muchF en ac neg u wh t).1 ∧ (muchF en ac neg u wh t).2.2.1 = t.2.2.1 := by
  have hl := sLn_in hu
  obtain ⟨g1, e1⟩ := spell_go hu h he (sLn u).toNat (by omega)
  obtain ⟨g2, -⟩ := fig_go g1.1 he
  have g3 := must_go (c := 32) g2.1 he (by decide)
  have g4 := soF_go ha he (fac_go ha he 6) _ g3.1
  have g24 := (g2.tr g3).tr g4
  have g := em_go (v := neg - (figF en (spellF en u t (sLn u).toNat)).2) g24.1 ha (by have := g1.2.1; have := g24.2.1; omega) (g24.2.2.1.trans g1.2.2.1) h (fun w => by
    have a := g24.2.2.2 w
    have b := e1 a.1
    have c := g1.2.2.2 a.1
    rw [b.2] at a
    exact ⟨c.1, by omega⟩)
  unfold muchF
  simp only
  exact ⟨g.1.set ha (by omega) (by omega), g.2.1, g.2.2.1⟩
theorem clause_in {en ac : Int} {t : pT} (ha : 0 ≤ ac ∧ ac ≤ 4) (he : en ≤ 100) (h : PIn en ac t) : PIn en ac (clauseF en ac t) ∧ t.1 ≤ (clauseF en ac t).1 ∧ (clauseF en ac t).2.2.1 = t.2.2.1 := by
  unfold clauseF
  split
  · exact tell_in ha he (by decide) h (Or.inl rfl)
  · split
    · exact tell_in ha he (by decide) h (Or.inr rfl)
    · split
      · exact much_in ha he (by decide) h (Or.inl rfl)
      · split
        · exact much_in ha he (by decide) h (Or.inr rfl)
        · exact ⟨⟨h.1, Or.inr rfl, ⟨h.2.2.1.1, h.2.2.1.2.1, fun w => absurd w (by simp)⟩, h.2.2.2.1, h.2.2.2.2⟩, Int.le_refl _, rfl⟩
set_option maxHeartbeats 4000000 in
set_option maxRecDepth 100000 in
theorem s_tellsHere (E : xE) {σ : xM} {ρ : xR} {ks : xKs} (hk : MK ks) (hw : MW ρ) (hac : 0 ≤ σ 46 5 ∧ σ 46 5 ≤ 4) (hen : 0 ≤ σ 46 7 ∧ σ 46 7 ≤ 100) {sp wg op : Int} {z : zS} (hpi : PIn (σ 46 7) (σ 46 5) (sp, wg, op, z)) {wh : Int} {u : Nat} (hu : u < 6) (hwh : wh = 218 ∨ wh = 223) : Sp E yX12_tellsHere kX12_tellsHere 5 0 0 [.ref 46, .int (iI wh), .float (UInt32.ofNat u)] (pu σ sp wg op z) ρ ks (Fn none (pu σ (tellF (σ 46 7) (σ 46 5) wh u (sp, wg, op, z)).1 (tellF (σ 46 7) (σ 46 5) wh u (sp, wg, op, z)).2.1 (tellF (σ 46 7) (σ 46 5) wh u (sp, wg, op, z)).2.2.1 (tellF (σ 46 7) (σ 46 5) wh u (sp, wg, op, z)).2.2.2) ρ ks) := by
  obtain ⟨k46, k47, k48, k49, k50, k51, k52, k53, k54⟩ := id hk
  obtain ⟨w1, w2, w3, w10, w11, w14, w15, w16⟩ := id hw
  obtain ⟨hsp, hwg, hop, hct, htp⟩ := id hpi
  simp only at hsp hwg hop hct htp
  refine x_enter (own := RX12) (L := [_, _, _, _]) (by decide +kernel) rfl (by exact Nat.le_of_ble_eq_true rfl) rfl (fun p e R s m args below meth c Z hZ hC hR hin => ?_)
  have hln := sLn_in hu
  have hs1 := spell_in hu hpi hen.2 (sLn u).toNat (by omega)
  have hf1 := fig_in hs1 hen.2
  have hw1 := hf1.1.2.1
  refine x_aload_n (pc := 0) hC dX12_tellsHere_0 rfl ?_
  refine x_aloadS_n (pc := 1) hC dX12_tellsHere_1 rfl ?_
  refine x_callV0 (As := [_]) (Bs := [_]) (pc := 2) hC (s_spells E hk hw hac hen hpi hu) wX12_101_12 pX12_spells (by assumption) rfl rfl (by exact Nat.le_of_ble_eq_true rfl) hR (by decide) (by decide) (by decide) rfl dX12_tellsHere_2 ?_
  generalize hS : spellF (σ 46 7) u (sp, wg, op, z) (sLn u).toNat = tt1 at *
  obtain ⟨s1, g1, o1, v1⟩ := tt1
  dsimp only at hs1 hf1 hw1 ⊢
  refine x_aload_n (pc := 5) hC dX12_tellsHere_5 rfl ?_
  refine x_callV1 (As := []) (Bs := []) (pc := 6) hC (s_figures E hk hw hac hen hs1) wX12_95_12 pX12_figures (by assumption) rfl rfl (by exact Nat.le_of_ble_eq_true rfl) hR (by decide) (by decide) (by decide) rfl dX12_tellsHere_6 ?_
  refine x_istore_n (L' := [_, _, _, _]) (pc := 9) hC dX12_tellsHere_9 rfl rfl ?_
  refine x_aload_n (pc := 10) hC dX12_tellsHere_10 rfl ?_
  refine x_geti (K := 8) (pc := 11) hC fX12_51_12 (by assumption) dX12_tellsHere_11 rfl rfl ?_
  rw [pu_8]
  refine x_if_ne (tgt := 29) (pc := 14) hC (by omega) dX12_tellsHere_14 (by decide) (fun c14 => ?_) (fun c14 => ?_)
  · refine x_return hC hZ dX12_tellsHere_29 (by decide) (by decide) ?_
    refine ⟨rfl, ?_, rfl, rfl⟩
    have e : tellF (σ 46 7) (σ 46 5) wh u (sp, wg, op, z) = (figF (σ 46 7) (s1, g1, o1, v1)).1 := by unfold tellF; rw [hS]; exact if_neg c14
    rw [e]
  · refine x_aload_n (pc := 17) hC dX12_tellsHere_17 rfl ?_
    refine x_getr (K := 1) (pc := 18) hC fX12_9_12 (by assumption) dX12_tellsHere_18 rfl rfl (by assumption) ?_
    refine x_iload_n (pc := 21) hC dX12_tellsHere_21 rfl ?_
    refine x_aload_n (pc := 22) hC dX12_tellsHere_22 rfl ?_
    refine x_geti (K := 5) (pc := 23) hC fX12_72_12 (by assumption) dX12_tellsHere_23 rfl rfl ?_
    rw [pu_5]
    refine x_iadd (pc := 26) hC dX12_tellsHere_26 ?_
    refine x_iload_n (pc := 27) hC dX12_tellsHere_27 rfl ?_
    refine x_iast (pc := 28) hC (by assumption) (by omega) dX12_tellsHere_28 ?_
    refine X.mem (pu_ws _ _ _ _ _ _ _) ?_
    refine x_return hC hZ dX12_tellsHere_29 (by decide) (by decide) ?_
    refine ⟨rfl, ?_, rfl, rfl⟩
    have e : tellF (σ 46 7) (σ 46 5) wh u (sp, wg, op, z) = ((figF (σ 46 7) (s1, g1, o1, v1)).1.1, (figF (σ 46 7) (s1, g1, o1, v1)).1.2.1, (figF (σ 46 7) (s1, g1, o1, v1)).1.2.2.1, up (figF (σ 46 7) (s1, g1, o1, v1)).1.2.2.2 (wh + σ 46 5) (figF (σ 46 7) (s1, g1, o1, v1)).2) := by unfold tellF; rw [hS]; exact if_pos (show (figF (σ 46 7) (s1, g1, o1, v1)).1.2.1 = 0 by omega)
    rw [e]

set_option maxHeartbeats 4000000 in
set_option maxRecDepth 100000 in
theorem s_much (E : xE) {σ : xM} {ρ : xR} {ks : xKs} (hk : MK ks) (hw : MW ρ) (hac : 0 ≤ σ 46 5 ∧ σ 46 5 ≤ 4) (hen : 0 ≤ σ 46 7 ∧ σ 46 7 ≤ 100) {sp wg op : Int} {z : zS} (hpi : PIn (σ 46 7) (σ 46 5) (sp, wg, op, z)) {neg wh : Int} {u : Nat} (hu : u < 6) (hwh : wh = 233 ∨ wh = 238) (hop0 : op = 0) : Sp E yX12_much kX12_much 26 0 0 [.ref 46, .int (iI neg), .float (UInt32.ofNat u), .int (iI wh)] (pu σ sp wg op z) ρ ks (Fn none (pu σ (muchF (σ 46 7) (σ 46 5) neg u wh (sp, wg, op, z)).1 (muchF (σ 46 7) (σ 46 5) neg u wh (sp, wg, op, z)).2.1 (muchF (σ 46 7) (σ 46 5) neg u wh (sp, wg, op, z)).2.2.1 (muchF (σ 46 7) (σ 46 5) neg u wh (sp, wg, op, z)).2.2.2) ρ ks) := by
  obtain ⟨k46, k47, k48, k49, k50, k51, k52, k53, k54⟩ := id hk
  obtain ⟨w1, w2, w3, w10, w11, w14, w15, w16⟩ := id hw
  obtain ⟨hsp, hwg, hop, hct, htp⟩ := id hpi
  simp only at hsp hwg hop hct htp
  refine x_enter (own := RX12) (L := [_, _, _, _, _]) (by decide +kernel) rfl (by exact Nat.le_of_ble_eq_true rfl) rfl (fun p e R s m args below meth c Z hZ hC hR hin => ?_)
  have hln := sLn_in hu
  have hs1 := spell_in hu hpi hen.2 (sLn u).toNat (by omega)
  have hq1 : (spellF (σ 46 7) u (sp, wg, op, z) (sLn u).toNat).2.2.1 = op := (spell_go hu hpi hen.2 (sLn u).toNat (by omega)).1.2.2.1
  refine x_aload_n (pc := 0) hC dX12_much_0 rfl ?_
  refine x_aloadS_n (pc := 1) hC dX12_much_1 rfl ?_
  refine x_callV0 (As := [_]) (Bs := [_]) (pc := 2) hC (s_spells E hk hw hac hen hpi hu) wX12_101_12 pX12_spells (by assumption) rfl rfl (by exact Nat.le_of_ble_eq_true rfl) hR (by decide) (by decide) (by decide) rfl dX12_much_2 ?_
  generalize hS : spellF (σ 46 7) u (sp, wg, op, z) (sLn u).toNat = tt1 at *
  obtain ⟨s1, g1, o1, v1⟩ := tt1
  dsimp only at hs1 hq1 ⊢
  have hf1 := fig_in hs1 hen.2
  have hq2 := (fig_go hs1 hen.2).1.2.2.1
  refine x_aload_n (pc := 5) hC dX12_much_5 rfl ?_
  refine x_callV1 (As := []) (Bs := []) (pc := 6) hC (s_figures E hk hw hac hen hs1) wX12_95_12 pX12_figures (by assumption) rfl rfl (by exact Nat.le_of_ble_eq_true rfl) hR (by decide) (by decide) (by decide) rfl dX12_much_6 ?_
  refine x_istore (L' := [_, _, _, _, _]) (pc := 9) hC dX12_much_9 rfl rfl ?_
  generalize hF : figF (σ 46 7) (s1, g1, o1, v1) = fr at *
  obtain ⟨⟨s2, g2, o2, v2⟩, r2⟩ := fr
  dsimp only at hf1 hq2 ⊢
  have hm1 := must_in (c := 32) hf1.1 hen.2 (by decide)
  have hq3 := (must_go (c := 32) hf1.1 hen.2 (by decide)).2.2.1
  refine x_aload_n (pc := 11) hC dX12_much_11 rfl ?_
  refine x_bipush (pc := 12) hC dX12_much_12 (by decide +kernel) ?_
  refine x_callV0 (As := [_]) (Bs := [_]) (pc := 14) hC (s_must E hk hw hac hen (c0 := 32) hf1.1 (by decide)) wX12_68_12 pX12_must (by assumption) rfl rfl (by exact Nat.le_of_ble_eq_true rfl) hR (by decide) (by decide) (by decide) rfl dX12_much_14 ?_
  generalize hM : mustF (σ 46 7) 32 (s2, g2, o2, v2) = tt3 at *
  obtain ⟨s3, g3, o3, v3⟩ := tt3
  dsimp only at hm1 hq3 ⊢
  have hso := (soF_go hac hen.2 (fac_go hac hen.2 6) _ hm1).1
  refine x_aload_n (pc := 17) hC dX12_much_17 rfl ?_
  refine x_callV0 (As := []) (Bs := []) (pc := 18) hC (s_some E hk hw hac hen (s_factor E hk hw hac hen (n := 6)) s3 g3 o3 v3 hm1 (Or.inr (by omega))) wX12_84_12 pX12_some (by assumption) rfl rfl (by exact Nat.le_of_ble_eq_true rfl) hR (by decide) (by decide) (by decide) rfl dX12_much_18 ?_
  show X _ _ _ _ _ _ _ _ _ _ _ _ _ (pu σ (soF (σ 46 7) (σ 46 5) (facF (σ 46 7) (σ 46 5) 6) (s3, g3, o3, v3)).1 (soF (σ 46 7) (σ 46 5) (facF (σ 46 7) (σ 46 5) 6) (s3, g3, o3, v3)).2.1 (soF (σ 46 7) (σ 46 5) (facF (σ 46 7) (σ 46 5) 6) (s3, g3, o3, v3)).2.2.1 (soF (σ 46 7) (σ 46 5) (facF (σ 46 7) (σ 46 5) 6) (s3, g3, o3, v3)).2.2.2) _ _ _ _ _
  generalize hO : soF (σ 46 7) (σ 46 5) (facF (σ 46 7) (σ 46 5) 6) (s3, g3, o3, v3) = tt4 at *
  obtain ⟨s4, g4, o4, v4⟩ := tt4
  dsimp only at hso ⊢
  refine x_aload_n (pc := 21) hC dX12_much_21 rfl ?_
  refine x_iload_n (pc := 22) hC dX12_much_22 rfl ?_
  refine x_iload (pc := 23) hC dX12_much_23 rfl ?_
  refine x_isub (pc := 25) hC dX12_much_25 ?_
  refine x_callV0 (As := [_]) (Bs := [_]) (pc := 26) hC (s_emits E hk hw hac hen hso) wX12_81_12 pX12_emits (by assumption) rfl rfl (by exact Nat.le_of_ble_eq_true rfl) hR (by decide) (by decide) (by decide) rfl dX12_much_26 ?_
  refine x_aload_n (pc := 29) hC dX12_much_29 rfl ?_
  refine x_getr (K := 1) (pc := 30) hC fX12_9_12 (by assumption) dX12_much_30 rfl rfl (by assumption) ?_
  refine x_iload_n (pc := 33) hC dX12_much_33 rfl ?_
  refine x_aload_n (pc := 34) hC dX12_much_34 rfl ?_
  refine x_geti (K := 5) (pc := 35) hC fX12_72_12 (by assumption) dX12_much_35 rfl rfl ?_
  rw [pu_5]
  refine x_iadd (pc := 38) hC dX12_much_38 ?_
  refine x_iconst (pc := 39) hC dX12_much_39 ?_
  refine x_iast (pc := 40) hC (by assumption) (by omega) dX12_much_40 ?_
  refine X.mem (pu_ws _ _ _ _ _ _ _) ?_
  refine x_return hC hZ dX12_much_41 (by decide) (by decide) ?_
  refine ⟨rfl, ?_, rfl, rfl⟩
  rw [show muchF (σ 46 7) (σ 46 5) neg u wh (sp, wg, op, z) = ((emF (σ 46 5) (neg - r2) (s4, g4, o4, v4)).1, (emF (σ 46 5) (neg - r2) (s4, g4, o4, v4)).2.1, (emF (σ 46 5) (neg - r2) (s4, g4, o4, v4)).2.2.1, up (emF (σ 46 5) (neg - r2) (s4, g4, o4, v4)).2.2.2 (wh + σ 46 5) 1) by unfold muchF; simp only [hS, hF, hM, hO]]

set_option maxHeartbeats 4000000 in
set_option maxRecDepth 100000 in
theorem s_clauseHere (E : xE) {σ : xM} {ρ : xR} {ks : xKs} (hk : MK ks) (hw : MW ρ) (hac : 0 ≤ σ 46 5 ∧ σ 46 5 ≤ 4) (hen : 0 ≤ σ 46 7 ∧ σ 46 7 ≤ 100) {sp wg op : Int} {z : zS} (hpi : PIn (σ 46 7) (σ 46 5) (sp, wg, op, z)) (hop0 : op = 0) : Sp E yX12_clauseHere kX12_clauseHere 27 0 0 [.ref 46] (pu σ sp wg op z) ρ ks (Fn none (pu σ (clauseF (σ 46 7) (σ 46 5) (sp, wg, op, z)).1 (clauseF (σ 46 7) (σ 46 5) (sp, wg, op, z)).2.1 (clauseF (σ 46 7) (σ 46 5) (sp, wg, op, z)).2.2.1 (clauseF (σ 46 7) (σ 46 5) (sp, wg, op, z)).2.2.2) ρ ks) := by
  obtain ⟨k46, k47, k48, k49, k50, k51, k52, k53, k54⟩ := id hk
  obtain ⟨w1, w2, w3, w10, w11, w14, w15, w16⟩ := id hw
  obtain ⟨hsp, hwg, hop, hct, htp⟩ := id hpi
  simp only at hsp hwg hop hct htp
  refine x_enter (own := RX12) (L := [_]) (by decide +kernel) rfl (by exact Nat.le_of_ble_eq_true rfl) rfl (fun p e R s m args below meth c Z hZ hC hR hin => ?_)
  have hh := here_in (sp := sp) (en := σ 46 7) htp hsp.1 hen.2
  refine x_aload_n (pc := 0) hC dX12_clauseHere_0 rfl ?_
  refine x_callV1 (As := []) (Bs := []) (pc := 1) hC (s_hereP E hk hw hen (by omega)) wX12_55_12 pX12_here (by assumption) rfl rfl (by exact Nat.le_of_ble_eq_true rfl) hR (by decide) (by decide) (by decide) rfl dX12_clauseHere_1 ?_
  have csw : hereF z sp (σ 46 7) = 99 ∨ hereF z sp (σ 46 7) = 102 ∨ hereF z sp (σ 46 7) = 104 ∨ hereF z sp (σ 46 7) = 119 ∨ (hereF z sp (σ 46 7) ≠ 99 ∧ hereF z sp (σ 46 7) ≠ 102 ∧ hereF z sp (σ 46 7) ≠ 104 ∧ hereF z sp (σ 46 7) ≠ 119) := by omega
  rcases csw with c4 | c4 | c4 | c4 | c4
  · refine x_look (tgt := 86) (off := 82) (pc := 4) hC (by omega) dX12_clauseHere_4 (by decide) (by rw [c4]; rfl) (by decide) ?_
    refine x_aload_n (pc := 86) hC dX12_clauseHere_86 rfl ?_
    refine x_sipush (pc := 87) hC dX12_clauseHere_87 (by decide +kernel) ?_
    refine x_ldcS (n := 3) (pc := 90) hC 9 rfl (by decide +kernel) dX12_clauseHere_90 ?_
    refine x_sipush (pc := 92) hC dX12_clauseHere_92 (by decide +kernel) ?_
    refine x_callV0 (As := [_, _, _]) (Bs := [_, _, _]) (pc := 95) hC (s_much E hk hw hac hen hpi (u := 3) (neg := -200) (by decide) (Or.inr rfl) hop0) wX12_115_12 pX12_much (by assumption) rfl rfl (by exact Nat.le_of_ble_eq_true rfl) hR (by decide) (by decide) (by decide) rfl dX12_clauseHere_95 ?_
    refine x_goto (tgt := 106) (pc := 98) hC dX12_clauseHere_98 (by decide) ?_
    refine x_return hC hZ dX12_clauseHere_106 (by decide) (by decide) ?_
    refine ⟨rfl, ?_, rfl, rfl⟩
    rw [show clauseF (σ 46 7) (σ 46 5) (sp, wg, op, z) = muchF (σ 46 7) (σ 46 5) (-200) 3 238 (sp, wg, op, z) by unfold clauseF; rw [if_neg (show ¬ hereF z sp (σ 46 7) = 104 by omega), if_neg (show ¬ hereF z sp (σ 46 7) = 102 by omega), if_neg (show ¬ hereF z sp (σ 46 7) = 119 by omega), if_pos (show hereF z sp (σ 46 7) = 99 by omega)]]
  · refine x_look (tgt := 60) (off := 56) (pc := 4) hC (by omega) dX12_clauseHere_4 (by decide) (by rw [c4]; rfl) (by decide) ?_
    refine x_aload_n (pc := 60) hC dX12_clauseHere_60 rfl ?_
    refine x_sipush (pc := 61) hC dX12_clauseHere_61 (by decide +kernel) ?_
    refine x_ldcS (n := 1) (pc := 64) hC 7 rfl (by decide +kernel) dX12_clauseHere_64 ?_
    refine x_callV0 (As := [_, _]) (Bs := [_, _]) (pc := 66) hC (s_tellsHere E hk hw hac hen hpi (u := 1) (by decide) (Or.inr rfl)) wX12_107_12 pX12_tellsHere (by assumption) rfl rfl (by exact Nat.le_of_ble_eq_true rfl) hR (by decide) (by decide) (by decide) rfl dX12_clauseHere_66 ?_
    refine x_goto (tgt := 106) (pc := 69) hC dX12_clauseHere_69 (by decide) ?_
    refine x_return hC hZ dX12_clauseHere_106 (by decide) (by decide) ?_
    refine ⟨rfl, ?_, rfl, rfl⟩
    rw [show clauseF (σ 46 7) (σ 46 5) (sp, wg, op, z) = tellF (σ 46 7) (σ 46 5) 223 1 (sp, wg, op, z) by unfold clauseF; rw [if_neg (show ¬ hereF z sp (σ 46 7) = 104 by omega), if_pos (show hereF z sp (σ 46 7) = 102 by omega)]]
  · refine x_look (tgt := 48) (off := 44) (pc := 4) hC (by omega) dX12_clauseHere_4 (by decide) (by rw [c4]; rfl) (by decide) ?_
    refine x_aload_n (pc := 48) hC dX12_clauseHere_48 rfl ?_
    refine x_sipush (pc := 49) hC dX12_clauseHere_49 (by decide +kernel) ?_
    refine x_ldcS (n := 0) (pc := 52) hC 6 rfl (by decide +kernel) dX12_clauseHere_52 ?_
    refine x_callV0 (As := [_, _]) (Bs := [_, _]) (pc := 54) hC (s_tellsHere E hk hw hac hen hpi (u := 0) (by decide) (Or.inl rfl)) wX12_107_12 pX12_tellsHere (by assumption) rfl rfl (by exact Nat.le_of_ble_eq_true rfl) hR (by decide) (by decide) (by decide) rfl dX12_clauseHere_54 ?_
    refine x_goto (tgt := 106) (pc := 57) hC dX12_clauseHere_57 (by decide) ?_
    refine x_return hC hZ dX12_clauseHere_106 (by decide) (by decide) ?_
    refine ⟨rfl, ?_, rfl, rfl⟩
    rw [show clauseF (σ 46 7) (σ 46 5) (sp, wg, op, z) = tellF (σ 46 7) (σ 46 5) 218 0 (sp, wg, op, z) by unfold clauseF; rw [if_pos (show hereF z sp (σ 46 7) = 104 by omega)]]
  · refine x_look (tgt := 72) (off := 68) (pc := 4) hC (by omega) dX12_clauseHere_4 (by decide) (by rw [c4]; rfl) (by decide) ?_
    refine x_aload_n (pc := 72) hC dX12_clauseHere_72 rfl ?_
    refine x_bipush (pc := 73) hC dX12_clauseHere_73 (by decide +kernel) ?_
    refine x_ldcS (n := 2) (pc := 75) hC 8 rfl (by decide +kernel) dX12_clauseHere_75 ?_
    refine x_sipush (pc := 77) hC dX12_clauseHere_77 (by decide +kernel) ?_
    refine x_callV0 (As := [_, _, _]) (Bs := [_, _, _]) (pc := 80) hC (s_much E hk hw hac hen hpi (u := 2) (neg := -10) (by decide) (Or.inl rfl) hop0) wX12_115_12 pX12_much (by assumption) rfl rfl (by exact Nat.le_of_ble_eq_true rfl) hR (by decide) (by decide) (by decide) rfl dX12_clauseHere_80 ?_
    refine x_goto (tgt := 106) (pc := 83) hC dX12_clauseHere_83 (by decide) ?_
    refine x_return hC hZ dX12_clauseHere_106 (by decide) (by decide) ?_
    refine ⟨rfl, ?_, rfl, rfl⟩
    rw [show clauseF (σ 46 7) (σ 46 5) (sp, wg, op, z) = muchF (σ 46 7) (σ 46 5) (-10) 2 233 (sp, wg, op, z) by unfold clauseF; rw [if_neg (show ¬ hereF z sp (σ 46 7) = 104 by omega), if_neg (show ¬ hereF z sp (σ 46 7) = 102 by omega), if_pos (show hereF z sp (σ 46 7) = 119 by omega)]]
  · refine x_look (tgt := 101) (off := 97) (pc := 4) hC (by omega) dX12_clauseHere_4 (by decide) (by simp [Op.lookupswitch.offset]; omega) (by decide) ?_
    refine x_aload_n (pc := 101) hC dX12_clauseHere_101 rfl ?_
    refine x_iconst (pc := 102) hC dX12_clauseHere_102 ?_
    refine x_putz (K := 8) (pc := 103) hC rfl fX12_51_12 rfl (by assumption) dX12_clauseHere_103 rfl (by omega) ?_
    refine X.mem (pu_w8 _ _ _ _ _ _) ?_
    refine x_return hC hZ dX12_clauseHere_106 (by decide) (by decide) ?_
    refine ⟨rfl, ?_, rfl, rfl⟩
    rw [show clauseF (σ 46 7) (σ 46 5) (sp, wg, op, z) = (sp, 1, op, z) by unfold clauseF; rw [if_neg (show ¬ hereF z sp (σ 46 7) = 104 by omega), if_neg (show ¬ hereF z sp (σ 46 7) = 102 by omega), if_neg (show ¬ hereF z sp (σ 46 7) = 119 by omega), if_neg (show ¬ hereF z sp (σ 46 7) = 99 by omega)]]
