/-! reading a test -/
theorem trS_mk {a b n : Int} (ha : 0 ≤ a ∧ a ≤ 5) (hb : 0 ≤ b ∧ b ≤ 2) (hn : 0 ≤ n ∧ n ≤ 99) : trS (a + 8 * b + 32 * n) = (a * 3 + b) * 100 + n ∧ okS (a + 8 * b + 32 * n) ∧ 0 ≤ a + 8 * b + 32 * n := by
  have h1 : (a + 8 * b + 32 * n) % 8 = a := by omega
  have h2 : (a + 8 * b + 32 * n) / 8 % 4 = b := by omega
  have h3 : (a + 8 * b + 32 * n) / 32 = n := by omega
  refine ⟨?_, fun _ => by rw [h1, h2, h3]; omega, by omega⟩
  unfold trS
  rw [if_pos (by omega), h1, h2, h3]
theorem amF_m1 {en : Int} {u : Nat} {t : pT} (hu : u < 6) (h : hereF t.2.2.2 t.1 en = -1) : amF en u t = -1 := by
  unfold amF
  rw [h]
  exact amI_m1 hu _ 0 (by omega) (by have := sLn_in hu; omega)
theorem fig_sp {en sp op : Int} {z : zS} (h : (figF en (sp, 0, op, z)).1.2.1 = 0) (ht : TapeOk z) (hs : 0 ≤ sp) (he : en ≤ 100) : (figF en (sp, 0, op, z)).1 = ((figF en (sp, 0, op, z)).1.1, 0, op, z) ∧ sp + 1 ≤ (figF en (sp, 0, op, z)).1.1 ∧ (figF en (sp, 0, op, z)).1.1 ≤ en ∧ 0 ≤ (figF en (sp, 0, op, z)).2 ∧ (figF en (sp, 0, op, z)).2 ≤ 99 := by
  have h1 := here_in (sp := sp) ht hs he
  have h2 := here_in (sp := sp + 1) ht (by omega) he
  revert h
  unfold figF
  dsimp only
  split
  · intro h; exact absurd h (show ¬ ((1 : Int) = 0) by decide)
  · split
    · intro _; refine ⟨rfl, ?_, ?_, ?_, ?_⟩ <;> dsimp only <;> omega
    · intro _; refine ⟨rfl, ?_, ?_, ?_, ?_⟩ <;> dsimp only <;> omega
theorem fig_w {en sp op : Int} {z : zS} (h : ¬ (figF en (sp, 0, op, z)).1.2.1 = 0) : (figF en (sp, 0, op, z)).1 = (sp, 1, op, z) := by
  revert h
  unfold figF
  dsimp only
  split
  · intro _; rfl
  · split <;> intro h <;> exact absurd rfl h
set_option maxHeartbeats 4000000 in
set_option maxRecDepth 100000 in
theorem c_readTest (E : xE) {σ : xM} {ρ : xR} {ks : xKs} {q : Nat} (hk : RdK ks ρ q) {g : xM} {D K0 en ac sp op : Int} {z : zS} (hac : 0 ≤ ac ∧ ac ≤ 4) (hS : RdS σ g q D K0 en ac (sp, 0, op, z)) (hpi : PIn en ac (sp, 0, op, z)) (hK : 0 ≤ K0 ∧ K0 ≤ z (228 + ac)) (hD : 0 ≤ D ∧ D ≤ K0) : Sp E yX4_readTest kX4_readTest 4 0 0 [.ref q] σ ρ ks (fun r σ' ρ' ks' => r = some (.int (iI (bI ((testF en ac (sp, 0, op, z)).2.1 = 0)))) ∧ ρ' = ρ ∧ ks' = ks ∧ RdW σ' g q (testF en ac (sp, 0, op, z)) ∧ ((testF en ac (sp, 0, op, z)).2.1 = 0 → RdS σ' g q D K0 en ac (testF en ac (sp, 0, op, z)))) := by
  refine x_enter (own := RX4) (L := [_, _, _]) (by decide +kernel) rfl (by exact Nat.le_of_ble_eq_true rfl) rfl (fun p e R s m args below meth c Z hZ hC hR hin => ?_)
  obtain ⟨⟨g0, ⟨g1, g2, g3, g4, g5⟩, s0, s1, s2, s3, s4⟩, g15, s7, hq55⟩ := id hk
  have hh : RdH σ q z sp en := hS.2.1
  obtain ⟨p1, p2, p3, p4, p5⟩ := id hpi
  simp only at p1 p3 p4 p5
  obtain ⟨h10, h8, htp, hen, hsp, htk⟩ := id hh
  have hhr := here_in htk hsp.1 hen.2
  refine x_aload_n (pc := 0) hC dX4_readTest_0 rfl ?_
  refine x_callV1 (As := []) (Bs := []) (pc := 1) hC (c_ahead E hk hh) wX4_65_4 pX4_ahead (by assumption) rfl rfl (by exact Nat.le_of_ble_eq_true rfl) hR (by decide) (by decide) (by decide) rfl dX4_readTest_1 ?_
  refine x_if_ge (tgt := 11) (pc := 4) hC (by omega) dX4_readTest_4 (by decide) (fun c4 => ?_) (fun c4 => ?_)
  · refine x_ldcS (n := 4) (pc := 11) hC 4 rfl (by decide +kernel) dX4_readTest_11 ?_
    refine x_aload_n (pc := 13) hC dX4_readTest_13 rfl ?_
    refine x_callV1 (As := []) (Bs := []) (pc := 14) hC (c_ahead E hk hh) wX4_65_4 pX4_ahead (by assumption) rfl rfl (by exact Nat.le_of_ble_eq_true rfl) hR (by decide) (by decide) (by decide) rfl dX4_readTest_14 ?_
    refine x_i2c (pc := 17) hC (by omega) dX4_readTest_17 ?_
    refine x_callK1 (As := [_]) (Bs := [_]) (pc := 18) hC (s_indexOf E (u := 4) (by decide) (k := hereF z sp en) ⟨by omega, by omega⟩) wX4_117 pJ0_indexOf_0f7a4 (by decide) rfl rfl (by exact Nat.le_of_ble_eq_true rfl) hR (by decide) (by decide) (by decide) rfl dX4_readTest_18 ?_
    refine x_istore_n (L' := [_, _, _]) (pc := 21) hC dX4_readTest_21 rfl rfl ?_
    have am1 := amI_in (hereF z sp en) 4 (sLn 4).toNat 0 (by decide)
    have am1l : (sLn 4).toNat = 6 := by decide
    refine x_iload_n (pc := 22) hC dX4_readTest_22 rfl ?_
    refine x_if_ge (tgt := 28) (pc := 23) hC (by omega) dX4_readTest_23 (by decide) (fun c23 => ?_) (fun c23 => ?_)
    · refine x_aload_n (pc := 28) hC dX4_readTest_28 rfl ?_
      refine x_dup (pc := 29) hC dX4_readTest_29 rfl ?_
      refine x_geti (K := 10) (pc := 30) hC fX4_43_4 (by assumption) dX4_readTest_30 rfl rfl ?_
      rw [h10]
      refine x_iconst (pc := 33) hC dX4_readTest_33 ?_
      refine x_iadd (pc := 34) hC dX4_readTest_34 ?_
      refine x_puti (K := 10) (pc := 35) hC rfl fX4_43_4 rfl (by assumption) dX4_readTest_35 rfl ?_
      have hspl : sp < en := by omega
      have hS1 : RdS (wr σ q 10 (sp + 1)) g q D K0 en ac (sp + 1, 0, op, z) := hS.adv hq55 (by omega)
      have hh1 : RdH (wr σ q 10 (sp + 1)) q z (sp + 1) en := hS1.2.1
      have hhr1 := here_in htk (sp := sp + 1) (by omega) hen.2
      refine x_aload_n (pc := 38) hC dX4_readTest_38 rfl ?_
      refine x_callV1 (As := []) (Bs := []) (pc := 39) hC (c_ahead E hk hh1) wX4_65_4 pX4_ahead (by assumption) rfl rfl (by exact Nat.le_of_ble_eq_true rfl) hR (by decide) (by decide) (by decide) rfl dX4_readTest_39 ?_
      refine x_if_ge (tgt := 49) (pc := 42) hC (by omega) dX4_readTest_42 (by decide) (fun c42 => ?_) (fun c42 => ?_)
      · refine x_ldcS (n := 5) (pc := 49) hC 5 rfl (by decide +kernel) dX4_readTest_49 ?_
        refine x_aload_n (pc := 51) hC dX4_readTest_51 rfl ?_
        refine x_callV1 (As := []) (Bs := []) (pc := 52) hC (c_ahead E hk hh1) wX4_65_4 pX4_ahead (by assumption) rfl rfl (by exact Nat.le_of_ble_eq_true rfl) hR (by decide) (by decide) (by decide) rfl dX4_readTest_52 ?_
        refine x_i2c (pc := 55) hC (by omega) dX4_readTest_55 ?_
        refine x_callK1 (As := [_]) (Bs := [_]) (pc := 56) hC (s_indexOf E (u := 5) (by decide) (k := hereF z (sp + 1) en) ⟨by omega, by omega⟩) wX4_117 pJ0_indexOf_0f7a4 (by decide) rfl rfl (by exact Nat.le_of_ble_eq_true rfl) hR (by decide) (by decide) (by decide) rfl dX4_readTest_56 ?_
        refine x_istore_n (L' := [_, _, _]) (pc := 59) hC dX4_readTest_59 rfl rfl ?_
        have am2 := amI_in (hereF z (sp + 1) en) 5 (sLn 5).toNat 0 (by decide)
        have am2l : (sLn 5).toNat = 3 := by decide
        refine x_iload_n (pc := 60) hC dX4_readTest_60 rfl ?_
        refine x_if_ge (tgt := 66) (pc := 61) hC (by omega) dX4_readTest_61 (by decide) (fun c61 => ?_) (fun c61 => ?_)
        · refine x_aload_n (pc := 66) hC dX4_readTest_66 rfl ?_
          refine x_dup (pc := 67) hC dX4_readTest_67 rfl ?_
          refine x_geti (K := 10) (pc := 68) hC fX4_43_4 (by assumption) dX4_readTest_68 rfl rfl ?_
          rw [wr_eq]
          refine x_iconst (pc := 71) hC dX4_readTest_71 ?_
          refine x_iadd (pc := 72) hC dX4_readTest_72 ?_
          rw [show sp + 1 + 1 = sp + 2 by omega]
          refine x_puti (K := 10) (pc := 73) hC rfl fX4_43_4 rfl (by assumption) dX4_readTest_73 rfl ?_
          have hspl2 : sp + 1 < en := by omega
          have hS2 : RdS (wr (wr σ q 10 (sp + 1)) q 10 (sp + 2)) g q D K0 en ac (sp + 2, 0, op, z) := hS1.adv hq55 (by omega)
          have hh2 : RdH (wr (wr σ q 10 (sp + 1)) q 10 (sp + 2)) q z (sp + 2) en := hS2.2.1
          refine x_aload_n (pc := 76) hC dX4_readTest_76 rfl ?_
          refine x_callV1 (As := []) (Bs := []) (pc := 77) hC (c_readNumber E hk hh2 (op := op)) wX4_75_4 pX4_readNumber (by assumption) rfl rfl (by exact Nat.le_of_ble_eq_true rfl) hR (by decide) (by decide) (by decide) rfl dX4_readTest_77 ?_
          refine x_ifB_ne (tgt := 85) (pc := 80) hC  dX4_readTest_80 (by decide) (fun c80 => ?_) (fun c80 => ?_)
          · refine X.mem (if_pos c80) ?_
            obtain ⟨e1, e2, e3, e4, e5⟩ := fig_sp c80 p5 (by omega) hen.2
            have hS3 := (hS2.num (n := (figF en (sp + 2, 0, op, z)).2) hq55).adv (sp' := (figF en (sp + 2, 0, op, z)).1.1) hq55 (by omega)
            refine x_aload_n (pc := 85) hC dX4_readTest_85 rfl ?_
            refine x_iload_n (pc := 86) hC dX4_readTest_86 rfl ?_
            refine x_iconst (pc := 87) hC dX4_readTest_87 ?_
            refine x_imul (pc := 88) hC dX4_readTest_88 ?_
            refine x_iload_n (pc := 89) hC dX4_readTest_89 rfl ?_
            refine x_iadd (pc := 90) hC dX4_readTest_90 ?_
            refine x_bipush (pc := 91) hC dX4_readTest_91 (by decide +kernel) ?_
            refine x_imul (pc := 93) hC dX4_readTest_93 ?_
            refine x_aload_n (pc := 94) hC dX4_readTest_94 rfl ?_
            refine x_geti (K := 9) (pc := 95) hC fX4_40_4 (by assumption) dX4_readTest_95 rfl rfl ?_
            rw [wr_k _ _ _ (by decide), wr_eq]
            refine x_iadd (pc := 98) hC dX4_readTest_98 ?_
            refine x_callV0 (As := [_]) (Bs := [_]) (pc := 99) hC (c_put E hk (U := z (228 + ac) - D) hS3.2.2.1 (by omega)) wX4_108_4 pX4_put (by assumption) rfl rfl (by exact Nat.le_of_ble_eq_true rfl) hR (by decide) (by decide) (by decide) rfl dX4_readTest_99 ?_
            refine x_iconst (pc := 102) hC dX4_readTest_102 ?_
            refine x_zreturn hC hZ (by omega) dX4_readTest_103 (by decide) (by decide) ?_
            have hT : testF en ac (sp, 0, op, z) = emF ac ((amI (hereF z sp en) 4 (sLn 4).toNat 0) + 8 * (amI (hereF z (sp + 1) en) 5 (sLn 5).toNat 0) + 32 * (figF en (sp + 2, 0, op, z)).2) (figF en (sp + 2, 0, op, z)).1 := by
              unfold testF
              rw [if_neg (show ¬ amF en 4 (sp, 0, op, z) = -1 from (show ¬ (amI (hereF z sp en) 4 (sLn 4).toNat 0) = -1 by omega)), if_neg (show ¬ amF en 5 ((sp, 0, op, z).1 + 1, (sp, 0, op, z).2) = -1 from (show ¬ (amI (hereF z (sp + 1) en) 5 (sLn 5).toNat 0) = -1 by omega))]
              rfl
            rw [hT, e1]
            have hr := hS3.em hq55 hac rfl hK.2 hK.1 (v := (amI (hereF z sp en) 4 (sLn 4).toNat 0) + 8 * (amI (hereF z (sp + 1) en) 5 (sLn 5).toNat 0) + 32 * (figF en (sp + 2, 0, op, z)).2)
            rw [(trS_mk (by omega) (by omega) ⟨e4, e5⟩).1] at hr
            exact ⟨by rw [bI_t (show (emF _ _ _).2.1 = 0 from by unfold emF; rfl)], rfl, rfl, hr.w, fun _ => hr⟩
          · refine x_iconst (pc := 83) hC dX4_readTest_83 ?_
            refine x_zreturn hC hZ (by omega) dX4_readTest_84 (by decide) (by decide) ?_
            rw [if_neg c80]
            have hT : testF en ac (sp, 0, op, z) = (sp + 2, 1, op, z) := by
              unfold testF
              rw [if_neg (show ¬ amF en 4 (sp, 0, op, z) = -1 from (show ¬ (amI (hereF z sp en) 4 (sLn 4).toNat 0) = -1 by omega)), if_neg (show ¬ amF en 5 ((sp, 0, op, z).1 + 1, (sp, 0, op, z).2) = -1 from (show ¬ (amI (hereF z (sp + 1) en) 5 (sLn 5).toNat 0) = -1 by omega))]
              dsimp only
              rw [fig_w c80]
              exact emF_w (by show (1 : Int) ≠ 0; decide)
            rw [hT]
            exact ⟨by rw [bI_f (show ¬ ((1 : Int) = 0) by decide)], rfl, rfl, hS2.w, fun h => absurd h (show ¬ ((1 : Int) = 0) by decide)⟩
        · refine x_iconst (pc := 64) hC dX4_readTest_64 ?_
          refine x_zreturn hC hZ (by omega) dX4_readTest_65 (by decide) (by decide) ?_
          have hT : testF en ac (sp, 0, op, z) = (sp + 1, 1, op, z) := by
            unfold testF
            rw [if_neg (show ¬ amF en 4 (sp, 0, op, z) = -1 from (show ¬ (amI (hereF z sp en) 4 (sLn 4).toNat 0) = -1 by omega))]
            exact if_pos (show (amI (hereF z (sp + 1) en) 5 (sLn 5).toNat 0) = -1 by omega)
          rw [hT]
          exact ⟨by rw [bI_f (show ¬ ((1 : Int) = 0) by decide)], rfl, rfl, hS1.w, fun h => absurd h (show ¬ ((1 : Int) = 0) by decide)⟩
      · refine x_iconst (pc := 45) hC dX4_readTest_45 ?_
        refine x_goto (tgt := 59) (pc := 46) hC dX4_readTest_46 (by decide) ?_
        refine x_istore_n (L' := [_, _, _]) (pc := 59) hC dX4_readTest_59 rfl rfl ?_
        
        refine x_iload_n (pc := 60) hC dX4_readTest_60 rfl ?_
        refine x_if_ge (tgt := 66) (pc := 61) hC (by omega) dX4_readTest_61 (by decide) (fun c61 => by (exfalso; omega)) (fun c61 => ?_)
        refine x_iconst (pc := 64) hC dX4_readTest_64 ?_
        refine x_zreturn hC hZ (by omega) dX4_readTest_65 (by decide) (by decide) ?_
        have hT : testF en ac (sp, 0, op, z) = (sp + 1, 1, op, z) := by
          unfold testF
          rw [if_neg (show ¬ amF en 4 (sp, 0, op, z) = -1 from (show ¬ (amI (hereF z sp en) 4 (sLn 4).toNat 0) = -1 by omega))]
          exact if_pos (amF_m1 (by decide) (by show hereF z (sp + 1) en = -1; omega))
        rw [hT]
        exact ⟨by rw [bI_f (show ¬ ((1 : Int) = 0) by decide)], rfl, rfl, hS1.w, fun h => absurd h (show ¬ ((1 : Int) = 0) by decide)⟩
    · refine x_iconst (pc := 26) hC dX4_readTest_26 ?_
      refine x_zreturn hC hZ (by omega) dX4_readTest_27 (by decide) (by decide) ?_
      have hT : testF en ac (sp, 0, op, z) = (sp, 1, op, z) := by
        exact if_pos (show (amI (hereF z sp en) 4 (sLn 4).toNat 0) = -1 by omega)
      rw [hT]
      exact ⟨by rw [bI_f (show ¬ ((1 : Int) = 0) by decide)], rfl, rfl, hS.w, fun h => absurd h (show ¬ ((1 : Int) = 0) by decide)⟩
  · refine x_iconst (pc := 7) hC dX4_readTest_7 ?_
    refine x_goto (tgt := 21) (pc := 8) hC dX4_readTest_8 (by decide) ?_
    refine x_istore_n (L' := [_, _, _]) (pc := 21) hC dX4_readTest_21 rfl rfl ?_
    
    refine x_iload_n (pc := 22) hC dX4_readTest_22 rfl ?_
    refine x_if_ge (tgt := 28) (pc := 23) hC (by omega) dX4_readTest_23 (by decide) (fun c23 => by (exfalso; omega)) (fun c23 => ?_)
    refine x_iconst (pc := 26) hC dX4_readTest_26 ?_
    refine x_zreturn hC hZ (by omega) dX4_readTest_27 (by decide) (by decide) ?_
    have hT : testF en ac (sp, 0, op, z) = (sp, 1, op, z) := by
      exact if_pos (amF_m1 (by decide) (by show hereF z sp en = -1; omega))
    rw [hT]
    exact ⟨by rw [bI_f (show ¬ ((1 : Int) = 0) by decide)], rfl, rfl, hS.w, fun h => absurd h (show ¬ ((1 : Int) = 0) by decide)⟩
