theorem mustF_w {en c : Int} {t : pT} (h : t.2.1 ≠ 0) : mustF en c t = (t.1, 1, t.2.2.1, t.2.2.2) := if_neg (fun x => h x.1)
theorem opn_5 {sp op : Int} {z : zS} (h : op = 5) : opn (sp, 0, op, z) = (sp, 1, op + 1, z) := if_pos h
theorem opn_4 {sp op : Int} {z : zS} (h : ¬ op = 5) : opn (sp, 0, op, z) = (sp + 1, 0, op + 1, z) := if_neg h
set_option maxHeartbeats 4000000 in
set_option maxRecDepth 100000 in
theorem c_readOneS (E : xE) {ρ : xR} {ks : xKs} {q : Nat} (hk : RdK ks ρ q) {g : xM} {D K0 en ac : Int} (hac : 0 ≤ ac ∧ ac ≤ 4) (hD : 0 ≤ D ∧ D ≤ K0) (he : 0 ≤ en ∧ en ≤ 100) (hK0 : 0 ≤ K0) {n : Nat} (HF : (∀ (σ : xM) (sp op : Int) (z : zS), RdS σ g q D K0 en ac (sp, 0, op, z) → PIn en ac (sp, 0, op, z) → K0 ≤ z (228 + ac) → 5 - op < (n : Int) → Sp E yX4_readOne kX4_readOne (5 + 2 * n) 0 0 [.ref q, .int (iI op)] σ ρ ks (fun r σ' ρ' ks' => r = some (.int (iI (bI ((facF en ac n (sp, 0, op, z)).2.1 = 0)))) ∧ ρ' = ρ ∧ ks' = ks ∧ RdW σ' g q (facF en ac n (sp, 0, op, z)) ∧ ((facF en ac n (sp, 0, op, z)).2.1 = 0 → RdS σ' g q D K0 en ac (facF en ac n (sp, 0, op, z)))))) {σ : xM} {sp op : Int} {z : zS} (hS : RdS σ g q D K0 en ac (sp, 0, op, z)) (hpi : PIn en ac (sp, 0, op, z)) (hK : 0 ≤ K0 ∧ K0 ≤ z (228 + ac)) (hn : 5 - op < ((n + 1 : Nat) : Int)) : Sp E yX4_readOne kX4_readOne (5 + 2 * (n + 1)) 0 0 [.ref q, .int (iI op)] σ ρ ks (fun r σ' ρ' ks' => r = some (.int (iI (bI ((facF en ac (n + 1) (sp, 0, op, z)).2.1 = 0)))) ∧ ρ' = ρ ∧ ks' = ks ∧ RdW σ' g q (facF en ac (n + 1) (sp, 0, op, z)) ∧ ((facF en ac (n + 1) (sp, 0, op, z)).2.1 = 0 → RdS σ' g q D K0 en ac (facF en ac (n + 1) (sp, 0, op, z)))) := by
  refine x_enter (own := RX4) (L := [_, _]) (by decide +kernel) rfl (by exact Nat.le_of_ble_eq_true rfl) rfl (fun p e R s m args below meth c Z hZ hC hR hin => ?_)
  obtain ⟨⟨g0, ⟨g1, g2, g3, g4, g5⟩, s0, s1, s2, s3, s4⟩, g15, s7, hq55⟩ := id hk
  have hh : RdH σ q z sp en := hS.2.1
  obtain ⟨p1, p2, p3, p4, p5⟩ := id hpi
  simp only at p1 p3 p4 p5
  obtain ⟨h10, h8, htp, hen, hsp, htk⟩ := id hh
  have hhr := here_in htk hsp.1 hen.2
  have hop5 : op ≤ 5 := hpi.2.2.1.2.2 rfl
  refine x_aload_n (pc := 0) hC dX4_readOne_0 rfl ?_
  refine x_callV1 (As := []) (Bs := []) (pc := 1) hC (c_ahead E hk hh) wX4_65_4 pX4_ahead (by assumption) rfl rfl (by exact Nat.le_of_ble_eq_true rfl) hR (by omega) (by decide) (by decide) rfl dX4_readOne_1 ?_
  refine x_bipush (pc := 4) hC dX4_readOne_4 (by decide +kernel) ?_
  refine x_icmp_eq (tgt := 23) (pc := 6) hC (by omega) (by omega) dX4_readOne_6 (by decide) (fun c6 => ?_) (fun c6 => ?_)
  · refine x_iload_n (pc := 23) hC dX4_readOne_23 rfl ?_
    refine x_iconst (pc := 24) hC dX4_readOne_24 ?_
    refine x_icmp_lt (tgt := 30) (pc := 25) hC (by omega) (by omega) dX4_readOne_25 (by decide) (fun c25 => ?_) (fun c25 => ?_)
    · refine x_aload_n (pc := 30) hC dX4_readOne_30 rfl ?_
      refine x_bipush (pc := 31) hC dX4_readOne_31 (by decide +kernel) ?_
      refine x_callV1 (As := [_]) (Bs := [_]) (pc := 33) hC (c_hasTaken E hk hh (a := 40) ⟨by decide, by decide⟩) wX4_58_4 pX4_hasTaken (by assumption) rfl rfl (by exact Nat.le_of_ble_eq_true rfl) hR (by omega) (by decide) (by decide) rfl dX4_readOne_33 ?_
      refine x_ifB_eq (tgt := 64) (pc := 36) hC  dX4_readOne_36 (by decide) (fun c36 => ?_) (fun c36 => by (exfalso; omega))
      refine X.mem (if_neg c36) ?_
      refine x_aload_n (pc := 64) hC dX4_readOne_64 rfl ?_
      refine x_dup (pc := 65) hC dX4_readOne_65 rfl ?_
      refine x_geti (K := 10) (pc := 66) hC fX4_43_4 (by assumption) dX4_readOne_66 rfl rfl ?_
      rw [h10]
      refine x_iconst (pc := 69) hC dX4_readOne_69 ?_
      refine x_iadd (pc := 70) hC dX4_readOne_70 ?_
      refine x_puti (K := 10) (pc := 71) hC rfl fX4_43_4 rfl (by assumption) dX4_readOne_71 rfl ?_
      have hlt : sp < en := by omega
      have ho : opn (sp, 0, op, z) = (sp + 1, 0, op + 1, z) := opn_4 (by omega)
      have hpi1 : PIn en ac (sp + 1, 0, op + 1, z) := ho ▸ opn_in hpi rfl hlt
      have hS1 : RdS (wr σ q 10 (sp + 1)) g q D K0 en ac (sp + 1, 0, op + 1, z) := (hS.adv hq55 (by omega)).op rfl rfl
      have hn1 : 5 - (op + 1) < (n : Int) := by omega
      refine x_aload_n (pc := 74) hC dX4_readOne_74 rfl ?_
      refine x_iload_n (pc := 75) hC dX4_readOne_75 rfl ?_
      refine x_iconst (pc := 76) hC dX4_readOne_76 ?_
      refine x_iadd (pc := 77) hC dX4_readOne_77 ?_
      refine x_callV (As := [_]) (Bs := [_]) (pc := 78) hC (HF _ _ _ _ hS1 hpi1 hK.2 hn1) wX4_105_4 pX4_readOne (by assumption) rfl rfl (by exact Nat.le_of_ble_eq_true rfl) hR (by omega) (by decide) (by decide) rfl dX4_readOne_78 (fun r78 σ78 ρ78 ks78 q78 => ?_)
      obtain ⟨rfl, e78, f78, w78, v78⟩ := q78
      obtain rfl := e78.symm
      obtain rfl := f78.symm
      refine x_ifB_ne (tgt := 86) (pc := 81) hC  dX4_readOne_81 (by decide) (fun c81 => ?_) (fun c81 => ?_)
      · obtain ⟨s2, z2, hX, x1, x2, x3⟩ := pgo_t (fac_go hac he.2 n _ hpi1) c81
        have hS2 := v78 c81
        obtain ⟨ea, eb, y1, y2, y3, -, -⟩ := fac_em hac he.2 n _ hpi1 rfl hn1 c81
        simp only [hX] at y1 y2
        rw [hX] at hS2
        have hU := hS2.2.2.1
        simp only at hU
        have x3s := x3.1
        simp only at x3s
        have hhr2 := here_in (z := z2) (sp := s2) x3.2.2.2.2 (by omega) he.2
        refine x_aload_n (pc := 86) hC dX4_readOne_86 rfl ?_
        refine x_iconst (pc := 87) hC dX4_readOne_87 ?_
        refine x_callV0 (As := [_]) (Bs := [_]) (pc := 88) hC (c_put E hk (U := z2 (228 + ac) - D) hU (by omega)) wX4_108_4 pX4_put (by assumption) rfl rfl (by exact Nat.le_of_ble_eq_true rfl) hR (by omega) (by decide) (by decide) rfl dX4_readOne_88 ?_
        refine x_iconst (pc := 91) hC dX4_readOne_91 ?_
        refine x_zreturn hC hZ (by omega) dX4_readOne_92 (by decide) (by decide) ?_
        have hT : facF en ac (n + 1) (sp, 0, op, z) = bck (emF ac (-1) (s2, 0, op + 1, z2)) := by
          rw [facF_s, if_neg (fun h => h rfl), if_pos c6, ho, hX]
        have hS3 := (hS2.em (v := -1) hq55 hac rfl (by show K0 ≤ z2 (228 + ac); omega) (by omega)).op (t' := bck (emF ac (-1) (s2, 0, op + 1, z2))) rfl rfl
        rw [hT]
        exact ⟨by rw [bI_t (show (bck (emF ac (-1) (s2, 0, op + 1, z2))).2.1 = 0 by rw [emF_e rfl]; rfl)], rfl, rfl, hS3.w, fun _ => hS3⟩
      · refine x_iconst (pc := 84) hC dX4_readOne_84 ?_
        refine x_zreturn hC hZ (by omega) dX4_readOne_85 (by decide) (by decide) ?_
        have hT : facF en ac (n + 1) (sp, 0, op, z) = ((facF en ac n (sp + 1, 0, op + 1, z)).1, (facF en ac n (sp + 1, 0, op + 1, z)).2.1, (facF en ac n (sp + 1, 0, op + 1, z)).2.2.1 - 1, (facF en ac n (sp + 1, 0, op + 1, z)).2.2.2) := by
          rw [facF_s, if_neg (fun h => h rfl), if_pos c6, ho, emF_w c81]
          rfl
        rw [hT]
        exact ⟨by rw [bI_f c81], rfl, rfl, w78, fun h => absurd h c81⟩
    · refine x_iconst (pc := 28) hC dX4_readOne_28 ?_
      refine x_zreturn hC hZ (by omega) dX4_readOne_29 (by decide) (by decide) ?_
      have hT : facF en ac (n + 1) (sp, 0, op, z) = (sp, 1, op + 1 - 1, z) := by
        have hw : ((sp, 1, op + 1, z) : pT).2.1 ≠ 0 := (show (1 : Int) ≠ 0 by decide)
        rw [facF_s, if_neg (fun h => h rfl), if_pos c6, opn_5 (by omega), facF_w hw, emF_w hw]
        rfl
      rw [hT]
      exact ⟨by rw [bI_f (show ¬ ((1 : Int) = 0) by decide)], rfl, rfl, ⟨hS.1.1, hS.2.1.1⟩, fun h => absurd h (show ¬ ((1 : Int) = 0) by decide)⟩
  · refine x_aload_n (pc := 9) hC dX4_readOne_9 rfl ?_
    refine x_callV1 (As := []) (Bs := []) (pc := 10) hC (c_ahead E hk hh) wX4_65_4 pX4_ahead (by assumption) rfl rfl (by exact Nat.le_of_ble_eq_true rfl) hR (by omega) (by decide) (by decide) rfl dX4_readOne_10 ?_
    refine x_bipush (pc := 13) hC dX4_readOne_13 (by decide +kernel) ?_
    refine x_icmp_eq (tgt := 23) (pc := 15) hC (by omega) (by omega) dX4_readOne_15 (by decide) (fun c15 => ?_) (fun c15 => ?_)
    · refine x_iload_n (pc := 23) hC dX4_readOne_23 rfl ?_
      refine x_iconst (pc := 24) hC dX4_readOne_24 ?_
      refine x_icmp_lt (tgt := 30) (pc := 25) hC (by omega) (by omega) dX4_readOne_25 (by decide) (fun c25 => ?_) (fun c25 => ?_)
      · refine x_aload_n (pc := 30) hC dX4_readOne_30 rfl ?_
        refine x_bipush (pc := 31) hC dX4_readOne_31 (by decide +kernel) ?_
        refine x_callV1 (As := [_]) (Bs := [_]) (pc := 33) hC (c_hasTaken E hk hh (a := 40) ⟨by decide, by decide⟩) wX4_58_4 pX4_hasTaken (by assumption) rfl rfl (by exact Nat.le_of_ble_eq_true rfl) hR (by omega) (by decide) (by decide) rfl dX4_readOne_33 ?_
        refine x_ifB_eq (tgt := 64) (pc := 36) hC  dX4_readOne_36 (by decide) (fun c36 => by (exfalso; omega)) (fun c36 => ?_)
        refine X.mem (if_pos c36) ?_
        have hlt : sp < en := by omega
        have ho : opn (sp, 0, op, z) = (sp + 1, 0, op + 1, z) := opn_4 (by omega)
        have hpi1 : PIn en ac (sp + 1, 0, op + 1, z) := ho ▸ opn_in hpi rfl hlt
        have hS1 : RdS (wr σ q 10 (sp + 1)) g q D K0 en ac (sp + 1, 0, op + 1, z) := (hS.adv hq55 (by omega)).op rfl rfl
        have hn1 : 5 - (op + 1) < (n : Int) := by omega
        refine x_aload_n (pc := 39) hC dX4_readOne_39 rfl ?_
        refine x_iload_n (pc := 40) hC dX4_readOne_40 rfl ?_
        refine x_iconst (pc := 41) hC dX4_readOne_41 ?_
        refine x_iadd (pc := 42) hC dX4_readOne_42 ?_
        refine x_callV (As := [_]) (Bs := [_]) (pc := 43) hC (c_readAny E hk hac hD he HF hS1 hpi1 hK hn1) wX4_82_4 pX4_readAny (by assumption) rfl rfl (by exact Nat.le_of_ble_eq_true rfl) hR (by omega) (by decide) (by decide) rfl dX4_readOne_43 (fun r43 σ43 ρ43 ks43 q43 => ?_)
        obtain ⟨rfl, e43, f43, w43, v43⟩ := q43
        obtain rfl := e43.symm
        obtain rfl := f43.symm
        refine x_ifB_eq (tgt := 62) (pc := 46) hC  dX4_readOne_46 (by decide) (fun c46 => ?_) (fun c46 => ?_)
        · refine x_iconst (pc := 62) hC dX4_readOne_62 ?_
          refine x_zreturn hC hZ (by omega) dX4_readOne_63 (by decide) (by decide) ?_
          have hT : facF en ac (n + 1) (sp, 0, op, z) = ((soF en ac (facF en ac n) (sp + 1, 0, op + 1, z)).1, 1, (soF en ac (facF en ac n) (sp + 1, 0, op + 1, z)).2.2.1 - 1, (soF en ac (facF en ac n) (sp + 1, 0, op + 1, z)).2.2.2) := by
            rw [facF_s, if_neg (fun h => h rfl), if_neg c6, if_pos c15, ho, mustF_w c46]
            rfl
          rw [hT]
          exact ⟨by rw [bI_f (show ¬ ((1 : Int) = 0) by decide)], rfl, rfl, w43, fun h => absurd h (show ¬ ((1 : Int) = 0) by decide)⟩
        · obtain ⟨s2, z2, hX, x1, x2, x3⟩ := pgo_t (soF_go hac he.2 (fac_go hac he.2 n) _ hpi1) c46
          have hS2 := v43 c46
          obtain ⟨ea, eb, y1, y2, y3, -, -⟩ := soF_em hac he.2 (H := 2 * n) (by omega) (fac_go hac he.2 n) (fun u hu hwu hou => fac_em hac he.2 n u hu hwu (by rw [hou]; exact hn1)) hpi1 rfl c46
          simp only [hX] at y1 y2
          rw [hX] at hS2
          have hU := hS2.2.2.1
          simp only at hU
          have x3s := x3.1
          simp only at x3s
          have hhr2 := here_in (z := z2) (sp := s2) x3.2.2.2.2 (by omega) he.2
          refine x_aload_n (pc := 49) hC dX4_readOne_49 rfl ?_
          refine x_bipush (pc := 50) hC dX4_readOne_50 (by decide +kernel) ?_
          refine x_callV1 (As := [_]) (Bs := [_]) (pc := 52) hC (c_hasTaken E hk hS2.2.1 (a := 41) ⟨by decide, by decide⟩) wX4_58_4 pX4_hasTaken (by assumption) rfl rfl (by exact Nat.le_of_ble_eq_true rfl) hR (by omega) (by decide) (by decide) rfl dX4_readOne_52 ?_
          refine x_ifB_eq (tgt := 62) (pc := 55) hC  dX4_readOne_55 (by decide) (fun c55 => ?_) (fun c55 => ?_)
          · refine x_iconst (pc := 62) hC dX4_readOne_62 ?_
            refine x_zreturn hC hZ (by omega) dX4_readOne_63 (by decide) (by decide) ?_
            rw [if_neg c55]
            have hT : facF en ac (n + 1) (sp, 0, op, z) = (s2, 1, op + 1 - 1, z2) := by
              rw [facF_s, if_neg (fun h => h rfl), if_neg c6, if_pos c15, ho, hX]
              unfold mustF
              rw [if_neg (fun h => c55 h.2)]
              rfl
            rw [hT]
            exact ⟨by rw [bI_f (show ¬ ((1 : Int) = 0) by decide)], rfl, rfl, hS2.w, fun h => absurd h (show ¬ ((1 : Int) = 0) by decide)⟩
          · refine x_iconst (pc := 58) hC dX4_readOne_58 ?_
            refine x_goto (tgt := 63) (pc := 59) hC dX4_readOne_59 (by decide) ?_
            refine x_zreturn hC hZ (by omega) dX4_readOne_63 (by decide) (by decide) ?_
            rw [if_pos c55]
            have hT : facF en ac (n + 1) (sp, 0, op, z) = (s2 + 1, 0, op + 1 - 1, z2) := by
              rw [facF_s, if_neg (fun h => h rfl), if_neg c6, if_pos c15, ho, hX]
              unfold mustF
              rw [if_pos ⟨rfl, c55⟩]
              rfl
            have h41 : hereF z2 s2 en = 41 := c55
            have hlt2 : s2 < en := by omega
            have hS3 := (hS2.adv hq55 (sp' := s2 + 1) (by omega)).op (t' := (s2 + 1, 0, op + 1 - 1, z2)) rfl rfl
            rw [hT]
            exact ⟨by rw [bI_t rfl], rfl, rfl, hS3.w, fun _ => hS3⟩
      · refine x_iconst (pc := 28) hC dX4_readOne_28 ?_
        refine x_zreturn hC hZ (by omega) dX4_readOne_29 (by decide) (by decide) ?_
        have hT : facF en ac (n + 1) (sp, 0, op, z) = (sp, 1, op + 1 - 1, z) := by
          have hw : ((sp, 1, op + 1, z) : pT).2.1 ≠ 0 := (show (1 : Int) ≠ 0 by decide)
          rw [facF_s, if_neg (fun h => h rfl), if_neg c6, if_pos c15, opn_5 (by omega), soF_w hw (facF_w hw n), mustF_w hw]
          rfl
        rw [hT]
        exact ⟨by rw [bI_f (show ¬ ((1 : Int) = 0) by decide)], rfl, rfl, ⟨hS.1.1, hS.2.1.1⟩, fun h => absurd h (show ¬ ((1 : Int) = 0) by decide)⟩
    · refine x_aload_n (pc := 18) hC dX4_readOne_18 rfl ?_
      refine x_callV (As := []) (Bs := []) (pc := 19) hC (c_readTest E hk hac hS hpi hK hD) wX4_112_4 pX4_readTest (by assumption) rfl rfl (by exact Nat.le_of_ble_eq_true rfl) hR (by omega) (by decide) (by decide) rfl dX4_readOne_19 (fun r19 σ19 ρ19 ks19 q19 => ?_)
      obtain ⟨rfl, e19, f19, w19, v19⟩ := q19
      obtain rfl := e19.symm
      obtain rfl := f19.symm
      refine x_zreturn hC hZ (by exact bI_01 _) dX4_readOne_22 (by decide) (by decide) ?_
      have hT : facF en ac (n + 1) (sp, 0, op, z) = testF en ac (sp, 0, op, z) := by rw [facF_s, if_neg (fun h => h rfl), if_neg c6, if_neg c15]
      rw [hT]
      exact ⟨rfl, rfl, rfl, w19, v19⟩

theorem c_readOne (E : xE) {ρ : xR} {ks : xKs} {q : Nat} (hk : RdK ks ρ q) {g : xM} {D K0 en ac : Int} (hac : 0 ≤ ac ∧ ac ≤ 4) (hD : 0 ≤ D ∧ D ≤ K0) (he : 0 ≤ en ∧ en ≤ 100) (hK0 : 0 ≤ K0) : ∀ (n : Nat), (∀ (σ : xM) (sp op : Int) (z : zS), RdS σ g q D K0 en ac (sp, 0, op, z) → PIn en ac (sp, 0, op, z) → K0 ≤ z (228 + ac) → 5 - op < (n : Int) → Sp E yX4_readOne kX4_readOne (5 + 2 * n) 0 0 [.ref q, .int (iI op)] σ ρ ks (fun r σ' ρ' ks' => r = some (.int (iI (bI ((facF en ac n (sp, 0, op, z)).2.1 = 0)))) ∧ ρ' = ρ ∧ ks' = ks ∧ RdW σ' g q (facF en ac n (sp, 0, op, z)) ∧ ((facF en ac n (sp, 0, op, z)).2.1 = 0 → RdS σ' g q D K0 en ac (facF en ac n (sp, 0, op, z)))))
  | 0 => fun σ sp op z _ hpi _ hn => by
    have := hpi.2.2.1.2.2 rfl
    simp only at this
    omega
  | n + 1 => fun σ sp op z hS hpi hK hn => c_readOneS E hk hac hD he hK0 (c_readOne E hk hac hD he hK0 n) hS hpi ⟨hK0, hK⟩ hn