/-! reading a condition -/
theorem evL_w {en ac c v : Int} {fac : pT → pT} {t : pT} (h : t.2.1 ≠ 0) : ∀ m : Nat, evL en ac c v fac m t = t
  | 0 => rfl
  | _ + 1 => if_neg (fun x => h x.1)
theorem evL_n {en ac c v : Int} {fac : pT → pT} {t : pT} (h : ¬ hereF t.2.2.2 t.1 en = c) : ∀ m : Nat, evL en ac c v fac m t = t
  | 0 => rfl
  | _ + 1 => if_neg (fun x => h x.2)
theorem evL_y {en ac c v : Int} {fac : pT → pT} {t : pT} (hw : t.2.1 = 0) (h : hereF t.2.2.2 t.1 en = c) (m : Nat) : evL en ac c v fac (m + 1) t = evL en ac c v fac m (emF ac v (fac (t.1 + 1, t.2))) := if_pos ⟨hw, h⟩
theorem facF_w {en ac : Int} {t : pT} (h : t.2.1 ≠ 0) : ∀ n : Nat, facF en ac n t = t
  | 0 => rfl
  | _ + 1 => if_pos h
theorem soF_w {en ac : Int} {fac : pT → pT} {t : pT} (h : t.2.1 ≠ 0) (hf : fac t = t) : soF en ac fac t = t := by
  have h1 : evF en ac 38 (-2) fac t = t := by unfold evF; rw [hf, evL_w h]
  unfold soF
  show evL en ac 124 (-3) _ 101 (evF en ac 38 (-2) fac t) = t
  rw [h1, evL_w h]
theorem pgo_t {en ac : Int} {sp op : Int} {z : zS} {t' : pT} (h : PGo en ac (sp, 0, op, z) t') (hw : t'.2.1 = 0) : ∃ (s2 : Int) (z2 : zS), t' = (s2, 0, op, z2) ∧ sp ≤ s2 ∧ sp - z (228 + ac) ≤ s2 - z2 (228 + ac) ∧ PIn en ac (s2, 0, op, z2) := by
  obtain ⟨s2, w2, o2, z2⟩ := t'
  simp only at hw
  subst hw
  obtain ⟨h1, h2, h3, h4⟩ := h
  simp only at h2 h3
  subst h3
  exact ⟨s2, z2, rfl, h2, (h4 rfl).2, h1⟩
set_option maxHeartbeats 4000000 in
set_option maxRecDepth 100000 in
theorem c_readAny (E : xE) {ρ : xR} {ks : xKs} {q : Nat} (hk : RdK ks ρ q) {g : xM} {D K0 en ac : Int} (hac : 0 ≤ ac ∧ ac ≤ 4) (hD : 0 ≤ D ∧ D ≤ K0) (he : 0 ≤ en ∧ en ≤ 100) {n : Nat} (HF : (∀ (σ : xM) (sp op : Int) (z : zS), RdS σ g q D K0 en ac (sp, 0, op, z) → PIn en ac (sp, 0, op, z) → K0 ≤ z (228 + ac) → 5 - op < (n : Int) → Sp E yX4_readOne kX4_readOne (5 + 2 * n) 0 0 [.ref q, .int (iI op)] σ ρ ks (fun r σ' ρ' ks' => r = some (.int (iI (bI ((facF en ac n (sp, 0, op, z)).2.1 = 0)))) ∧ ρ' = ρ ∧ ks' = ks ∧ RdW σ' g q (facF en ac n (sp, 0, op, z)) ∧ ((facF en ac n (sp, 0, op, z)).2.1 = 0 → RdS σ' g q D K0 en ac (facF en ac n (sp, 0, op, z)))))) {σ : xM} {sp op : Int} {z : zS} (hS : RdS σ g q D K0 en ac (sp, 0, op, z)) (hpi : PIn en ac (sp, 0, op, z)) (hK : 0 ≤ K0 ∧ K0 ≤ z (228 + ac)) (hn : 5 - op < (n : Int)) : Sp E yX4_readAny kX4_readAny (6 + 2 * n) 0 0 [.ref q, .int (iI op)] σ ρ ks (fun r σ' ρ' ks' => r = some (.int (iI (bI ((soF en ac (facF en ac n) (sp, 0, op, z)).2.1 = 0)))) ∧ ρ' = ρ ∧ ks' = ks ∧ RdW σ' g q (soF en ac (facF en ac n) (sp, 0, op, z)) ∧ ((soF en ac (facF en ac n) (sp, 0, op, z)).2.1 = 0 → RdS σ' g q D K0 en ac (soF en ac (facF en ac n) (sp, 0, op, z)))) := by
  refine x_enter (own := RX4) (L := [_, _, _, _, _]) (by decide +kernel) rfl (by exact Nat.le_of_ble_eq_true rfl) rfl (fun p e R sv mv args below meth c Z hZ hC hR hin => ?_)
  obtain ⟨⟨g0, ⟨g1, g2, g3, g4, g5⟩, s0, s1, s2, s3, s4⟩, g15, s7, hq55⟩ := id hk
  have loop : ∀ (N : Nat) (σ' : xM) (s i : Int) (z' : zS) (a o : Int) (m m' : Nat), en - s < N → RdS σ' g q D K0 en ac (s, 0, op, z') → PIn en ac (s, 0, op, z') → K0 ≤ z' (228 + ac) → (0 ≤ i ∧ i ≤ s) → (a = 0 ∨ a = 1) → (o = 0 ∨ o = 1) → en - s < m → en - s < m' → z' (228 + ac) + a + o ≤ s → soF en ac (facF en ac n) (sp, 0, op, z) = evL en ac 124 (-3) (evF en ac 38 (-2) (facF en ac n)) m' (if o = 1 then emF ac (-3) (evL en ac 38 (-2) (facF en ac n) m (if a = 1 then emF ac (-2) (facF en ac n (s, 0, op, z')) else facF en ac n (s, 0, op, z'))) else evL en ac 38 (-2) (facF en ac n) m (if a = 1 then emF ac (-2) (facF en ac n (s, 0, op, z')) else facF en ac n (s, 0, op, z'))) → X E p e R sv mv args below meth c Z 0 0 σ' ρ ks 10 [some (.ref q), some (.int (iI op)), some (.int (iI a)), some (.int (iI o)), some (.int (iI i))] [] := by
    intro N
    induction N with
    | zero => intro σ' s i z' a o m m' h1 _ h3; have := h3.1; simp only at this; omega
    | succ N ih =>
      intro σ' s i z' a o m m' hN hS' hpi' hK' hi ha ho hm hm' hgp hG
      have hh : RdH σ' q z' s en := hS'.2.1
      obtain ⟨p1, p2, p3, p4, p5⟩ := id hpi'
      simp only at p1 p3 p4 p5
      obtain ⟨h10, h8, htp, hen, hsp, htk⟩ := id hh
      refine x_iload (pc := 10) hC dX4_readAny_10 rfl ?_
      refine x_aload_n (pc := 12) hC dX4_readAny_12 rfl ?_
      refine x_geti (K := 8) (pc := 13) hC fX4_37_4 (by assumption) dX4_readAny_13 rfl rfl ?_
      rw [h8]
      refine x_icmp_gt (tgt := 82) (pc := 16) hC (by omega) (by omega) dX4_readAny_16 (by decide) (fun c16 => by (exfalso; omega)) (fun c16 => ?_)
      refine x_aload_n (pc := 19) hC dX4_readAny_19 rfl ?_
      refine x_iload_n (pc := 20) hC dX4_readAny_20 rfl ?_
      refine x_callV (As := [_]) (Bs := [_]) (pc := 21) hC (HF σ' s op z' hS' hpi' hK' hn) wX4_105_4 pX4_readOne (by assumption) rfl rfl (by exact Nat.le_of_ble_eq_true rfl) hR (by omega) (by decide) (by decide) rfl dX4_readAny_21 (fun r21 σ21 ρ21 ks21 q21 => ?_)
      obtain ⟨rfl, e21, f21, w21, v21⟩ := q21
      obtain rfl := e21.symm
      obtain rfl := f21.symm
      refine x_ifB_ne (tgt := 29) (pc := 24) hC  dX4_readAny_24 (by decide) (fun c24 => ?_) (fun c24 => ?_)
      · obtain ⟨s2, z2, hx, x1, x2, x3⟩ := pgo_t (fac_go hac he.2 n _ hpi') c24
        have hS2 := v21 c24
        obtain ⟨ea, eb, y1, y2, y3, -, -⟩ := fac_em hac he.2 n _ hpi' rfl hn c24
        simp only [hx] at y1 y2
        rw [hx] at hS2 hG
        have hU := hS2.2.2.1
        simp only at hU
        have hS2s := x3.1
        simp only at hS2s
        refine x_iload_n (pc := 29) hC dX4_readAny_29 rfl ?_
        refine x_if_eq (tgt := 39) (pc := 30) hC (by omega) dX4_readAny_30 (by decide) (fun c30 => ?_) (fun c30 => ?_)
        · obtain ⟨z3, hS3, hpi3, hK3, hgp3, hG3⟩ : ∃ z3, RdS (σ21) g q D K0 en ac (s2, 0, op, z3) ∧ PIn en ac (s2, 0, op, z3) ∧ K0 ≤ z3 (228 + ac) ∧ z3 (228 + ac) + o ≤ s2 ∧ soF en ac (facF en ac n) (sp, 0, op, z) = evL en ac 124 (-3) (evF en ac 38 (-2) (facF en ac n)) m' (if o = 1 then emF ac (-3) (evL en ac 38 (-2) (facF en ac n) m (s2, 0, op, z3)) else evL en ac 38 (-2) (facF en ac n) m (s2, 0, op, z3)) := ⟨z2, hS2, x3, by omega, by omega, by rw [hG, if_neg (show ¬ a = 1 by omega)]⟩
          have hh3 := hS3.2.1
          have p3s := hpi3.1
          simp only at hh3 p3s
          have hhr3 := here_in (z := z3) (sp := s2) hpi3.2.2.2.2 (by omega) he.2
          refine x_aload_n (pc := 39) hC dX4_readAny_39 rfl ?_
          refine x_bipush (pc := 40) hC dX4_readAny_40 (by decide +kernel) ?_
          refine x_callV1 (As := [_]) (Bs := [_]) (pc := 42) hC (c_hasTaken E hk hh3 (a := 38) ⟨by decide, by decide⟩) wX4_58_4 pX4_hasTaken (by assumption) rfl rfl (by exact Nat.le_of_ble_eq_true rfl) hR (by omega) (by decide) (by decide) rfl dX4_readAny_42 ?_
          refine x_istore_n (L' := [_, _, _, _, _]) (pc := 45) hC dX4_readAny_45 rfl rfl ?_
          refine x_iload_n (pc := 46) hC dX4_readAny_46 rfl ?_
          refine x_ifB_eq (tgt := 53) (pc := 47) hC  dX4_readAny_47 (by decide) (fun c47 => ?_) (fun c47 => ?_)
          · refine X.mem (if_neg c47) ?_
            refine x_iload_n (pc := 53) hC dX4_readAny_53 rfl ?_
            refine x_if_eq (tgt := 63) (pc := 54) hC (by omega) dX4_readAny_54 (by decide) (fun c54 => ?_) (fun c54 => ?_)
            · obtain ⟨z4, hS4, hpi4, hK4, hG4⟩ : ∃ z4, RdS (σ21) g q D K0 en ac (s2, 0, op, z4) ∧ PIn en ac (s2, 0, op, z4) ∧ K0 ≤ z4 (228 + ac) ∧ soF en ac (facF en ac n) (sp, 0, op, z) = evL en ac 124 (-3) (evF en ac 38 (-2) (facF en ac n)) m' (s2, 0, op, z4) := ⟨z3, hS3, hpi3, hK3, by rw [hG3, if_neg (show ¬ o = 1 by omega)]; exact congrArg _ (evL_n (show ¬ hereF ((s2, 0, op, z3) : pT).2.2.2 ((s2, 0, op, z3) : pT).1 en = 38 from c47) m)⟩
              have hh4 := hS4.2.1
              simp only at hh4
              have hhr4 := here_in (z := z4) (sp := s2) hpi4.2.2.2.2 (by omega) he.2
              refine x_aload_n (pc := 63) hC dX4_readAny_63 rfl ?_
              refine x_bipush (pc := 64) hC dX4_readAny_64 (by decide +kernel) ?_
              refine x_callV1 (As := [_]) (Bs := [_]) (pc := 66) hC (c_hasTaken E hk hh4 (a := 124) ⟨by decide, by decide⟩) wX4_58_4 pX4_hasTaken (by assumption) rfl rfl (by exact Nat.le_of_ble_eq_true rfl) hR (by omega) (by decide) (by decide) rfl dX4_readAny_66 ?_
              refine x_istore_n (L' := [_, _, _, _, _]) (pc := 69) hC dX4_readAny_69 rfl rfl ?_
              refine x_iload_n (pc := 70) hC dX4_readAny_70 rfl ?_
              refine x_ifB_ne (tgt := 76) (pc := 71) hC  dX4_readAny_71 (by decide) (fun c71 => ?_) (fun c71 => ?_)
              · refine X.mem (if_pos c71) ?_
                refine x_iinc (L' := [_, _, _, _, _]) (pc := 76) hC dX4_readAny_76 rfl rfl rfl ?_
                refine x_goto (tgt := 10) (pc := 79) hC dX4_readAny_79 (by decide) ?_
                have h124 := c71
                have hlt : s2 < en := by omega
                have hpc := hpi4.2.2.2.1
                simp only at hpc
                obtain ⟨mm, rfl⟩ : ∃ mm, m' = mm + 1 := ⟨m' - 1, by omega⟩
                exact ih _ (s2 + 1) (i + 1) z4 (bI (hereF z3 s2 en = 38)) (bI (hereF z4 s2 en = 124)) 101 mm (by omega) (hS4.adv hk.2.2.2 (by omega)) (hpi4.adv hlt) hK4 (by omega) (bI_01 _) (bI_01 _) (by omega) (by omega) (by rw [bI_t c71, bI_f c47]; omega) (by rw [hG4, if_pos (bI_t c71), if_neg (by rw [bI_f c47]; decide), evL_y rfl c71]; rfl)
              · refine x_iconst (pc := 74) hC dX4_readAny_74 ?_
                refine x_zreturn hC hZ (by omega) dX4_readAny_75 (by decide) (by decide) ?_
                rw [if_neg c71]
                have hT : soF en ac (facF en ac n) (sp, 0, op, z) = (s2, 0, op, z4) := by rw [hG4, evL_n c71]
                rw [hT]
                exact ⟨by rw [bI_t rfl], rfl, rfl, hS4.w, fun _ => hS4⟩
            · refine x_aload_n (pc := 57) hC dX4_readAny_57 rfl ?_
              refine x_bipush (pc := 58) hC dX4_readAny_58 (by decide +kernel) ?_
              refine x_callV0 (As := [_]) (Bs := [_]) (pc := 60) hC (c_put E hk (U := z3 (228 + ac) - D) hS3.2.2.1 (by omega)) wX4_108_4 pX4_put (by assumption) rfl rfl (by exact Nat.le_of_ble_eq_true rfl) hR (by omega) (by decide) (by decide) rfl dX4_readAny_60 ?_
              have hE4 := emF_e (ac := ac) (v := -3) (t := (s2, 0, op, z3)) rfl
              have hS3e := hS3.em (v := -3) hk.2.2.2 hac rfl hK3 (by omega)
              have hPe4 := em_in (v := -3) hpi3 (fun _ => by show z3 (228 + ac) < s2; omega) hac
              rw [hE4] at hS3e hPe4
              obtain ⟨z4, hS4, hpi4, hK4, hG4⟩ : ∃ z4, RdS (wr (wr (σ21) (q + 4) (z3 (228 + ac) - D) (-3)) q 6 (z3 (228 + ac) - D + 1)) g q D K0 en ac (s2, 0, op, z4) ∧ PIn en ac (s2, 0, op, z4) ∧ K0 ≤ z4 (228 + ac) ∧ soF en ac (facF en ac n) (sp, 0, op, z) = evL en ac 124 (-3) (evF en ac 38 (-2) (facF en ac n)) m' (s2, 0, op, z4) := ⟨_, hS3e, hPe4, by show K0 ≤ up _ (228 + ac) _ (228 + ac); rw [up_eq]; show K0 ≤ z3 (228 + ac) + 1; omega, by rw [hG3, if_pos (show o = 1 by omega), evL_n (t := (s2, 0, op, z3)) (c := 38) c47, hE4]⟩
              have hh4 := hS4.2.1
              simp only at hh4
              have hhr4 := here_in (z := z4) (sp := s2) hpi4.2.2.2.2 (by omega) he.2
              refine x_aload_n (pc := 63) hC dX4_readAny_63 rfl ?_
              refine x_bipush (pc := 64) hC dX4_readAny_64 (by decide +kernel) ?_
              refine x_callV1 (As := [_]) (Bs := [_]) (pc := 66) hC (c_hasTaken E hk hh4 (a := 124) ⟨by decide, by decide⟩) wX4_58_4 pX4_hasTaken (by assumption) rfl rfl (by exact Nat.le_of_ble_eq_true rfl) hR (by omega) (by decide) (by decide) rfl dX4_readAny_66 ?_
              refine x_istore_n (L' := [_, _, _, _, _]) (pc := 69) hC dX4_readAny_69 rfl rfl ?_
              refine x_iload_n (pc := 70) hC dX4_readAny_70 rfl ?_
              refine x_ifB_ne (tgt := 76) (pc := 71) hC  dX4_readAny_71 (by decide) (fun c71 => ?_) (fun c71 => ?_)
              · refine X.mem (if_pos c71) ?_
                refine x_iinc (L' := [_, _, _, _, _]) (pc := 76) hC dX4_readAny_76 rfl rfl rfl ?_
                refine x_goto (tgt := 10) (pc := 79) hC dX4_readAny_79 (by decide) ?_
                have h124 := c71
                have hlt : s2 < en := by omega
                have hpc := hpi4.2.2.2.1
                simp only at hpc
                obtain ⟨mm, rfl⟩ : ∃ mm, m' = mm + 1 := ⟨m' - 1, by omega⟩
                exact ih _ (s2 + 1) (i + 1) z4 (bI (hereF z3 s2 en = 38)) (bI (hereF z4 s2 en = 124)) 101 mm (by omega) (hS4.adv hk.2.2.2 (by omega)) (hpi4.adv hlt) hK4 (by omega) (bI_01 _) (bI_01 _) (by omega) (by omega) (by rw [bI_t c71, bI_f c47]; omega) (by rw [hG4, if_pos (bI_t c71), if_neg (by rw [bI_f c47]; decide), evL_y rfl c71]; rfl)
              · refine x_iconst (pc := 74) hC dX4_readAny_74 ?_
                refine x_zreturn hC hZ (by omega) dX4_readAny_75 (by decide) (by decide) ?_
                rw [if_neg c71]
                have hT : soF en ac (facF en ac n) (sp, 0, op, z) = (s2, 0, op, z4) := by rw [hG4, evL_n c71]
                rw [hT]
                exact ⟨by rw [bI_t rfl], rfl, rfl, hS4.w, fun _ => hS4⟩
          · refine X.mem (if_pos c47) ?_
            refine x_goto (tgt := 76) (pc := 50) hC dX4_readAny_50 (by decide) ?_
            
            refine x_iinc (L' := [_, _, _, _, _]) (pc := 76) hC dX4_readAny_76 rfl rfl rfl ?_
            refine x_goto (tgt := 10) (pc := 79) hC dX4_readAny_79 (by decide) ?_
            have h38 := c47
            have hlt : s2 < en := by omega
            obtain ⟨mm, rfl⟩ : ∃ mm, m = mm + 1 := ⟨m - 1, by omega⟩
            exact ih _ (s2 + 1) (i + 1) z3 (bI (hereF z3 s2 en = 38)) o mm m' (by omega) (hS3.adv hk.2.2.2 (by omega)) (hpi3.adv hlt) hK3 (by omega) (bI_01 _) ho (by omega) (by omega) (by rw [bI_t c47]; omega) (by rw [hG3, if_pos (bI_t c47), evL_y rfl c47])
        · refine x_aload_n (pc := 33) hC dX4_readAny_33 rfl ?_
          refine x_bipush (pc := 34) hC dX4_readAny_34 (by decide +kernel) ?_
          refine x_callV0 (As := [_]) (Bs := [_]) (pc := 36) hC (c_put E hk (U := z2 (228 + ac) - D) hU (by omega)) wX4_108_4 pX4_put (by assumption) rfl rfl (by exact Nat.le_of_ble_eq_true rfl) hR (by omega) (by decide) (by decide) rfl dX4_readAny_36 ?_
          have hE := emF_e (ac := ac) (v := -2) (t := (s2, 0, op, z2)) rfl
          have hS2e := hS2.em (v := -2) hk.2.2.2 hac rfl (by show K0 ≤ z2 (228 + ac); omega) (by omega)
          have hPe := em_in (v := -2) x3 (fun _ => by show z2 (228 + ac) < s2; omega) hac
          rw [hE] at hS2e hPe
          obtain ⟨z3, hS3, hpi3, hK3, hgp3, hG3⟩ : ∃ z3, RdS (wr (wr σ21 (q + 4) (z2 (228 + ac) - D) (-2)) q 6 (z2 (228 + ac) - D + 1)) g q D K0 en ac (s2, 0, op, z3) ∧ PIn en ac (s2, 0, op, z3) ∧ K0 ≤ z3 (228 + ac) ∧ z3 (228 + ac) + o ≤ s2 ∧ soF en ac (facF en ac n) (sp, 0, op, z) = evL en ac 124 (-3) (evF en ac 38 (-2) (facF en ac n)) m' (if o = 1 then emF ac (-3) (evL en ac 38 (-2) (facF en ac n) m (s2, 0, op, z3)) else evL en ac 38 (-2) (facF en ac n) m (s2, 0, op, z3)) := ⟨_, hS2e, hPe, by show K0 ≤ up _ (228 + ac) _ (228 + ac); rw [up_eq]; show K0 ≤ z2 (228 + ac) + 1; omega, by show up _ (228 + ac) _ (228 + ac) + o ≤ s2; rw [up_eq]; show z2 (228 + ac) + 1 + o ≤ s2; omega, by rw [hG, if_pos (show a = 1 by omega), hE]⟩
          have hh3 := hS3.2.1
          have p3s := hpi3.1
          simp only at hh3 p3s
          have hhr3 := here_in (z := z3) (sp := s2) hpi3.2.2.2.2 (by omega) he.2
          refine x_aload_n (pc := 39) hC dX4_readAny_39 rfl ?_
          refine x_bipush (pc := 40) hC dX4_readAny_40 (by decide +kernel) ?_
          refine x_callV1 (As := [_]) (Bs := [_]) (pc := 42) hC (c_hasTaken E hk hh3 (a := 38) ⟨by decide, by decide⟩) wX4_58_4 pX4_hasTaken (by assumption) rfl rfl (by exact Nat.le_of_ble_eq_true rfl) hR (by omega) (by decide) (by decide) rfl dX4_readAny_42 ?_
          refine x_istore_n (L' := [_, _, _, _, _]) (pc := 45) hC dX4_readAny_45 rfl rfl ?_
          refine x_iload_n (pc := 46) hC dX4_readAny_46 rfl ?_
          refine x_ifB_eq (tgt := 53) (pc := 47) hC  dX4_readAny_47 (by decide) (fun c47 => ?_) (fun c47 => ?_)
          · refine X.mem (if_neg c47) ?_
            refine x_iload_n (pc := 53) hC dX4_readAny_53 rfl ?_
            refine x_if_eq (tgt := 63) (pc := 54) hC (by omega) dX4_readAny_54 (by decide) (fun c54 => ?_) (fun c54 => ?_)
            · obtain ⟨z4, hS4, hpi4, hK4, hG4⟩ : ∃ z4, RdS (wr (wr σ21 (q + 4) (z2 (228 + ac) - D) (-2)) q 6 (z2 (228 + ac) - D + 1)) g q D K0 en ac (s2, 0, op, z4) ∧ PIn en ac (s2, 0, op, z4) ∧ K0 ≤ z4 (228 + ac) ∧ soF en ac (facF en ac n) (sp, 0, op, z) = evL en ac 124 (-3) (evF en ac 38 (-2) (facF en ac n)) m' (s2, 0, op, z4) := ⟨z3, hS3, hpi3, hK3, by rw [hG3, if_neg (show ¬ o = 1 by omega)]; exact congrArg _ (evL_n (show ¬ hereF ((s2, 0, op, z3) : pT).2.2.2 ((s2, 0, op, z3) : pT).1 en = 38 from c47) m)⟩
              have hh4 := hS4.2.1
              simp only at hh4
              have hhr4 := here_in (z := z4) (sp := s2) hpi4.2.2.2.2 (by omega) he.2
              refine x_aload_n (pc := 63) hC dX4_readAny_63 rfl ?_
              refine x_bipush (pc := 64) hC dX4_readAny_64 (by decide +kernel) ?_
              refine x_callV1 (As := [_]) (Bs := [_]) (pc := 66) hC (c_hasTaken E hk hh4 (a := 124) ⟨by decide, by decide⟩) wX4_58_4 pX4_hasTaken (by assumption) rfl rfl (by exact Nat.le_of_ble_eq_true rfl) hR (by omega) (by decide) (by decide) rfl dX4_readAny_66 ?_
              refine x_istore_n (L' := [_, _, _, _, _]) (pc := 69) hC dX4_readAny_69 rfl rfl ?_
              refine x_iload_n (pc := 70) hC dX4_readAny_70 rfl ?_
              refine x_ifB_ne (tgt := 76) (pc := 71) hC  dX4_readAny_71 (by decide) (fun c71 => ?_) (fun c71 => ?_)
              · refine X.mem (if_pos c71) ?_
                refine x_iinc (L' := [_, _, _, _, _]) (pc := 76) hC dX4_readAny_76 rfl rfl rfl ?_
                refine x_goto (tgt := 10) (pc := 79) hC dX4_readAny_79 (by decide) ?_
                have h124 := c71
                have hlt : s2 < en := by omega
                have hpc := hpi4.2.2.2.1
                simp only at hpc
                obtain ⟨mm, rfl⟩ : ∃ mm, m' = mm + 1 := ⟨m' - 1, by omega⟩
                exact ih _ (s2 + 1) (i + 1) z4 (bI (hereF z3 s2 en = 38)) (bI (hereF z4 s2 en = 124)) 101 mm (by omega) (hS4.adv hk.2.2.2 (by omega)) (hpi4.adv hlt) hK4 (by omega) (bI_01 _) (bI_01 _) (by omega) (by omega) (by rw [bI_t c71, bI_f c47]; omega) (by rw [hG4, if_pos (bI_t c71), if_neg (by rw [bI_f c47]; decide), evL_y rfl c71]; rfl)
              · refine x_iconst (pc := 74) hC dX4_readAny_74 ?_
                refine x_zreturn hC hZ (by omega) dX4_readAny_75 (by decide) (by decide) ?_
                rw [if_neg c71]
                have hT : soF en ac (facF en ac n) (sp, 0, op, z) = (s2, 0, op, z4) := by rw [hG4, evL_n c71]
                rw [hT]
                exact ⟨by rw [bI_t rfl], rfl, rfl, hS4.w, fun _ => hS4⟩
            · refine x_aload_n (pc := 57) hC dX4_readAny_57 rfl ?_
              refine x_bipush (pc := 58) hC dX4_readAny_58 (by decide +kernel) ?_
              refine x_callV0 (As := [_]) (Bs := [_]) (pc := 60) hC (c_put E hk (U := z3 (228 + ac) - D) hS3.2.2.1 (by omega)) wX4_108_4 pX4_put (by assumption) rfl rfl (by exact Nat.le_of_ble_eq_true rfl) hR (by omega) (by decide) (by decide) rfl dX4_readAny_60 ?_
              have hE4 := emF_e (ac := ac) (v := -3) (t := (s2, 0, op, z3)) rfl
              have hS3e := hS3.em (v := -3) hk.2.2.2 hac rfl hK3 (by omega)
              have hPe4 := em_in (v := -3) hpi3 (fun _ => by show z3 (228 + ac) < s2; omega) hac
              rw [hE4] at hS3e hPe4
              obtain ⟨z4, hS4, hpi4, hK4, hG4⟩ : ∃ z4, RdS (wr (wr (wr (wr σ21 (q + 4) (z2 (228 + ac) - D) (-2)) q 6 (z2 (228 + ac) - D + 1)) (q + 4) (z3 (228 + ac) - D) (-3)) q 6 (z3 (228 + ac) - D + 1)) g q D K0 en ac (s2, 0, op, z4) ∧ PIn en ac (s2, 0, op, z4) ∧ K0 ≤ z4 (228 + ac) ∧ soF en ac (facF en ac n) (sp, 0, op, z) = evL en ac 124 (-3) (evF en ac 38 (-2) (facF en ac n)) m' (s2, 0, op, z4) := ⟨_, hS3e, hPe4, by show K0 ≤ up _ (228 + ac) _ (228 + ac); rw [up_eq]; show K0 ≤ z3 (228 + ac) + 1; omega, by rw [hG3, if_pos (show o = 1 by omega), evL_n (t := (s2, 0, op, z3)) (c := 38) c47, hE4]⟩
              have hh4 := hS4.2.1
              simp only at hh4
              have hhr4 := here_in (z := z4) (sp := s2) hpi4.2.2.2.2 (by omega) he.2
              refine x_aload_n (pc := 63) hC dX4_readAny_63 rfl ?_
              refine x_bipush (pc := 64) hC dX4_readAny_64 (by decide +kernel) ?_
              refine x_callV1 (As := [_]) (Bs := [_]) (pc := 66) hC (c_hasTaken E hk hh4 (a := 124) ⟨by decide, by decide⟩) wX4_58_4 pX4_hasTaken (by assumption) rfl rfl (by exact Nat.le_of_ble_eq_true rfl) hR (by omega) (by decide) (by decide) rfl dX4_readAny_66 ?_
              refine x_istore_n (L' := [_, _, _, _, _]) (pc := 69) hC dX4_readAny_69 rfl rfl ?_
              refine x_iload_n (pc := 70) hC dX4_readAny_70 rfl ?_
              refine x_ifB_ne (tgt := 76) (pc := 71) hC  dX4_readAny_71 (by decide) (fun c71 => ?_) (fun c71 => ?_)
              · refine X.mem (if_pos c71) ?_
                refine x_iinc (L' := [_, _, _, _, _]) (pc := 76) hC dX4_readAny_76 rfl rfl rfl ?_
                refine x_goto (tgt := 10) (pc := 79) hC dX4_readAny_79 (by decide) ?_
                have h124 := c71
                have hlt : s2 < en := by omega
                have hpc := hpi4.2.2.2.1
                simp only at hpc
                obtain ⟨mm, rfl⟩ : ∃ mm, m' = mm + 1 := ⟨m' - 1, by omega⟩
                exact ih _ (s2 + 1) (i + 1) z4 (bI (hereF z3 s2 en = 38)) (bI (hereF z4 s2 en = 124)) 101 mm (by omega) (hS4.adv hk.2.2.2 (by omega)) (hpi4.adv hlt) hK4 (by omega) (bI_01 _) (bI_01 _) (by omega) (by omega) (by rw [bI_t c71, bI_f c47]; omega) (by rw [hG4, if_pos (bI_t c71), if_neg (by rw [bI_f c47]; decide), evL_y rfl c71]; rfl)
              · refine x_iconst (pc := 74) hC dX4_readAny_74 ?_
                refine x_zreturn hC hZ (by omega) dX4_readAny_75 (by decide) (by decide) ?_
                rw [if_neg c71]
                have hT : soF en ac (facF en ac n) (sp, 0, op, z) = (s2, 0, op, z4) := by rw [hG4, evL_n c71]
                rw [hT]
                exact ⟨by rw [bI_t rfl], rfl, rfl, hS4.w, fun _ => hS4⟩
          · refine X.mem (if_pos c47) ?_
            refine x_goto (tgt := 76) (pc := 50) hC dX4_readAny_50 (by decide) ?_
            
            refine x_iinc (L' := [_, _, _, _, _]) (pc := 76) hC dX4_readAny_76 rfl rfl rfl ?_
            refine x_goto (tgt := 10) (pc := 79) hC dX4_readAny_79 (by decide) ?_
            have h38 := c47
            have hlt : s2 < en := by omega
            obtain ⟨mm, rfl⟩ : ∃ mm, m = mm + 1 := ⟨m - 1, by omega⟩
            exact ih _ (s2 + 1) (i + 1) z3 (bI (hereF z3 s2 en = 38)) o mm m' (by omega) (hS3.adv hk.2.2.2 (by omega)) (hpi3.adv hlt) hK3 (by omega) (bI_01 _) ho (by omega) (by omega) (by rw [bI_t c47]; omega) (by rw [hG3, if_pos (bI_t c47), evL_y rfl c47])
      · refine x_iconst (pc := 27) hC dX4_readAny_27 ?_
        refine x_zreturn hC hZ (by omega) dX4_readAny_28 (by decide) (by decide) ?_
        have hT : soF en ac (facF en ac n) (sp, 0, op, z) = facF en ac n (s, 0, op, z') := by
          rw [hG]
          have e1 : ∀ v, emF ac v (facF en ac n (s, 0, op, z')) = facF en ac n (s, 0, op, z') := fun v => emF_w c24
          rcases ha with ha | ha <;> rcases ho with ho | ho <;> subst ha <;> subst ho <;> simp [e1, evL_w c24]
        rw [hT]
        exact ⟨by rw [bI_f c24], rfl, rfl, w21, fun h => absurd h c24⟩
  refine x_iconst (pc := 0) hC dX4_readAny_0 ?_
  refine x_istore_n (L' := [_, _, _, _, _]) (pc := 1) hC dX4_readAny_1 rfl rfl ?_
  refine x_iconst (pc := 2) hC dX4_readAny_2 ?_
  refine x_istore_n (L' := [_, _, _, _, _]) (pc := 3) hC dX4_readAny_3 rfl rfl ?_
  refine x_aload_n (pc := 4) hC dX4_readAny_4 rfl ?_
  refine x_geti (K := 10) (pc := 5) hC fX4_43_4 (by assumption) dX4_readAny_5 rfl rfl ?_
  rw [hS.2.1.1]
  refine x_istore (L' := [_, _, _, _, _]) (pc := 8) hC dX4_readAny_8 rfl rfl ?_
  have hp0 := hpi.2.2.2.1
  have hs0 := hpi.1
  simp only at hp0 hs0
  exact loop 101 σ sp sp z 0 0 101 101 (by omega) hS hpi hK.2 (by omega) (Or.inl rfl) (Or.inl rfl) (by omega) (by omega) (by omega) (by rw [if_neg (by decide), if_neg (by decide)]; rfl)
