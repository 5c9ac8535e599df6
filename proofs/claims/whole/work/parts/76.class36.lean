/-! fan, act -/
theorem kci_sub {k : Int} (h : 0 ≤ k ∧ k ≤ 6) : kci k = 0 ∨ kci k ∈ xSub := by
  rcases (show k = 0 ∨ k = 1 ∨ k = 2 ∨ k = 3 ∨ k = 4 ∨ k = 5 ∨ k = 6 by omega) with rfl | rfl | rfl | rfl | rfl | rfl | rfl <;> decide
set_option maxHeartbeats 4000000 in
set_option maxRecDepth 100000 in
theorem c_fan (E : xE) {σ : xM} {ρ : xR} {ks : xKs} (hw : WK ks ρ) {z : zS} (hz : HZ σ ρ ks 1 z) (hpl : PlOk z) (hl : 55 ≤ ks.length) {kd v a b w : Int} (h1 : rg kd) (h2 : rg v) (h3 : rg a) (h4 : rg b) (h5 : rg w) : Sp E yX11_fan kX11_fan 5 2 12 [.ref 0, .int (iI kd), .int (iI v), .int (iI a), .int (iI b), .int (iI w)] σ ρ ks (fun r σ' ρ' ks' => r = some (.int (iI (fanA z kd v a b w))) ∧ HZ σ' ρ' ks' 1 (fanZ z kd v a b w) ∧ WK ks' ρ' ∧ Gx σ σ' ρ ρ' ks ks' z ∧ ∀ p, FP ρ' (fanZ z kd v a b w) p → FP ρ z p ∨ ks.length ≤ p) := by
  obtain ⟨w0, w43, ⟨wr0, wr1, wr3, wr4, wr5⟩, wh, wk, wn, wt⟩ := id hw
  have hk := wh.hk
  obtain ⟨k1, k2, r0, r2, hs3⟩ := id hk
  have hfs := hz.fans
  have hsz := hz.sit
  obtain ⟨⟨hz1, -⟩, -, ⟨rq, hrq, hrq2, hrm⟩, hz4, ⟨hz6, -⟩, hz7, hz8, ⟨hz10, -⟩, ⟨hz12, -⟩, ⟨hz14, -⟩⟩ := id hz
  have hfan := hpl.1
  have hsit := hpl.2.1
  have h13 := hpl.1.1
  have h14 := hpl.2.1.1
  have hz00 := hpl.2.2.2
  obtain ⟨n0, ⟨n1, n2, n3, n4, n5⟩, m0, m1, m2, m3, m4⟩ := id wn
  refine x_enter (own := RX11) (L := [_, _, _, _, _, _]) (by decide +kernel) rfl (by exact Nat.le_of_ble_eq_true rfl) rfl (fun p e R s m args below meth c Z hZ hC hR hin => ?_)
  refine x_iload_n (pc := 0) hC dX11_fan_0 rfl ?_
  refine x_if_lt (tgt := 10) (pc := 1) hC (by omega) dX11_fan_1 (by decide) (fun c1 => ?_) (fun c1 => ?_)
  · refine x_iconst (pc := 10) hC dX11_fan_10 ?_
    refine x_ireturn hC hZ dX11_fan_11 (by decide) (by decide) ?_
    have hze : fanZ z kd v a b w = z := by
      unfold fanZ
      (repeat (first | rw [if_pos (by omega)] | rw [if_neg (by omega)]))
      all_goals (first | rfl | omega | assumption)
    rw [hze]
    refine ⟨congrArg (fun z => some (Value.int (iI z))) ?_, hz, hw, Gx.rf _ _ _ _, fun p hp => Or.inl hp⟩
    unfold fanA
    (repeat (first | rw [if_pos (by omega)] | rw [if_neg (by omega)]))
    all_goals (first | rfl | omega | assumption)
  · refine x_iload_n (pc := 4) hC dX11_fan_4 rfl ?_
    refine x_bipush (pc := 5) hC dX11_fan_5 (by decide +kernel) ?_
    refine x_icmp_le (tgt := 12) (pc := 7) hC (by omega) (by omega) dX11_fan_7 (by decide) (fun c7 => ?_) (fun c7 => ?_)
    · refine x_iload_n (pc := 12) hC dX11_fan_12 rfl ?_
      refine x_if_lt (tgt := 33) (pc := 13) hC (by omega) dX11_fan_13 (by decide) (fun c13 => ?_) (fun c13 => ?_)
      · refine x_bipush (pc := 33) hC dX11_fan_33 (by decide +kernel) ?_
        refine x_ireturn hC hZ dX11_fan_35 (by decide) (by decide) ?_
        have hze : fanZ z kd v a b w = z := by
          unfold fanZ
          (repeat (first | rw [if_pos (by omega)] | rw [if_neg (by omega)]))
          all_goals (first | rfl | omega | assumption)
        rw [hze]
        refine ⟨congrArg (fun z => some (Value.int (iI z))) ?_, hz, hw, Gx.rf _ _ _ _, fun p hp => Or.inl hp⟩
        unfold fanA
        (repeat (first | rw [if_pos (by omega)] | rw [if_neg (by omega)]))
        all_goals (first | rfl | omega | assumption)
      · refine x_iload_n (pc := 16) hC dX11_fan_16 rfl ?_
        refine x_bipush (pc := 17) hC dX11_fan_17 (by decide +kernel) ?_
        refine x_icmp_gt (tgt := 33) (pc := 19) hC (by omega) (by omega) dX11_fan_19 (by decide) (fun c19 => ?_) (fun c19 => ?_)
        · refine x_bipush (pc := 33) hC dX11_fan_33 (by decide +kernel) ?_
          refine x_ireturn hC hZ dX11_fan_35 (by decide) (by decide) ?_
          have hze : fanZ z kd v a b w = z := by
            unfold fanZ
            (repeat (first | rw [if_pos (by omega)] | rw [if_neg (by omega)]))
            all_goals (first | rfl | omega | assumption)
          rw [hze]
          refine ⟨congrArg (fun z => some (Value.int (iI z))) ?_, hz, hw, Gx.rf _ _ _ _, fun p hp => Or.inl hp⟩
          unfold fanA
          (repeat (first | rw [if_pos (by omega)] | rw [if_neg (by omega)]))
          all_goals (first | rfl | omega | assumption)
        · refine x_iload_n (pc := 22) hC dX11_fan_22 rfl ?_
          refine x_iload (pc := 23) hC dX11_fan_23 rfl ?_
          refine x_iload (pc := 25) hC dX11_fan_25 rfl ?_
          refine x_callS1 (As := [_, _, _]) (Bs := [_, _, _]) (pc := 27) hC (c_isSetting E (by omega) (by omega) (by omega)) wX11_66 pX11_isSetting rfl rfl (by exact Nat.le_of_ble_eq_true rfl) hR (by decide) (by decide) (by decide) rfl dX11_fan_27 ?_
          refine x_ifB_ne (tgt := 36) (pc := 30) hC  dX11_fan_30 (by decide) (fun c30 => ?_) (fun c30 => ?_)
          · refine x_aload_n (pc := 36) hC dX11_fan_36 rfl ?_
            refine x_getr (K := 0) (pc := 37) hC fX11_12_11 (by assumption) dX11_fan_37 rfl rfl (by assumption) ?_
            refine x_geti (K := 1) (pc := 40) hC fX11_70_1 (by assumption) dX11_fan_40 rfl rfl ?_
            rw [hz1]
            refine x_iconst (pc := 43) hC dX11_fan_43 ?_
            refine x_icmp_lt (tgt := 50) (pc := 44) hC (by omega) (by omega) dX11_fan_44 (by decide) (fun c44 => ?_) (fun c44 => ?_)
            · refine x_aload_n (pc := 50) hC dX11_fan_50 rfl ?_
              refine x_getr (K := 0) (pc := 51) hC fX11_12_11 (by assumption) dX11_fan_51 rfl rfl (by assumption) ?_
              refine x_getr (K := 0) (pc := 54) hC fX11_73_1 (by assumption) dX11_fan_54 rfl rfl (by assumption) ?_
              refine x_aload_n (pc := 57) hC dX11_fan_57 rfl ?_
              refine x_getr (K := 0) (pc := 58) hC fX11_12_11 (by assumption) dX11_fan_58 rfl rfl (by assumption) ?_
              refine x_geti (K := 1) (pc := 61) hC fX11_70_1 (by assumption) dX11_fan_61 rfl rfl ?_
              rw [hz1]
              refine x_iload_n (pc := 64) hC dX11_fan_64 rfl ?_
              refine x_aload_n (pc := 65) hC dX11_fan_65 rfl ?_
              refine x_getr (K := 0) (pc := 66) hC fX11_12_11 (by assumption) dX11_fan_66 rfl rfl (by assumption) ?_
              refine x_geti (K := 1) (pc := 69) hC fX11_70_1 (by assumption) dX11_fan_69 rfl rfl ?_
              rw [hz1]
              refine x_iload_n (pc := 72) hC dX11_fan_72 rfl ?_
              refine x_iload_n (pc := 73) hC dX11_fan_73 rfl ?_
              refine x_iload (pc := 74) hC dX11_fan_74 rfl ?_
              refine x_iload (pc := 76) hC dX11_fan_76 rfl ?_
              refine x_callS (As := [_, _, _, _, _, _]) (Bs := [_, _, _, _, _, _]) (pc := 78) hC (c_newFan E (by omega)) wX11_77 pX11_newFan rfl rfl (by exact Nat.le_of_ble_eq_true rfl) hR (by decide) (by decide) (by decide) rfl dX11_fan_78 (fun r78 σ78 ρ78 ks78 q78 => ?_)
              obtain ⟨rfl, n1, n2, n3, n4⟩ := q78
              have hk78 : ∀ p, p < ks.length → ks78[p]? = ks[p]? := fun p hp => by rw [n2, ap_at hp]
              have hkd : 0 ≤ kd ∧ kd ≤ 6 := by omega
              obtain ⟨w1, w2⟩ := nk_at ks hkd
              rw [← n2] at w1 w2
              have kb0 : ks78[0]? = some (0, 11) := (hk78 0 (by omega)).trans w0
              have kb1 : ks78[1]? = some (0, 1) := (hk78 1 (by omega)).trans k1
              have kb2 : ks78[2]? = some (3, 4) := (hk78 2 (by omega)).trans k2
              have hs78 : σ78 1 = σ 1 := (n1 1 (by omega)).1
              have rb0 : wq ρ78 2 (z 13) (some ks.length) 0 0 = some 1 := by rw [wq_p _ (by decide), (n1 0 (by omega)).2]; exact wr0
              have hsb : kci kd = 0 ∨ kci kd ∈ xSub := kci_sub hkd
              refine x_aast (pc := 81) hC (by assumption) (by omega) (by assumption) (x_sub hC (by exact hsb)) dX11_fan_81 ?_
              refine x_aload_n (pc := 82) hC dX11_fan_82 rfl ?_
              refine x_getr (K := 0) (pc := 83) hC fX11_12_11 (by assumption) dX11_fan_83 rfl rfl (by assumption) ?_
              refine x_dup (pc := 86) hC dX11_fan_86 rfl ?_
              refine x_geti (K := 1) (pc := 87) hC fX11_70_1 (by assumption) dX11_fan_87 rfl rfl ?_
              rw [hs78, hz1]
              refine x_iconst (pc := 90) hC dX11_fan_90 ?_
              refine x_iadd (pc := 91) hC dX11_fan_91 ?_
              refine x_puti (K := 1) (pc := 92) hC rfl fX11_70_1 rfl (by assumption) dX11_fan_92 rfl ?_
              refine x_aload_n (pc := 95) hC dX11_fan_95 rfl ?_
              refine x_getr (K := 0) (pc := 96) hC fX11_12_11 (by assumption) dX11_fan_96 rfl rfl (by assumption) ?_
              refine x_geti (K := 1) (pc := 99) hC fX11_70_1 (by assumption) dX11_fan_99 rfl rfl ?_
              rw [wr_eq]
              refine x_iconst (pc := 102) hC dX11_fan_102 ?_
              refine x_isub (pc := 103) hC dX11_fan_103 ?_
              refine x_ireturn hC hZ dX11_fan_104 (by decide) (by decide) ?_
              obtain ⟨z1, hz1⟩ : ∃ z1, z1 = fanZ z kd v a b w := ⟨_, rfl⟩
              have hz2 : z1 = up (row0F (y0F z kd v a b w) (z 13) 4) 13 (z 13 + 1) := by
                rw [hz1]; unfold fanZ
                rw [if_neg (fun h => h hkd), if_neg (fun h => h ⟨⟨by omega, by omega⟩, c30⟩), if_neg (by omega)]
              have e13 : z1 13 = z 13 + 1 := by rw [hz2, up_eq]
              have hlow : ∀ j, j ≠ 13 → j < 46 → z1 j = y0F z kd v a b w j := fun j h1 h2 => by rw [hz2, up_ne _ h1, row0F_lo _ _ (by omega) h2]
              have he : ∀ j, j ≠ 13 → j ≠ 22 + z 13 → j ≠ 26 + z 13 → j ≠ 30 + z 13 → j ≠ 34 + z 13 → j ≠ 38 + z 13 → j ≠ 42 + z 13 → (j < 46 + 4 * z 13 ∨ 46 + 4 * z 13 + 4 ≤ j) → z1 j = z j := fun j h1 h2 h3 h4 h5 h6 h7 h8 => by
                rw [hz2, up_ne _ h1, row0F_o _ _ 4 h8]
                unfold y0F
                rw [up_ne _ h7, up_ne _ h6, up_ne _ h5, up_ne _ h4, up_ne _ h3, up_ne _ h2]
              have v22 : z1 (22 + z 13) = kd := by rw [hlow _ (by omega) (by omega)]; unfold y0F; simp (disch := omega) only [up_eq, up_ne]
              have hfa : FanAt (wr σ78 1 1 (z 13 + 1)) (wq ρ78 2 (z 13) (some ks.length)) ks78 ks.length (z 13) z1 := by
                refine ⟨by rw [v22]; exact w1, ?_, fun h6 => ?_⟩
                · unfold FZ
                  rw [wr_of _ (by omega), v22, hlow _ (by omega) (by omega), hlow _ (by omega) (by omega), hlow _ (by omega) (by omega), hlow _ (by omega) (by omega), hlow _ (by omega) (by omega)]
                  obtain ⟨b0, b1, b2, b3, b4, b5, b6⟩ := n3
                  refine ⟨b0, b1, ?_, ?_, ?_, ?_, ?_⟩ <;> unfold y0F <;> simp (disch := omega) only [up_eq, up_ne] <;> assumption
                · rw [v22] at h6
                  refine ⟨w2 h6, by rw [wq_p _ (by omega)]; exact (n4 h6).1, fun k k0 k1 => ?_⟩
                  rw [wr_of _ (by omega), (n4 h6).2, hz2, up_ne _ (by omega), row0F_i _ _ k k0 4 (by omega)]
              have hρ1 : ∀ p, p < ks.length → p ≠ 2 → wq ρ78 2 (z 13) (some ks.length) p = ρ p := fun p h1 h2 => by
                funext j; rw [wq_p _ h2, (n1 p h1).2]
              have hρ2 : ∀ j, j ≠ z 13 → wq ρ78 2 (z 13) (some ks.length) 2 j = ρ 2 j := fun j h1 => by rw [wq_k _ _ _ h1, (n1 2 (by omega)).2]
              have hσ1 : ∀ p, p < ks.length → p ≠ 1 → wr σ78 1 1 (z 13 + 1) p = σ p := fun p h1 h2 => by rw [wr_of _ h2, (n1 p h1).1]
              rw [← hz1]
              refine ⟨congrArg (fun z => some (Value.int (iI z))) ?_, ?_, ?_, ⟨⟨hk78, by rw [n2, List.length_append]; omega⟩, fun p h1 h2 _ _ => ⟨hσ1 p h1 (by omega), hρ1 p h1 (by omega)⟩⟩, ?_⟩
              · unfold fanA
                rw [if_neg (fun h => h hkd), if_neg (fun h => h ⟨⟨by omega, by omega⟩, c30⟩), if_neg (by omega)]
                omega
              · exact hz.fanNew hl ⟨h13.1, by omega⟩ h14.2 hpl.2.2.1.1.1 hσ1 (fun j hj => by rw [wr_k _ _ _ hj, hs78]) (wr_eq _ _ _ _) hρ1 hρ2 (wq_eq _ _ _ _) hk78 hfa e13 he
              · exact hw.mem hl hk78 (fun p j p1 p2 _ _ _ => by rw [hρ1 p (by omega) p2])
              · rintro p ⟨f, y, ⟨f0, f1⟩, h1, h2⟩
                by_cases hf : f = z 13
                · rw [hf, wq_eq] at h1
                  cases h1
                  exact Or.inr (by omega)
                · rw [hρ2 f hf] at h1
                  rw [he _ (by omega) (by omega) (by omega) (by omega) (by omega) (by omega) (by omega) (by omega)] at h2
                  exact Or.inl ⟨f, y, ⟨f0, by omega⟩, h1, h2⟩
            · refine x_bipush (pc := 47) hC dX11_fan_47 (by decide +kernel) ?_
              refine x_ireturn hC hZ dX11_fan_49 (by decide) (by decide) ?_
              have hze : fanZ z kd v a b w = z := by
                unfold fanZ
                (repeat (first | rw [if_pos (by omega)] | rw [if_neg (by omega)]))
                all_goals (first | rfl | omega | assumption)
              rw [hze]
              refine ⟨congrArg (fun z => some (Value.int (iI z))) ?_, hz, hw, Gx.rf _ _ _ _, fun p hp => Or.inl hp⟩
              unfold fanA
              (repeat (first | rw [if_pos (by omega)] | rw [if_neg (by omega)]))
              all_goals (first | rfl | omega | assumption)
          · refine x_bipush (pc := 33) hC dX11_fan_33 (by decide +kernel) ?_
            refine x_ireturn hC hZ dX11_fan_35 (by decide) (by decide) ?_
            have hze : fanZ z kd v a b w = z := by
              unfold fanZ
              (repeat (first | rw [if_pos (by omega)] | rw [if_neg (by omega)]))
              all_goals (first | rfl | omega | assumption)
            rw [hze]
            refine ⟨congrArg (fun z => some (Value.int (iI z))) ?_, hz, hw, Gx.rf _ _ _ _, fun p hp => Or.inl hp⟩
            unfold fanA
            (repeat (first | rw [if_pos (by omega)] | rw [if_neg (by omega)]))
            all_goals (first | rfl | omega | assumption)
    · refine x_iconst (pc := 10) hC dX11_fan_10 ?_
      refine x_ireturn hC hZ dX11_fan_11 (by decide) (by decide) ?_
      have hze : fanZ z kd v a b w = z := by
        unfold fanZ
        (repeat (first | rw [if_pos (by omega)] | rw [if_neg (by omega)]))
        all_goals (first | rfl | omega | assumption)
      rw [hze]
      refine ⟨congrArg (fun z => some (Value.int (iI z))) ?_, hz, hw, Gx.rf _ _ _ _, fun p hp => Or.inl hp⟩
      unfold fanA
      (repeat (first | rw [if_pos (by omega)] | rw [if_neg (by omega)]))
      all_goals (first | rfl | omega | assumption)
