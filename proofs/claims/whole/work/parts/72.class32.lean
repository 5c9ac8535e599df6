/-! rows told by hand; seconds go -/
set_option maxHeartbeats 4000000 in
set_option maxRecDepth 100000 in
theorem c_see (E : xE) {σ : xM} {ρ : xR} {ks : xKs} (hw : WK ks ρ) {z : zS} (hz : HZ σ ρ ks 1 z) (hpl : PlOk z) (hcn : Cn z) {y n h : Int} (hy0 : rg y) (hn0 : rg n) (hh0 : rg h) : Sp E yX11_see kX11_see 1 0 0 [.ref 0, .int (iI y), .int (iI n), .int (iI h)] σ ρ ks (fun r σ' ρ' ks' => r = some (.int (iI (seeA z y n h))) ∧ HZ σ' ρ ks 1 (seeZ z y n h) ∧ Hx σ σ' ρ z ∧ ρ' = ρ ∧ ks' = ks) := by
  obtain ⟨w0, w43, ⟨wr0, wr1, wr3, wr4, wr5⟩, wh, wk, wn, wt⟩ := id hw
  have hk := wh.hk
  obtain ⟨k1, k2, r0, r2, hs3⟩ := id hk
  have hfs := hz.fans
  have hsz := hz.sit
  obtain ⟨⟨hz1, -⟩, -, ⟨rq, hrq, hrq2, hrm⟩, hz4, ⟨hz6, -⟩, hz7, hz8, ⟨hz10, -⟩, ⟨hz12, -⟩, ⟨hz14, -⟩⟩ := id hz
  have hfan := hpl.1
  have hsit := hpl.2.1
  have h13 := hpl.1.1
  have h14 := hpl.2.1.1
  have hz00 := hpl.2.2.2
  obtain ⟨n0, ⟨n1, n2, n3, n4, n5⟩, m0, m1, m2, m3, m4⟩ := id wn
  obtain ⟨h15, h16, h17, h18, h19⟩ := id hcn
  obtain ⟨-, -, -, -, ⟨-, hz6b⟩, -, -, ⟨-, hz10b⟩, ⟨-, hz12b⟩, ⟨-, hz14b⟩⟩ := id hz
  obtain ⟨k15, k16, k17, k18⟩ := wh.2.2.2.2.2.1
  obtain ⟨r5, r9, r11, r13⟩ := wh.2.2.2.2.2.2
  obtain ⟨h30, ⟨h31, h32, h33, h34, h35⟩, h36, h37, h38, h39, h3a⟩ := id hs3
  refine x_enter (own := RX11) (L := [_, _, _, _]) (by decide +kernel) rfl (by exact Nat.le_of_ble_eq_true rfl) rfl (fun p e R s m args below meth c Z hZ hC hR hin => ?_)
  refine x_iload_n (pc := 0) hC dX11_see_0 rfl ?_
  refine x_iconst (pc := 1) hC dX11_see_1 ?_
  refine x_icmp_ne (tgt := 15) (pc := 2) hC (by omega) (by omega) dX11_see_2 (by decide) (fun c2 => ?_) (fun c2 => ?_)
  · refine x_aload_n (pc := 15) hC dX11_see_15 rfl ?_
    refine x_getr (K := 0) (pc := 16) hC fX11_12_11 (by assumption) dX11_see_16 rfl rfl (by assumption) ?_
    refine x_getr (K := 2) (pc := 19) hC fX11_108_1 (by assumption) dX11_see_19 rfl rfl (by assumption) ?_
    refine x_iload_n (pc := 22) hC dX11_see_22 rfl ?_
    refine x_callV1 (As := [_]) (Bs := [_]) (pc := 23) hC (c_has E hs3 hsz hsit (by omega)) wX11_139_5 pX5_has (by assumption) rfl rfl (by exact Nat.le_of_ble_eq_true rfl) hR (by decide) (by decide) (by decide) rfl dX11_see_23 ?_
    refine x_ifB_ne (tgt := 31) (pc := 26) hC  dX11_see_26 (by decide) (fun c26 => ?_) (fun c26 => ?_)
    · refine x_iload_n (pc := 31) hC dX11_see_31 rfl ?_
      refine x_iconst (pc := 32) hC dX11_see_32 ?_
      refine x_bipush (pc := 33) hC dX11_see_33 (by decide +kernel) ?_
      refine x_callS1 (As := [_, _, _]) (Bs := [_, _, _]) (pc := 35) hC (c_isIn E (by omega) (by omega) (by omega)) wX11_152 pX11_isIn rfl rfl (by exact Nat.le_of_ble_eq_true rfl) hR (by decide) (by decide) (by decide) rfl dX11_see_35 ?_
      refine x_ifB_eq (tgt := 48) (pc := 38) hC  dX11_see_38 (by decide) (fun c38 => ?_) (fun c38 => ?_)
      · refine x_bipush (pc := 48) hC dX11_see_48 (by decide +kernel) ?_
        refine x_ireturn hC hZ dX11_see_50 (by decide) (by decide) ?_
        refine ⟨congrArg (fun z => some (Value.int (iI z))) ?_, ?_, Hx.rf _ _ _, rfl, rfl⟩
        · unfold seeA
          (repeat (first | rw [if_pos (by omega)] | rw [if_neg (by omega)]))
          all_goals (first | rfl | omega | assumption)
        · unfold seeZ
          (repeat (first | rw [if_pos (by omega)] | rw [if_neg (by omega)]))
          exact hz
      · refine x_iload_n (pc := 41) hC dX11_see_41 rfl ?_
        refine x_callS1 (As := [_]) (Bs := [_]) (pc := 42) hC (c_isHeat E (by omega)) wX11_124 pX11_isHeat rfl rfl (by exact Nat.le_of_ble_eq_true rfl) hR (by decide) (by decide) (by decide) rfl dX11_see_42 ?_
        refine x_ifB_ne (tgt := 51) (pc := 45) hC  dX11_see_45 (by decide) (fun c45 => ?_) (fun c45 => ?_)
        · refine x_aload_n (pc := 51) hC dX11_see_51 rfl ?_
          refine x_getr (K := 0) (pc := 52) hC fX11_12_11 (by assumption) dX11_see_52 rfl rfl (by assumption) ?_
          refine x_geti (K := 10) (pc := 55) hC fX11_212_1 (by assumption) dX11_see_55 rfl rfl ?_
          rw [hz10]
          refine x_bipush (pc := 58) hC dX11_see_58 (by decide +kernel) ?_
          refine x_icmp_lt (tgt := 66) (pc := 60) hC (by omega) (by omega) dX11_see_60 (by decide) (fun c60 => ?_) (fun c60 => ?_)
          · refine x_aload_n (pc := 66) hC dX11_see_66 rfl ?_
            refine x_getr (K := 0) (pc := 67) hC fX11_12_11 (by assumption) dX11_see_67 rfl rfl (by assumption) ?_
            refine x_getr (K := 9) (pc := 70) hC fX11_215_1 (by assumption) dX11_see_70 rfl rfl (by assumption) ?_
            refine x_aload_n (pc := 73) hC dX11_see_73 rfl ?_
            refine x_getr (K := 0) (pc := 74) hC fX11_12_11 (by assumption) dX11_see_74 rfl rfl (by assumption) ?_
            refine x_geti (K := 10) (pc := 77) hC fX11_212_1 (by assumption) dX11_see_77 rfl rfl ?_
            rw [hz10]
            refine x_iload_n (pc := 80) hC dX11_see_80 rfl ?_
            refine x_iload_n (pc := 81) hC dX11_see_81 rfl ?_
            refine x_iload_n (pc := 82) hC dX11_see_82 rfl ?_
            refine x_callS0 (As := [_, _, _, _, _]) (Bs := [_, _, _, _, _]) (pc := 83) hC (c_putRow E (y := 16) (by assumption) (i := z 16) ⟨by omega, by omega⟩ (by decide)) wX11_218 pX11_putRow rfl rfl (by exact Nat.le_of_ble_eq_true rfl) hR (by decide) (by decide) (by decide) rfl dX11_see_83 ?_
            refine x_aload_n (pc := 86) hC dX11_see_86 rfl ?_
            refine x_getr (K := 0) (pc := 87) hC fX11_12_11 (by assumption) dX11_see_87 rfl rfl (by assumption) ?_
            refine x_dup (pc := 90) hC dX11_see_90 rfl ?_
            refine x_geti (K := 10) (pc := 91) hC fX11_212_1 (by assumption) dX11_see_91 rfl rfl ?_
            (try simp (disch := omega) only [wr_of, wr_p, wr_k, wr_eq, up_ne, up_eq])
            rw [hz10]
            refine x_iconst (pc := 94) hC dX11_see_94 ?_
            refine x_iadd (pc := 95) hC dX11_see_95 ?_
            refine x_puti (K := 10) (pc := 96) hC rfl fX11_212_1 rfl (by assumption) dX11_see_96 rfl ?_
            refine x_aload_n (pc := 99) hC dX11_see_99 rfl ?_
            refine x_getr (K := 0) (pc := 100) hC fX11_12_11 (by assumption) dX11_see_100 rfl rfl (by assumption) ?_
            refine x_geti (K := 10) (pc := 103) hC fX11_212_1 (by assumption) dX11_see_103 rfl rfl ?_
            rw [wr_eq]
            refine x_ireturn hC hZ dX11_see_106 (by decide) (by decide) ?_
            refine ⟨congrArg (fun z => some (Value.int (iI z))) ?_, ?_, fun p p1 p2 p3 => by simp (disch := omega) only [wr_of], rfl, rfl⟩
            · unfold seeA
              (repeat (first | rw [if_pos (by omega)] | rw [if_neg (by omega)]))
              all_goals (first | rfl | omega | assumption)
            · unfold seeZ
              (repeat (first | rw [if_pos (by omega)] | rw [if_neg (by omega)]))
              exact hz.upd h13.2 hpl.2.2.1.1.1 (fun p hp => by (try simp (disch := omega) only [wr_of, wr_p, wr_k, wr_eq, up_ne, up_eq])) (by (try simp (disch := omega) only [wr_of, wr_p, wr_k, wr_eq, up_ne, up_eq])) (by (try simp (disch := omega) only [wr_of, wr_p, wr_k, wr_eq, up_ne, up_eq])) (fun j j0 j1 => by (try simp (disch := omega) only [wr_of, wr_p, wr_k, wr_eq, up_ne, up_eq])) (fun j j0 => by (try simp (disch := omega) only [wr_of, wr_p, wr_k, wr_eq, up_ne, up_eq])) (by (try simp (disch := omega) only [wr_of, wr_p, wr_k, wr_eq, up_ne, up_eq]); exact hz1) ⟨by (try simp (disch := omega) only [wr_of, wr_p, wr_k, wr_eq, up_ne, up_eq]); exact hsz.1, fun j j0 j1 => by (try simp (disch := omega) only [wr_of, wr_p, wr_k, wr_eq, up_ne, up_eq] at j1); (try simp (disch := omega) only [wr_of, wr_p, wr_k, wr_eq, up_ne, up_eq]); exact hsz.2 j j0 j1⟩ (by (try simp (disch := omega) only [wr_of, wr_p, wr_k, wr_eq, up_ne, up_eq]); exact hz4) ⟨by (try simp (disch := omega) only [wr_of, wr_p, wr_k, wr_eq, up_ne, up_eq]); exact hz6, fun j j0 j1 => by (try simp (disch := omega) only [wr_of, wr_p, wr_k, wr_eq, up_ne, up_eq] at j1); (try simp (disch := omega) only [wr_of, wr_p, wr_k, wr_eq, up_ne, up_eq]); exact hz6b j j0 j1⟩ (by (try simp (disch := omega) only [wr_of, wr_p, wr_k, wr_eq, up_ne, up_eq]); exact hz7) (by (try simp (disch := omega) only [wr_of, wr_p, wr_k, wr_eq, up_ne, up_eq]); exact hz8) ⟨by (try simp (disch := omega) only [wr_of, wr_p, wr_k, wr_eq, up_ne, up_eq]), fun k k0 k1 => by
                (try simp (disch := omega) only [wr_of, wr_p, wr_k, wr_eq, up_ne, up_eq] at k1)
                by_cases hk : k = z 16
                · subst hk
                  simp (disch := omega) only [wr_of, wr_p, wr_k, wr_eq, up_ne, up_eq]
                  exact ⟨trivial, trivial, trivial⟩
                · have hold := hz10b k k0 (by omega)
                  simp (disch := omega) only [wr_of, wr_p, wr_k, up_ne]
                  exact hold⟩ ⟨by (try simp (disch := omega) only [wr_of, wr_p, wr_k, wr_eq, up_ne, up_eq]); exact hz12, fun k k0 k1 => by (try simp (disch := omega) only [wr_of, wr_p, wr_k, wr_eq, up_ne, up_eq] at k1); (try simp (disch := omega) only [wr_of, wr_p, wr_k, wr_eq, up_ne, up_eq]); exact hz12b k k0 k1⟩ ⟨by (try simp (disch := omega) only [wr_of, wr_p, wr_k, wr_eq, up_ne, up_eq]); exact hz14, fun k k0 k1 => by (try simp (disch := omega) only [wr_of, wr_p, wr_k, wr_eq, up_ne, up_eq] at k1); (try simp (disch := omega) only [wr_of, wr_p, wr_k, wr_eq, up_ne, up_eq]); exact hz14b k k0 k1⟩
          · refine x_bipush (pc := 63) hC dX11_see_63 (by decide +kernel) ?_
            refine x_ireturn hC hZ dX11_see_65 (by decide) (by decide) ?_
            refine ⟨congrArg (fun z => some (Value.int (iI z))) ?_, ?_, Hx.rf _ _ _, rfl, rfl⟩
            · unfold seeA
              (repeat (first | rw [if_pos (by omega)] | rw [if_neg (by omega)]))
              all_goals (first | rfl | omega | assumption)
            · unfold seeZ
              (repeat (first | rw [if_pos (by omega)] | rw [if_neg (by omega)]))
              exact hz
        · refine x_bipush (pc := 48) hC dX11_see_48 (by decide +kernel) ?_
          refine x_ireturn hC hZ dX11_see_50 (by decide) (by decide) ?_
          refine ⟨congrArg (fun z => some (Value.int (iI z))) ?_, ?_, Hx.rf _ _ _, rfl, rfl⟩
          · unfold seeA
            (repeat (first | rw [if_pos (by omega)] | rw [if_neg (by omega)]))
            all_goals (first | rfl | omega | assumption)
          · unfold seeZ
            (repeat (first | rw [if_pos (by omega)] | rw [if_neg (by omega)]))
            exact hz
    · refine x_iconst (pc := 29) hC dX11_see_29 ?_
      refine x_ireturn hC hZ dX11_see_30 (by decide) (by decide) ?_
      refine ⟨congrArg (fun z => some (Value.int (iI z))) ?_, ?_, Hx.rf _ _ _, rfl, rfl⟩
      · unfold seeA
        (repeat (first | rw [if_pos (by omega)] | rw [if_neg (by omega)]))
        all_goals (first | rfl | omega | assumption)
      · unfold seeZ
        (repeat (first | rw [if_pos (by omega)] | rw [if_neg (by omega)]))
        exact hz
  · refine x_aload_n (pc := 5) hC dX11_see_5 rfl ?_
    refine x_getr (K := 0) (pc := 6) hC fX11_12_11 (by assumption) dX11_see_6 rfl rfl (by assumption) ?_
    refine x_iconst (pc := 9) hC dX11_see_9 ?_
    refine x_puti (K := 10) (pc := 10) hC rfl fX11_212_1 rfl (by assumption) dX11_see_10 rfl ?_
    refine x_iconst (pc := 13) hC dX11_see_13 ?_
    refine x_ireturn hC hZ dX11_see_14 (by decide) (by decide) ?_
    refine ⟨congrArg (fun z => some (Value.int (iI z))) ?_, ?_, fun p p1 p2 p3 => by simp (disch := omega) only [wr_of], rfl, rfl⟩
    · unfold seeA
      (repeat (first | rw [if_pos (by omega)] | rw [if_neg (by omega)]))
      all_goals (first | rfl | omega | assumption)
    · unfold seeZ
      (repeat (first | rw [if_pos (by omega)] | rw [if_neg (by omega)]))
      exact hz.upd h13.2 hpl.2.2.1.1.1 (fun p hp => by (try simp (disch := omega) only [wr_of, wr_p, wr_k, wr_eq, up_ne, up_eq])) (by (try simp (disch := omega) only [wr_of, wr_p, wr_k, wr_eq, up_ne, up_eq])) (by (try simp (disch := omega) only [wr_of, wr_p, wr_k, wr_eq, up_ne, up_eq])) (fun j j0 j1 => by (try simp (disch := omega) only [wr_of, wr_p, wr_k, wr_eq, up_ne, up_eq])) (fun j j0 => by (try simp (disch := omega) only [wr_of, wr_p, wr_k, wr_eq, up_ne, up_eq])) (by (try simp (disch := omega) only [wr_of, wr_p, wr_k, wr_eq, up_ne, up_eq]); exact hz1) ⟨by (try simp (disch := omega) only [wr_of, wr_p, wr_k, wr_eq, up_ne, up_eq]); exact hsz.1, fun j j0 j1 => by (try simp (disch := omega) only [wr_of, wr_p, wr_k, wr_eq, up_ne, up_eq] at j1); (try simp (disch := omega) only [wr_of, wr_p, wr_k, wr_eq, up_ne, up_eq]); exact hsz.2 j j0 j1⟩ (by (try simp (disch := omega) only [wr_of, wr_p, wr_k, wr_eq, up_ne, up_eq]); exact hz4) ⟨by (try simp (disch := omega) only [wr_of, wr_p, wr_k, wr_eq, up_ne, up_eq]); exact hz6, fun j j0 j1 => by (try simp (disch := omega) only [wr_of, wr_p, wr_k, wr_eq, up_ne, up_eq] at j1); (try simp (disch := omega) only [wr_of, wr_p, wr_k, wr_eq, up_ne, up_eq]); exact hz6b j j0 j1⟩ (by (try simp (disch := omega) only [wr_of, wr_p, wr_k, wr_eq, up_ne, up_eq]); exact hz7) (by (try simp (disch := omega) only [wr_of, wr_p, wr_k, wr_eq, up_ne, up_eq]); exact hz8) ⟨by (try simp (disch := omega) only [wr_of, wr_p, wr_k, wr_eq, up_ne, up_eq]), fun k k0 k1 => by (try simp (disch := omega) only [wr_of, wr_p, wr_k, wr_eq, up_ne, up_eq] at k1); exact absurd k1 (by omega)⟩ ⟨by (try simp (disch := omega) only [wr_of, wr_p, wr_k, wr_eq, up_ne, up_eq]); exact hz12, fun k k0 k1 => by (try simp (disch := omega) only [wr_of, wr_p, wr_k, wr_eq, up_ne, up_eq] at k1); (try simp (disch := omega) only [wr_of, wr_p, wr_k, wr_eq, up_ne, up_eq]); exact hz12b k k0 k1⟩ ⟨by (try simp (disch := omega) only [wr_of, wr_p, wr_k, wr_eq, up_ne, up_eq]); exact hz14, fun k k0 k1 => by (try simp (disch := omega) only [wr_of, wr_p, wr_k, wr_eq, up_ne, up_eq] at k1); (try simp (disch := omega) only [wr_of, wr_p, wr_k, wr_eq, up_ne, up_eq]); exact hz14b k k0 k1⟩

set_option maxHeartbeats 4000000 in
set_option maxRecDepth 100000 in
theorem c_rule (E : xE) {σ : xM} {ρ : xR} {ks : xKs} (hw : WK ks ρ) {z : zS} (hz : HZ σ ρ ks 1 z) (hpl : PlOk z) (hcn : Cn z) {f x : Int} (hf0 : rg f) (hx0 : rg x) : Sp E yX11_rule kX11_rule 1 0 0 [.ref 0, .int (iI f), .int (iI x)] σ ρ ks (fun r σ' ρ' ks' => r = some (.int (iI (ruleA z f x))) ∧ HZ σ' ρ ks 1 (ruleZ z f x) ∧ Hx σ σ' ρ z ∧ ρ' = ρ ∧ ks' = ks) := by
  obtain ⟨w0, w43, ⟨wr0, wr1, wr3, wr4, wr5⟩, wh, wk, wn, wt⟩ := id hw
  have hk := wh.hk
  obtain ⟨k1, k2, r0, r2, hs3⟩ := id hk
  have hfs := hz.fans
  have hsz := hz.sit
  obtain ⟨⟨hz1, -⟩, -, ⟨rq, hrq, hrq2, hrm⟩, hz4, ⟨hz6, -⟩, hz7, hz8, ⟨hz10, -⟩, ⟨hz12, -⟩, ⟨hz14, -⟩⟩ := id hz
  have hfan := hpl.1
  have hsit := hpl.2.1
  have h13 := hpl.1.1
  have h14 := hpl.2.1.1
  have hz00 := hpl.2.2.2
  obtain ⟨n0, ⟨n1, n2, n3, n4, n5⟩, m0, m1, m2, m3, m4⟩ := id wn
  obtain ⟨h15, h16, h17, h18, h19⟩ := id hcn
  obtain ⟨-, -, -, -, ⟨-, hz6b⟩, -, -, ⟨-, hz10b⟩, ⟨-, hz12b⟩, ⟨-, hz14b⟩⟩ := id hz
  obtain ⟨k15, k16, k17, k18⟩ := wh.2.2.2.2.2.1
  obtain ⟨r5, r9, r11, r13⟩ := wh.2.2.2.2.2.2
  refine x_enter (own := RX11) (L := [_, _, _]) (by decide +kernel) rfl (by exact Nat.le_of_ble_eq_true rfl) rfl (fun p e R s m args below meth c Z hZ hC hR hin => ?_)
  by_cases hf : 0 ≤ f ∧ f ≤ z 13 - 1
  · obtain ⟨y, hy, hfa⟩ := hfs.2 f (by omega) (by omega)
    obtain ⟨hyk, hfz, htz⟩ := id hfa
    have hci := kci_fam (z (22 + f))
    obtain ⟨a0, a1, a2, a3, a4, a5, a6⟩ := id hfz
    have hfo := hfan.2 f (by omega) (by omega)
    obtain ⟨b1, b2, b3, b4, b5, b6⟩ := id hfo
    have hf4 : 0 ≤ f ∧ f < 4 := ⟨by omega, by omega⟩
    refine x_iload_n (pc := 0) hC dX11_rule_0 rfl ?_
    refine x_iconst (pc := 1) hC dX11_rule_1 ?_
    refine x_icmp_ne (tgt := 15) (pc := 2) hC (by omega) (by omega) dX11_rule_2 (by decide) (fun c2 => ?_) (fun c2 => ?_)
    · refine x_iload_n (pc := 15) hC dX11_rule_15 rfl ?_
      refine x_iconst (pc := 16) hC dX11_rule_16 ?_
      refine x_icmp_eq (tgt := 33) (pc := 17) hC (by omega) (by omega) dX11_rule_17 (by decide) (fun c17 => by (exfalso; omega)) (fun c17 => ?_)
      refine x_aload_n (pc := 20) hC dX11_rule_20 rfl ?_
      refine x_getr (K := 0) (pc := 21) hC fX11_12_11 (by assumption) dX11_rule_21 rfl rfl (by assumption) ?_
      refine x_iload_n (pc := 24) hC dX11_rule_24 rfl ?_
      refine x_callV1 (As := [_]) (Bs := [_]) (pc := 25) hC (c_fanOf E hk hfs hfan (f := f) ⟨by omega, by omega⟩ hy) wX11_81_1 pX1_fanOf (by assumption) rfl rfl (by exact Nat.le_of_ble_eq_true rfl) hR (by decide) (by decide) (by decide) rfl dX11_rule_25 ?_
      refine x_ifnonnull_r (tgt := 33) (pc := 28) hC dX11_rule_28 (by decide) ?_
      refine x_iload_n (pc := 33) hC dX11_rule_33 rfl ?_
      refine x_iconst (pc := 34) hC dX11_rule_34 ?_
      refine x_bipush (pc := 35) hC dX11_rule_35 (by decide +kernel) ?_
      refine x_callS1 (As := [_, _, _]) (Bs := [_, _, _]) (pc := 37) hC (c_isIn E (by omega) (by omega) (by omega)) wX11_152 pX11_isIn rfl rfl (by exact Nat.le_of_ble_eq_true rfl) hR (by decide) (by decide) (by decide) rfl dX11_rule_37 ?_
      refine x_ifB_ne (tgt := 46) (pc := 40) hC  dX11_rule_40 (by decide) (fun c40 => ?_) (fun c40 => ?_)
      · refine x_aload_n (pc := 46) hC dX11_rule_46 rfl ?_
        refine x_getr (K := 0) (pc := 47) hC fX11_12_11 (by assumption) dX11_rule_47 rfl rfl (by assumption) ?_
        refine x_geti (K := 12) (pc := 50) hC fX11_234_1 (by assumption) dX11_rule_50 rfl rfl ?_
        rw [hz12]
        refine x_iconst (pc := 53) hC dX11_rule_53 ?_
        refine x_icmp_lt (tgt := 60) (pc := 54) hC (by omega) (by omega) dX11_rule_54 (by decide) (fun c54 => ?_) (fun c54 => ?_)
        · refine x_aload_n (pc := 60) hC dX11_rule_60 rfl ?_
          refine x_getr (K := 0) (pc := 61) hC fX11_12_11 (by assumption) dX11_rule_61 rfl rfl (by assumption) ?_
          refine x_getr (K := 11) (pc := 64) hC fX11_237_1 (by assumption) dX11_rule_64 rfl rfl (by assumption) ?_
          refine x_aload_n (pc := 67) hC dX11_rule_67 rfl ?_
          refine x_getr (K := 0) (pc := 68) hC fX11_12_11 (by assumption) dX11_rule_68 rfl rfl (by assumption) ?_
          refine x_geti (K := 12) (pc := 71) hC fX11_234_1 (by assumption) dX11_rule_71 rfl rfl ?_
          rw [hz12]
          refine x_iload_n (pc := 74) hC dX11_rule_74 rfl ?_
          refine x_iload_n (pc := 75) hC dX11_rule_75 rfl ?_
          refine x_iconst (pc := 76) hC dX11_rule_76 ?_
          refine x_callS0 (As := [_, _, _, _, _]) (Bs := [_, _, _, _, _]) (pc := 77) hC (c_putRow E (y := 17) (by assumption) (i := z 17) ⟨by omega, by omega⟩ (by decide)) wX11_218 pX11_putRow rfl rfl (by exact Nat.le_of_ble_eq_true rfl) hR (by decide) (by decide) (by decide) rfl dX11_rule_77 ?_
          refine x_aload_n (pc := 80) hC dX11_rule_80 rfl ?_
          refine x_getr (K := 0) (pc := 81) hC fX11_12_11 (by assumption) dX11_rule_81 rfl rfl (by assumption) ?_
          refine x_dup (pc := 84) hC dX11_rule_84 rfl ?_
          refine x_geti (K := 12) (pc := 85) hC fX11_234_1 (by assumption) dX11_rule_85 rfl rfl ?_
          (try simp (disch := omega) only [wr_of, wr_p, wr_k, wr_eq, up_ne, up_eq])
          rw [hz12]
          refine x_iconst (pc := 88) hC dX11_rule_88 ?_
          refine x_iadd (pc := 89) hC dX11_rule_89 ?_
          refine x_puti (K := 12) (pc := 90) hC rfl fX11_234_1 rfl (by assumption) dX11_rule_90 rfl ?_
          refine x_aload_n (pc := 93) hC dX11_rule_93 rfl ?_
          refine x_getr (K := 0) (pc := 94) hC fX11_12_11 (by assumption) dX11_rule_94 rfl rfl (by assumption) ?_
          refine x_geti (K := 12) (pc := 97) hC fX11_234_1 (by assumption) dX11_rule_97 rfl rfl ?_
          rw [wr_eq]
          refine x_ireturn hC hZ dX11_rule_100 (by decide) (by decide) ?_
          refine ⟨congrArg (fun z => some (Value.int (iI z))) ?_, ?_, fun p p1 p2 p3 => by simp (disch := omega) only [wr_of], rfl, rfl⟩
          · unfold ruleA
            (repeat (first | rw [if_pos (by omega)] | rw [if_neg (by omega)]))
            all_goals (first | rfl | omega | assumption)
          · unfold ruleZ
            (repeat (first | rw [if_pos (by omega)] | rw [if_neg (by omega)]))
            exact hz.upd h13.2 hpl.2.2.1.1.1 (fun p hp => by (try simp (disch := omega) only [wr_of, wr_p, wr_k, wr_eq, up_ne, up_eq])) (by (try simp (disch := omega) only [wr_of, wr_p, wr_k, wr_eq, up_ne, up_eq])) (by (try simp (disch := omega) only [wr_of, wr_p, wr_k, wr_eq, up_ne, up_eq])) (fun j j0 j1 => by (try simp (disch := omega) only [wr_of, wr_p, wr_k, wr_eq, up_ne, up_eq])) (fun j j0 => by (try simp (disch := omega) only [wr_of, wr_p, wr_k, wr_eq, up_ne, up_eq])) (by (try simp (disch := omega) only [wr_of, wr_p, wr_k, wr_eq, up_ne, up_eq]); exact hz1) ⟨by (try simp (disch := omega) only [wr_of, wr_p, wr_k, wr_eq, up_ne, up_eq]); exact hsz.1, fun j j0 j1 => by (try simp (disch := omega) only [wr_of, wr_p, wr_k, wr_eq, up_ne, up_eq] at j1); (try simp (disch := omega) only [wr_of, wr_p, wr_k, wr_eq, up_ne, up_eq]); exact hsz.2 j j0 j1⟩ (by (try simp (disch := omega) only [wr_of, wr_p, wr_k, wr_eq, up_ne, up_eq]); exact hz4) ⟨by (try simp (disch := omega) only [wr_of, wr_p, wr_k, wr_eq, up_ne, up_eq]); exact hz6, fun j j0 j1 => by (try simp (disch := omega) only [wr_of, wr_p, wr_k, wr_eq, up_ne, up_eq] at j1); (try simp (disch := omega) only [wr_of, wr_p, wr_k, wr_eq, up_ne, up_eq]); exact hz6b j j0 j1⟩ (by (try simp (disch := omega) only [wr_of, wr_p, wr_k, wr_eq, up_ne, up_eq]); exact hz7) (by (try simp (disch := omega) only [wr_of, wr_p, wr_k, wr_eq, up_ne, up_eq]); exact hz8) ⟨by (try simp (disch := omega) only [wr_of, wr_p, wr_k, wr_eq, up_ne, up_eq]); exact hz10, fun k k0 k1 => by (try simp (disch := omega) only [wr_of, wr_p, wr_k, wr_eq, up_ne, up_eq] at k1); (try simp (disch := omega) only [wr_of, wr_p, wr_k, wr_eq, up_ne, up_eq]); exact hz10b k k0 k1⟩ ⟨by (try simp (disch := omega) only [wr_of, wr_p, wr_k, wr_eq, up_ne, up_eq]), fun k k0 k1 => by
              (try simp (disch := omega) only [wr_of, wr_p, wr_k, wr_eq, up_ne, up_eq] at k1)
              by_cases hk : k = z 17
              · subst hk
                simp (disch := omega) only [wr_of, wr_p, wr_k, wr_eq, up_ne, up_eq]
                exact ⟨trivial, trivial⟩
              · have hold := hz12b k k0 (by omega)
                simp (disch := omega) only [wr_of, wr_p, wr_k, up_ne]
                exact hold⟩ ⟨by (try simp (disch := omega) only [wr_of, wr_p, wr_k, wr_eq, up_ne, up_eq]); exact hz14, fun k k0 k1 => by (try simp (disch := omega) only [wr_of, wr_p, wr_k, wr_eq, up_ne, up_eq] at k1); (try simp (disch := omega) only [wr_of, wr_p, wr_k, wr_eq, up_ne, up_eq]); exact hz14b k k0 k1⟩
        · refine x_bipush (pc := 57) hC dX11_rule_57 (by decide +kernel) ?_
          refine x_ireturn hC hZ dX11_rule_59 (by decide) (by decide) ?_
          refine ⟨congrArg (fun z => some (Value.int (iI z))) ?_, ?_, Hx.rf _ _ _, rfl, rfl⟩
          · unfold ruleA
            (repeat (first | rw [if_pos (by omega)] | rw [if_neg (by omega)]))
            all_goals (first | rfl | omega | assumption)
          · unfold ruleZ
            (repeat (first | rw [if_pos (by omega)] | rw [if_neg (by omega)]))
            exact hz
      · refine x_bipush (pc := 43) hC dX11_rule_43 (by decide +kernel) ?_
        refine x_ireturn hC hZ dX11_rule_45 (by decide) (by decide) ?_
        refine ⟨congrArg (fun z => some (Value.int (iI z))) ?_, ?_, Hx.rf _ _ _, rfl, rfl⟩
        · unfold ruleA
          (repeat (first | rw [if_pos (by omega)] | rw [if_neg (by omega)]))
          all_goals (first | rfl | omega | assumption)
        · unfold ruleZ
          (repeat (first | rw [if_pos (by omega)] | rw [if_neg (by omega)]))
          exact hz
    · refine x_aload_n (pc := 5) hC dX11_rule_5 rfl ?_
      refine x_getr (K := 0) (pc := 6) hC fX11_12_11 (by assumption) dX11_rule_6 rfl rfl (by assumption) ?_
      refine x_iconst (pc := 9) hC dX11_rule_9 ?_
      refine x_puti (K := 12) (pc := 10) hC rfl fX11_234_1 rfl (by assumption) dX11_rule_10 rfl ?_
      refine x_iconst (pc := 13) hC dX11_rule_13 ?_
      refine x_ireturn hC hZ dX11_rule_14 (by decide) (by decide) ?_
      refine ⟨congrArg (fun z => some (Value.int (iI z))) ?_, ?_, fun p p1 p2 p3 => by simp (disch := omega) only [wr_of], rfl, rfl⟩
      · unfold ruleA
        (repeat (first | rw [if_pos (by omega)] | rw [if_neg (by omega)]))
        all_goals (first | rfl | omega | assumption)
      · unfold ruleZ
        (repeat (first | rw [if_pos (by omega)] | rw [if_neg (by omega)]))
        exact hz.upd h13.2 hpl.2.2.1.1.1 (fun p hp => by (try simp (disch := omega) only [wr_of, wr_p, wr_k, wr_eq, up_ne, up_eq])) (by (try simp (disch := omega) only [wr_of, wr_p, wr_k, wr_eq, up_ne, up_eq])) (by (try simp (disch := omega) only [wr_of, wr_p, wr_k, wr_eq, up_ne, up_eq])) (fun j j0 j1 => by (try simp (disch := omega) only [wr_of, wr_p, wr_k, wr_eq, up_ne, up_eq])) (fun j j0 => by (try simp (disch := omega) only [wr_of, wr_p, wr_k, wr_eq, up_ne, up_eq])) (by (try simp (disch := omega) only [wr_of, wr_p, wr_k, wr_eq, up_ne, up_eq]); exact hz1) ⟨by (try simp (disch := omega) only [wr_of, wr_p, wr_k, wr_eq, up_ne, up_eq]); exact hsz.1, fun j j0 j1 => by (try simp (disch := omega) only [wr_of, wr_p, wr_k, wr_eq, up_ne, up_eq] at j1); (try simp (disch := omega) only [wr_of, wr_p, wr_k, wr_eq, up_ne, up_eq]); exact hsz.2 j j0 j1⟩ (by (try simp (disch := omega) only [wr_of, wr_p, wr_k, wr_eq, up_ne, up_eq]); exact hz4) ⟨by (try simp (disch := omega) only [wr_of, wr_p, wr_k, wr_eq, up_ne, up_eq]); exact hz6, fun j j0 j1 => by (try simp (disch := omega) only [wr_of, wr_p, wr_k, wr_eq, up_ne, up_eq] at j1); (try simp (disch := omega) only [wr_of, wr_p, wr_k, wr_eq, up_ne, up_eq]); exact hz6b j j0 j1⟩ (by (try simp (disch := omega) only [wr_of, wr_p, wr_k, wr_eq, up_ne, up_eq]); exact hz7) (by (try simp (disch := omega) only [wr_of, wr_p, wr_k, wr_eq, up_ne, up_eq]); exact hz8) ⟨by (try simp (disch := omega) only [wr_of, wr_p, wr_k, wr_eq, up_ne, up_eq]); exact hz10, fun k k0 k1 => by (try simp (disch := omega) only [wr_of, wr_p, wr_k, wr_eq, up_ne, up_eq] at k1); (try simp (disch := omega) only [wr_of, wr_p, wr_k, wr_eq, up_ne, up_eq]); exact hz10b k k0 k1⟩ ⟨by (try simp (disch := omega) only [wr_of, wr_p, wr_k, wr_eq, up_ne, up_eq]), fun k k0 k1 => by (try simp (disch := omega) only [wr_of, wr_p, wr_k, wr_eq, up_ne, up_eq] at k1); exact absurd k1 (by omega)⟩ ⟨by (try simp (disch := omega) only [wr_of, wr_p, wr_k, wr_eq, up_ne, up_eq]); exact hz14, fun k k0 k1 => by (try simp (disch := omega) only [wr_of, wr_p, wr_k, wr_eq, up_ne, up_eq] at k1); (try simp (disch := omega) only [wr_of, wr_p, wr_k, wr_eq, up_ne, up_eq]); exact hz14b k k0 k1⟩
  · refine x_iload_n (pc := 0) hC dX11_rule_0 rfl ?_
    refine x_iconst (pc := 1) hC dX11_rule_1 ?_
    refine x_icmp_ne (tgt := 15) (pc := 2) hC (by omega) (by omega) dX11_rule_2 (by decide) (fun c2 => ?_) (fun c2 => ?_)
    · refine x_iload_n (pc := 15) hC dX11_rule_15 rfl ?_
      refine x_iconst (pc := 16) hC dX11_rule_16 ?_
      refine x_icmp_eq (tgt := 33) (pc := 17) hC (by omega) (by omega) dX11_rule_17 (by decide) (fun c17 => ?_) (fun c17 => ?_)
      · refine x_iload_n (pc := 33) hC dX11_rule_33 rfl ?_
        refine x_iconst (pc := 34) hC dX11_rule_34 ?_
        refine x_bipush (pc := 35) hC dX11_rule_35 (by decide +kernel) ?_
        refine x_callS1 (As := [_, _, _]) (Bs := [_, _, _]) (pc := 37) hC (c_isIn E (by omega) (by omega) (by omega)) wX11_152 pX11_isIn rfl rfl (by exact Nat.le_of_ble_eq_true rfl) hR (by decide) (by decide) (by decide) rfl dX11_rule_37 ?_
        refine x_ifB_ne (tgt := 46) (pc := 40) hC  dX11_rule_40 (by decide) (fun c40 => ?_) (fun c40 => ?_)
        · refine x_aload_n (pc := 46) hC dX11_rule_46 rfl ?_
          refine x_getr (K := 0) (pc := 47) hC fX11_12_11 (by assumption) dX11_rule_47 rfl rfl (by assumption) ?_
          refine x_geti (K := 12) (pc := 50) hC fX11_234_1 (by assumption) dX11_rule_50 rfl rfl ?_
          rw [hz12]
          refine x_iconst (pc := 53) hC dX11_rule_53 ?_
          refine x_icmp_lt (tgt := 60) (pc := 54) hC (by omega) (by omega) dX11_rule_54 (by decide) (fun c54 => ?_) (fun c54 => ?_)
          · refine x_aload_n (pc := 60) hC dX11_rule_60 rfl ?_
            refine x_getr (K := 0) (pc := 61) hC fX11_12_11 (by assumption) dX11_rule_61 rfl rfl (by assumption) ?_
            refine x_getr (K := 11) (pc := 64) hC fX11_237_1 (by assumption) dX11_rule_64 rfl rfl (by assumption) ?_
            refine x_aload_n (pc := 67) hC dX11_rule_67 rfl ?_
            refine x_getr (K := 0) (pc := 68) hC fX11_12_11 (by assumption) dX11_rule_68 rfl rfl (by assumption) ?_
            refine x_geti (K := 12) (pc := 71) hC fX11_234_1 (by assumption) dX11_rule_71 rfl rfl ?_
            rw [hz12]
            refine x_iload_n (pc := 74) hC dX11_rule_74 rfl ?_
            refine x_iload_n (pc := 75) hC dX11_rule_75 rfl ?_
            refine x_iconst (pc := 76) hC dX11_rule_76 ?_
            refine x_callS0 (As := [_, _, _, _, _]) (Bs := [_, _, _, _, _]) (pc := 77) hC (c_putRow E (y := 17) (by assumption) (i := z 17) ⟨by omega, by omega⟩ (by decide)) wX11_218 pX11_putRow rfl rfl (by exact Nat.le_of_ble_eq_true rfl) hR (by decide) (by decide) (by decide) rfl dX11_rule_77 ?_
            refine x_aload_n (pc := 80) hC dX11_rule_80 rfl ?_
            refine x_getr (K := 0) (pc := 81) hC fX11_12_11 (by assumption) dX11_rule_81 rfl rfl (by assumption) ?_
            refine x_dup (pc := 84) hC dX11_rule_84 rfl ?_
            refine x_geti (K := 12) (pc := 85) hC fX11_234_1 (by assumption) dX11_rule_85 rfl rfl ?_
            (try simp (disch := omega) only [wr_of, wr_p, wr_k, wr_eq, up_ne, up_eq])
            rw [hz12]
            refine x_iconst (pc := 88) hC dX11_rule_88 ?_
            refine x_iadd (pc := 89) hC dX11_rule_89 ?_
            refine x_puti (K := 12) (pc := 90) hC rfl fX11_234_1 rfl (by assumption) dX11_rule_90 rfl ?_
            refine x_aload_n (pc := 93) hC dX11_rule_93 rfl ?_
            refine x_getr (K := 0) (pc := 94) hC fX11_12_11 (by assumption) dX11_rule_94 rfl rfl (by assumption) ?_
            refine x_geti (K := 12) (pc := 97) hC fX11_234_1 (by assumption) dX11_rule_97 rfl rfl ?_
            rw [wr_eq]
            refine x_ireturn hC hZ dX11_rule_100 (by decide) (by decide) ?_
            refine ⟨congrArg (fun z => some (Value.int (iI z))) ?_, ?_, fun p p1 p2 p3 => by simp (disch := omega) only [wr_of], rfl, rfl⟩
            · unfold ruleA
              (repeat (first | rw [if_pos (by omega)] | rw [if_neg (by omega)]))
              all_goals (first | rfl | omega | assumption)
            · unfold ruleZ
              (repeat (first | rw [if_pos (by omega)] | rw [if_neg (by omega)]))
              exact hz.upd h13.2 hpl.2.2.1.1.1 (fun p hp => by (try simp (disch := omega) only [wr_of, wr_p, wr_k, wr_eq, up_ne, up_eq])) (by (try simp (disch := omega) only [wr_of, wr_p, wr_k, wr_eq, up_ne, up_eq])) (by (try simp (disch := omega) only [wr_of, wr_p, wr_k, wr_eq, up_ne, up_eq])) (fun j j0 j1 => by (try simp (disch := omega) only [wr_of, wr_p, wr_k, wr_eq, up_ne, up_eq])) (fun j j0 => by (try simp (disch := omega) only [wr_of, wr_p, wr_k, wr_eq, up_ne, up_eq])) (by (try simp (disch := omega) only [wr_of, wr_p, wr_k, wr_eq, up_ne, up_eq]); exact hz1) ⟨by (try simp (disch := omega) only [wr_of, wr_p, wr_k, wr_eq, up_ne, up_eq]); exact hsz.1, fun j j0 j1 => by (try simp (disch := omega) only [wr_of, wr_p, wr_k, wr_eq, up_ne, up_eq] at j1); (try simp (disch := omega) only [wr_of, wr_p, wr_k, wr_eq, up_ne, up_eq]); exact hsz.2 j j0 j1⟩ (by (try simp (disch := omega) only [wr_of, wr_p, wr_k, wr_eq, up_ne, up_eq]); exact hz4) ⟨by (try simp (disch := omega) only [wr_of, wr_p, wr_k, wr_eq, up_ne, up_eq]); exact hz6, fun j j0 j1 => by (try simp (disch := omega) only [wr_of, wr_p, wr_k, wr_eq, up_ne, up_eq] at j1); (try simp (disch := omega) only [wr_of, wr_p, wr_k, wr_eq, up_ne, up_eq]); exact hz6b j j0 j1⟩ (by (try simp (disch := omega) only [wr_of, wr_p, wr_k, wr_eq, up_ne, up_eq]); exact hz7) (by (try simp (disch := omega) only [wr_of, wr_p, wr_k, wr_eq, up_ne, up_eq]); exact hz8) ⟨by (try simp (disch := omega) only [wr_of, wr_p, wr_k, wr_eq, up_ne, up_eq]); exact hz10, fun k k0 k1 => by (try simp (disch := omega) only [wr_of, wr_p, wr_k, wr_eq, up_ne, up_eq] at k1); (try simp (disch := omega) only [wr_of, wr_p, wr_k, wr_eq, up_ne, up_eq]); exact hz10b k k0 k1⟩ ⟨by (try simp (disch := omega) only [wr_of, wr_p, wr_k, wr_eq, up_ne, up_eq]), fun k k0 k1 => by
                (try simp (disch := omega) only [wr_of, wr_p, wr_k, wr_eq, up_ne, up_eq] at k1)
                by_cases hk : k = z 17
                · subst hk
                  simp (disch := omega) only [wr_of, wr_p, wr_k, wr_eq, up_ne, up_eq]
                  exact ⟨trivial, trivial⟩
                · have hold := hz12b k k0 (by omega)
                  simp (disch := omega) only [wr_of, wr_p, wr_k, up_ne]
                  exact hold⟩ ⟨by (try simp (disch := omega) only [wr_of, wr_p, wr_k, wr_eq, up_ne, up_eq]); exact hz14, fun k k0 k1 => by (try simp (disch := omega) only [wr_of, wr_p, wr_k, wr_eq, up_ne, up_eq] at k1); (try simp (disch := omega) only [wr_of, wr_p, wr_k, wr_eq, up_ne, up_eq]); exact hz14b k k0 k1⟩
          · refine x_bipush (pc := 57) hC dX11_rule_57 (by decide +kernel) ?_
            refine x_ireturn hC hZ dX11_rule_59 (by decide) (by decide) ?_
            refine ⟨congrArg (fun z => some (Value.int (iI z))) ?_, ?_, Hx.rf _ _ _, rfl, rfl⟩
            · unfold ruleA
              (repeat (first | rw [if_pos (by omega)] | rw [if_neg (by omega)]))
              all_goals (first | rfl | omega | assumption)
            · unfold ruleZ
              (repeat (first | rw [if_pos (by omega)] | rw [if_neg (by omega)]))
              exact hz
        · refine x_bipush (pc := 43) hC dX11_rule_43 (by decide +kernel) ?_
          refine x_ireturn hC hZ dX11_rule_45 (by decide) (by decide) ?_
          refine ⟨congrArg (fun z => some (Value.int (iI z))) ?_, ?_, Hx.rf _ _ _, rfl, rfl⟩
          · unfold ruleA
            (repeat (first | rw [if_pos (by omega)] | rw [if_neg (by omega)]))
            all_goals (first | rfl | omega | assumption)
          · unfold ruleZ
            (repeat (first | rw [if_pos (by omega)] | rw [if_neg (by omega)]))
            exact hz
      · refine x_aload_n (pc := 20) hC dX11_rule_20 rfl ?_
        refine x_getr (K := 0) (pc := 21) hC fX11_12_11 (by assumption) dX11_rule_21 rfl rfl (by assumption) ?_
        refine x_iload_n (pc := 24) hC dX11_rule_24 rfl ?_
        refine x_callV1 (As := [_]) (Bs := [_]) (pc := 25) hC (c_fanOfN E hk hfs hfan (f := f) hf0 hf) wX11_81_1 pX1_fanOf (by assumption) rfl rfl (by exact Nat.le_of_ble_eq_true rfl) hR (by decide) (by decide) (by decide) rfl dX11_rule_25 ?_
        refine x_ifnonnull_n (pc := 28) hC dX11_rule_28 ?_
        refine x_iconst (pc := 31) hC dX11_rule_31 ?_
        refine x_ireturn hC hZ dX11_rule_32 (by decide) (by decide) ?_
        refine ⟨congrArg (fun z => some (Value.int (iI z))) ?_, ?_, Hx.rf _ _ _, rfl, rfl⟩
        · unfold ruleA
          (repeat (first | rw [if_pos (by omega)] | rw [if_neg (by omega)]))
          all_goals (first | rfl | omega | assumption)
        · unfold ruleZ
          (repeat (first | rw [if_pos (by omega)] | rw [if_neg (by omega)]))
          exact hz
    · refine x_aload_n (pc := 5) hC dX11_rule_5 rfl ?_
      refine x_getr (K := 0) (pc := 6) hC fX11_12_11 (by assumption) dX11_rule_6 rfl rfl (by assumption) ?_
      refine x_iconst (pc := 9) hC dX11_rule_9 ?_
      refine x_puti (K := 12) (pc := 10) hC rfl fX11_234_1 rfl (by assumption) dX11_rule_10 rfl ?_
      refine x_iconst (pc := 13) hC dX11_rule_13 ?_
      refine x_ireturn hC hZ dX11_rule_14 (by decide) (by decide) ?_
      refine ⟨congrArg (fun z => some (Value.int (iI z))) ?_, ?_, fun p p1 p2 p3 => by simp (disch := omega) only [wr_of], rfl, rfl⟩
      · unfold ruleA
        (repeat (first | rw [if_pos (by omega)] | rw [if_neg (by omega)]))
        all_goals (first | rfl | omega | assumption)
      · unfold ruleZ
        (repeat (first | rw [if_pos (by omega)] | rw [if_neg (by omega)]))
        exact hz.upd h13.2 hpl.2.2.1.1.1 (fun p hp => by (try simp (disch := omega) only [wr_of, wr_p, wr_k, wr_eq, up_ne, up_eq])) (by (try simp (disch := omega) only [wr_of, wr_p, wr_k, wr_eq, up_ne, up_eq])) (by (try simp (disch := omega) only [wr_of, wr_p, wr_k, wr_eq, up_ne, up_eq])) (fun j j0 j1 => by (try simp (disch := omega) only [wr_of, wr_p, wr_k, wr_eq, up_ne, up_eq])) (fun j j0 => by (try simp (disch := omega) only [wr_of, wr_p, wr_k, wr_eq, up_ne, up_eq])) (by (try simp (disch := omega) only [wr_of, wr_p, wr_k, wr_eq, up_ne, up_eq]); exact hz1) ⟨by (try simp (disch := omega) only [wr_of, wr_p, wr_k, wr_eq, up_ne, up_eq]); exact hsz.1, fun j j0 j1 => by (try simp (disch := omega) only [wr_of, wr_p, wr_k, wr_eq, up_ne, up_eq] at j1); (try simp (disch := omega) only [wr_of, wr_p, wr_k, wr_eq, up_ne, up_eq]); exact hsz.2 j j0 j1⟩ (by (try simp (disch := omega) only [wr_of, wr_p, wr_k, wr_eq, up_ne, up_eq]); exact hz4) ⟨by (try simp (disch := omega) only [wr_of, wr_p, wr_k, wr_eq, up_ne, up_eq]); exact hz6, fun j j0 j1 => by (try simp (disch := omega) only [wr_of, wr_p, wr_k, wr_eq, up_ne, up_eq] at j1); (try simp (disch := omega) only [wr_of, wr_p, wr_k, wr_eq, up_ne, up_eq]); exact hz6b j j0 j1⟩ (by (try simp (disch := omega) only [wr_of, wr_p, wr_k, wr_eq, up_ne, up_eq]); exact hz7) (by (try simp (disch := omega) only [wr_of, wr_p, wr_k, wr_eq, up_ne, up_eq]); exact hz8) ⟨by (try simp (disch := omega) only [wr_of, wr_p, wr_k, wr_eq, up_ne, up_eq]); exact hz10, fun k k0 k1 => by (try simp (disch := omega) only [wr_of, wr_p, wr_k, wr_eq, up_ne, up_eq] at k1); (try simp (disch := omega) only [wr_of, wr_p, wr_k, wr_eq, up_ne, up_eq]); exact hz10b k k0 k1⟩ ⟨by (try simp (disch := omega) only [wr_of, wr_p, wr_k, wr_eq, up_ne, up_eq]), fun k k0 k1 => by (try simp (disch := omega) only [wr_of, wr_p, wr_k, wr_eq, up_ne, up_eq] at k1); exact absurd k1 (by omega)⟩ ⟨by (try simp (disch := omega) only [wr_of, wr_p, wr_k, wr_eq, up_ne, up_eq]); exact hz14, fun k k0 k1 => by (try simp (disch := omega) only [wr_of, wr_p, wr_k, wr_eq, up_ne, up_eq] at k1); (try simp (disch := omega) only [wr_of, wr_p, wr_k, wr_eq, up_ne, up_eq]); exact hz14b k k0 k1⟩

set_option maxHeartbeats 4000000 in
set_option maxRecDepth 100000 in
theorem c_book (E : xE) {σ : xM} {ρ : xR} {ks : xKs} (hw : WK ks ρ) {z : zS} (hz : HZ σ ρ ks 1 z) (hpl : PlOk z) (hcn : Cn z) {f x q : Int} (hf0 : rg f) (hx0 : rg x) (hq0 : rg q) : Sp E yX11_book kX11_book 1 0 0 [.ref 0, .int (iI f), .int (iI x), .int (iI q)] σ ρ ks (fun r σ' ρ' ks' => r = some (.int (iI (bookA z f x q))) ∧ HZ σ' ρ ks 1 (bookZ z f x q) ∧ Hx σ σ' ρ z ∧ ρ' = ρ ∧ ks' = ks) := by
  obtain ⟨w0, w43, ⟨wr0, wr1, wr3, wr4, wr5⟩, wh, wk, wn, wt⟩ := id hw
  have hk := wh.hk
  obtain ⟨k1, k2, r0, r2, hs3⟩ := id hk
  have hfs := hz.fans
  have hsz := hz.sit
  obtain ⟨⟨hz1, -⟩, -, ⟨rq, hrq, hrq2, hrm⟩, hz4, ⟨hz6, -⟩, hz7, hz8, ⟨hz10, -⟩, ⟨hz12, -⟩, ⟨hz14, -⟩⟩ := id hz
  have hfan := hpl.1
  have hsit := hpl.2.1
  have h13 := hpl.1.1
  have h14 := hpl.2.1.1
  have hz00 := hpl.2.2.2
  obtain ⟨n0, ⟨n1, n2, n3, n4, n5⟩, m0, m1, m2, m3, m4⟩ := id wn
  obtain ⟨h15, h16, h17, h18, h19⟩ := id hcn
  obtain ⟨-, -, -, -, ⟨-, hz6b⟩, -, -, ⟨-, hz10b⟩, ⟨-, hz12b⟩, ⟨-, hz14b⟩⟩ := id hz
  obtain ⟨k15, k16, k17, k18⟩ := wh.2.2.2.2.2.1
  obtain ⟨r5, r9, r11, r13⟩ := wh.2.2.2.2.2.2
  refine x_enter (own := RX11) (L := [_, _, _, _]) (by decide +kernel) rfl (by exact Nat.le_of_ble_eq_true rfl) rfl (fun p e R s m args below meth c Z hZ hC hR hin => ?_)
  by_cases hf : 0 ≤ f ∧ f ≤ z 13 - 1
  · obtain ⟨y, hy, hfa⟩ := hfs.2 f (by omega) (by omega)
    obtain ⟨hyk, hfz, htz⟩ := id hfa
    have hci := kci_fam (z (22 + f))
    obtain ⟨a0, a1, a2, a3, a4, a5, a6⟩ := id hfz
    have hfo := hfan.2 f (by omega) (by omega)
    obtain ⟨b1, b2, b3, b4, b5, b6⟩ := id hfo
    have hf4 : 0 ≤ f ∧ f < 4 := ⟨by omega, by omega⟩
    refine x_iload_n (pc := 0) hC dX11_book_0 rfl ?_
    refine x_iconst (pc := 1) hC dX11_book_1 ?_
    refine x_icmp_ne (tgt := 15) (pc := 2) hC (by omega) (by omega) dX11_book_2 (by decide) (fun c2 => ?_) (fun c2 => by (exfalso; omega))
    refine x_aload_n (pc := 15) hC dX11_book_15 rfl ?_
    refine x_getr (K := 0) (pc := 16) hC fX11_12_11 (by assumption) dX11_book_16 rfl rfl (by assumption) ?_
    refine x_iload_n (pc := 19) hC dX11_book_19 rfl ?_
    refine x_callV1 (As := [_]) (Bs := [_]) (pc := 20) hC (c_fanOf E hk hfs hfan (f := f) ⟨by omega, by omega⟩ hy) wX11_81_1 pX1_fanOf (by assumption) rfl rfl (by exact Nat.le_of_ble_eq_true rfl) hR (by decide) (by decide) (by decide) rfl dX11_book_20 ?_
    refine x_ifnull_r (pc := 23) hC dX11_book_23 ?_
    refine x_iload_n (pc := 26) hC dX11_book_26 rfl ?_
    refine x_callS1 (As := [_]) (Bs := [_]) (pc := 27) hC (c_isPlace E (by omega)) wX11_115 pX11_isPlace rfl rfl (by exact Nat.le_of_ble_eq_true rfl) hR (by decide) (by decide) (by decide) rfl dX11_book_27 ?_
    refine x_ifB_ne (tgt := 35) (pc := 30) hC  dX11_book_30 (by decide) (fun c30 => ?_) (fun c30 => ?_)
    · refine x_iload_n (pc := 35) hC dX11_book_35 rfl ?_
      refine x_iconst (pc := 36) hC dX11_book_36 ?_
      refine x_sipush (pc := 37) hC dX11_book_37 (by decide +kernel) ?_
      refine x_callS1 (As := [_, _, _]) (Bs := [_, _, _]) (pc := 40) hC (c_isIn E (by omega) (by omega) (by omega)) wX11_152 pX11_isIn rfl rfl (by exact Nat.le_of_ble_eq_true rfl) hR (by decide) (by decide) (by decide) rfl dX11_book_40 ?_
      refine x_ifB_ne (tgt := 49) (pc := 43) hC  dX11_book_43 (by decide) (fun c43 => ?_) (fun c43 => ?_)
      · refine x_aload_n (pc := 49) hC dX11_book_49 rfl ?_
        refine x_getr (K := 0) (pc := 50) hC fX11_12_11 (by assumption) dX11_book_50 rfl rfl (by assumption) ?_
        refine x_geti (K := 14) (pc := 53) hC fX11_244_1 (by assumption) dX11_book_53 rfl rfl ?_
        rw [hz14]
        refine x_bipush (pc := 56) hC dX11_book_56 (by decide +kernel) ?_
        refine x_icmp_lt (tgt := 64) (pc := 58) hC (by omega) (by omega) dX11_book_58 (by decide) (fun c58 => ?_) (fun c58 => ?_)
        · refine x_aload_n (pc := 64) hC dX11_book_64 rfl ?_
          refine x_getr (K := 0) (pc := 65) hC fX11_12_11 (by assumption) dX11_book_65 rfl rfl (by assumption) ?_
          refine x_getr (K := 13) (pc := 68) hC fX11_247_1 (by assumption) dX11_book_68 rfl rfl (by assumption) ?_
          refine x_aload_n (pc := 71) hC dX11_book_71 rfl ?_
          refine x_getr (K := 0) (pc := 72) hC fX11_12_11 (by assumption) dX11_book_72 rfl rfl (by assumption) ?_
          refine x_geti (K := 14) (pc := 75) hC fX11_244_1 (by assumption) dX11_book_75 rfl rfl ?_
          rw [hz14]
          refine x_iload_n (pc := 78) hC dX11_book_78 rfl ?_
          refine x_iload_n (pc := 79) hC dX11_book_79 rfl ?_
          refine x_iload_n (pc := 80) hC dX11_book_80 rfl ?_
          refine x_callS0 (As := [_, _, _, _, _]) (Bs := [_, _, _, _, _]) (pc := 81) hC (c_putRow E (y := 18) (by assumption) (i := z 18) ⟨by omega, by omega⟩ (by decide)) wX11_218 pX11_putRow rfl rfl (by exact Nat.le_of_ble_eq_true rfl) hR (by decide) (by decide) (by decide) rfl dX11_book_81 ?_
          refine x_aload_n (pc := 84) hC dX11_book_84 rfl ?_
          refine x_getr (K := 0) (pc := 85) hC fX11_12_11 (by assumption) dX11_book_85 rfl rfl (by assumption) ?_
          refine x_dup (pc := 88) hC dX11_book_88 rfl ?_
          refine x_geti (K := 14) (pc := 89) hC fX11_244_1 (by assumption) dX11_book_89 rfl rfl ?_
          (try simp (disch := omega) only [wr_of, wr_p, wr_k, wr_eq, up_ne, up_eq])
          rw [hz14]
          refine x_iconst (pc := 92) hC dX11_book_92 ?_
          refine x_iadd (pc := 93) hC dX11_book_93 ?_
          refine x_puti (K := 14) (pc := 94) hC rfl fX11_244_1 rfl (by assumption) dX11_book_94 rfl ?_
          refine x_aload_n (pc := 97) hC dX11_book_97 rfl ?_
          refine x_getr (K := 0) (pc := 98) hC fX11_12_11 (by assumption) dX11_book_98 rfl rfl (by assumption) ?_
          refine x_geti (K := 14) (pc := 101) hC fX11_244_1 (by assumption) dX11_book_101 rfl rfl ?_
          rw [wr_eq]
          refine x_ireturn hC hZ dX11_book_104 (by decide) (by decide) ?_
          refine ⟨congrArg (fun z => some (Value.int (iI z))) ?_, ?_, fun p p1 p2 p3 => by simp (disch := omega) only [wr_of], rfl, rfl⟩
          · unfold bookA
            (repeat (first | rw [if_pos (by omega)] | rw [if_neg (by omega)]))
            all_goals (first | rfl | omega | assumption)
          · unfold bookZ
            (repeat (first | rw [if_pos (by omega)] | rw [if_neg (by omega)]))
            exact hz.upd h13.2 hpl.2.2.1.1.1 (fun p hp => by (try simp (disch := omega) only [wr_of, wr_p, wr_k, wr_eq, up_ne, up_eq])) (by (try simp (disch := omega) only [wr_of, wr_p, wr_k, wr_eq, up_ne, up_eq])) (by (try simp (disch := omega) only [wr_of, wr_p, wr_k, wr_eq, up_ne, up_eq])) (fun j j0 j1 => by (try simp (disch := omega) only [wr_of, wr_p, wr_k, wr_eq, up_ne, up_eq])) (fun j j0 => by (try simp (disch := omega) only [wr_of, wr_p, wr_k, wr_eq, up_ne, up_eq])) (by (try simp (disch := omega) only [wr_of, wr_p, wr_k, wr_eq, up_ne, up_eq]); exact hz1) ⟨by (try simp (disch := omega) only [wr_of, wr_p, wr_k, wr_eq, up_ne, up_eq]); exact hsz.1, fun j j0 j1 => by (try simp (disch := omega) only [wr_of, wr_p, wr_k, wr_eq, up_ne, up_eq] at j1); (try simp (disch := omega) only [wr_of, wr_p, wr_k, wr_eq, up_ne, up_eq]); exact hsz.2 j j0 j1⟩ (by (try simp (disch := omega) only [wr_of, wr_p, wr_k, wr_eq, up_ne, up_eq]); exact hz4) ⟨by (try simp (disch := omega) only [wr_of, wr_p, wr_k, wr_eq, up_ne, up_eq]); exact hz6, fun j j0 j1 => by (try simp (disch := omega) only [wr_of, wr_p, wr_k, wr_eq, up_ne, up_eq] at j1); (try simp (disch := omega) only [wr_of, wr_p, wr_k, wr_eq, up_ne, up_eq]); exact hz6b j j0 j1⟩ (by (try simp (disch := omega) only [wr_of, wr_p, wr_k, wr_eq, up_ne, up_eq]); exact hz7) (by (try simp (disch := omega) only [wr_of, wr_p, wr_k, wr_eq, up_ne, up_eq]); exact hz8) ⟨by (try simp (disch := omega) only [wr_of, wr_p, wr_k, wr_eq, up_ne, up_eq]); exact hz10, fun k k0 k1 => by (try simp (disch := omega) only [wr_of, wr_p, wr_k, wr_eq, up_ne, up_eq] at k1); (try simp (disch := omega) only [wr_of, wr_p, wr_k, wr_eq, up_ne, up_eq]); exact hz10b k k0 k1⟩ ⟨by (try simp (disch := omega) only [wr_of, wr_p, wr_k, wr_eq, up_ne, up_eq]); exact hz12, fun k k0 k1 => by (try simp (disch := omega) only [wr_of, wr_p, wr_k, wr_eq, up_ne, up_eq] at k1); (try simp (disch := omega) only [wr_of, wr_p, wr_k, wr_eq, up_ne, up_eq]); exact hz12b k k0 k1⟩ ⟨by (try simp (disch := omega) only [wr_of, wr_p, wr_k, wr_eq, up_ne, up_eq]), fun k k0 k1 => by
              (try simp (disch := omega) only [wr_of, wr_p, wr_k, wr_eq, up_ne, up_eq] at k1)
              by_cases hk : k = z 18
              · subst hk
                simp (disch := omega) only [wr_of, wr_p, wr_k, wr_eq, up_ne, up_eq]
                exact ⟨trivial, trivial, trivial⟩
              · have hold := hz14b k k0 (by omega)
                simp (disch := omega) only [wr_of, wr_p, wr_k, up_ne]
                exact hold⟩
        · refine x_bipush (pc := 61) hC dX11_book_61 (by decide +kernel) ?_
          refine x_ireturn hC hZ dX11_book_63 (by decide) (by decide) ?_
          refine ⟨congrArg (fun z => some (Value.int (iI z))) ?_, ?_, Hx.rf _ _ _, rfl, rfl⟩
          · unfold bookA
            (repeat (first | rw [if_pos (by omega)] | rw [if_neg (by omega)]))
            all_goals (first | rfl | omega | assumption)
          · unfold bookZ
            (repeat (first | rw [if_pos (by omega)] | rw [if_neg (by omega)]))
            exact hz
      · refine x_bipush (pc := 46) hC dX11_book_46 (by decide +kernel) ?_
        refine x_ireturn hC hZ dX11_book_48 (by decide) (by decide) ?_
        refine ⟨congrArg (fun z => some (Value.int (iI z))) ?_, ?_, Hx.rf _ _ _, rfl, rfl⟩
        · unfold bookA
          (repeat (first | rw [if_pos (by omega)] | rw [if_neg (by omega)]))
          all_goals (first | rfl | omega | assumption)
        · unfold bookZ
          (repeat (first | rw [if_pos (by omega)] | rw [if_neg (by omega)]))
          exact hz
    · refine x_iconst (pc := 33) hC dX11_book_33 ?_
      refine x_ireturn hC hZ dX11_book_34 (by decide) (by decide) ?_
      refine ⟨congrArg (fun z => some (Value.int (iI z))) ?_, ?_, Hx.rf _ _ _, rfl, rfl⟩
      · unfold bookA
        (repeat (first | rw [if_pos (by omega)] | rw [if_neg (by omega)]))
        all_goals (first | rfl | omega | assumption)
      · unfold bookZ
        (repeat (first | rw [if_pos (by omega)] | rw [if_neg (by omega)]))
        exact hz
  · refine x_iload_n (pc := 0) hC dX11_book_0 rfl ?_
    refine x_iconst (pc := 1) hC dX11_book_1 ?_
    refine x_icmp_ne (tgt := 15) (pc := 2) hC (by omega) (by omega) dX11_book_2 (by decide) (fun c2 => ?_) (fun c2 => ?_)
    · refine x_aload_n (pc := 15) hC dX11_book_15 rfl ?_
      refine x_getr (K := 0) (pc := 16) hC fX11_12_11 (by assumption) dX11_book_16 rfl rfl (by assumption) ?_
      refine x_iload_n (pc := 19) hC dX11_book_19 rfl ?_
      refine x_callV1 (As := [_]) (Bs := [_]) (pc := 20) hC (c_fanOfN E hk hfs hfan (f := f) hf0 hf) wX11_81_1 pX1_fanOf (by assumption) rfl rfl (by exact Nat.le_of_ble_eq_true rfl) hR (by decide) (by decide) (by decide) rfl dX11_book_20 ?_
      refine x_ifnull_n (tgt := 33) (pc := 23) hC dX11_book_23 (by decide) ?_
      refine x_iconst (pc := 33) hC dX11_book_33 ?_
      refine x_ireturn hC hZ dX11_book_34 (by decide) (by decide) ?_
      refine ⟨congrArg (fun z => some (Value.int (iI z))) ?_, ?_, Hx.rf _ _ _, rfl, rfl⟩
      · unfold bookA
        (repeat (first | rw [if_pos (by omega)] | rw [if_neg (by omega)]))
        all_goals (first | rfl | omega | assumption)
      · unfold bookZ
        (repeat (first | rw [if_pos (by omega)] | rw [if_neg (by omega)]))
        exact hz
    · refine x_aload_n (pc := 5) hC dX11_book_5 rfl ?_
      refine x_getr (K := 0) (pc := 6) hC fX11_12_11 (by assumption) dX11_book_6 rfl rfl (by assumption) ?_
      refine x_iconst (pc := 9) hC dX11_book_9 ?_
      refine x_puti (K := 14) (pc := 10) hC rfl fX11_244_1 rfl (by assumption) dX11_book_10 rfl ?_
      refine x_iconst (pc := 13) hC dX11_book_13 ?_
      refine x_ireturn hC hZ dX11_book_14 (by decide) (by decide) ?_
      refine ⟨congrArg (fun z => some (Value.int (iI z))) ?_, ?_, fun p p1 p2 p3 => by simp (disch := omega) only [wr_of], rfl, rfl⟩
      · unfold bookA
        (repeat (first | rw [if_pos (by omega)] | rw [if_neg (by omega)]))
        all_goals (first | rfl | omega | assumption)
      · unfold bookZ
        (repeat (first | rw [if_pos (by omega)] | rw [if_neg (by omega)]))
        exact hz.upd h13.2 hpl.2.2.1.1.1 (fun p hp => by (try simp (disch := omega) only [wr_of, wr_p, wr_k, wr_eq, up_ne, up_eq])) (by (try simp (disch := omega) only [wr_of, wr_p, wr_k, wr_eq, up_ne, up_eq])) (by (try simp (disch := omega) only [wr_of, wr_p, wr_k, wr_eq, up_ne, up_eq])) (fun j j0 j1 => by (try simp (disch := omega) only [wr_of, wr_p, wr_k, wr_eq, up_ne, up_eq])) (fun j j0 => by (try simp (disch := omega) only [wr_of, wr_p, wr_k, wr_eq, up_ne, up_eq])) (by (try simp (disch := omega) only [wr_of, wr_p, wr_k, wr_eq, up_ne, up_eq]); exact hz1) ⟨by (try simp (disch := omega) only [wr_of, wr_p, wr_k, wr_eq, up_ne, up_eq]); exact hsz.1, fun j j0 j1 => by (try simp (disch := omega) only [wr_of, wr_p, wr_k, wr_eq, up_ne, up_eq] at j1); (try simp (disch := omega) only [wr_of, wr_p, wr_k, wr_eq, up_ne, up_eq]); exact hsz.2 j j0 j1⟩ (by (try simp (disch := omega) only [wr_of, wr_p, wr_k, wr_eq, up_ne, up_eq]); exact hz4) ⟨by (try simp (disch := omega) only [wr_of, wr_p, wr_k, wr_eq, up_ne, up_eq]); exact hz6, fun j j0 j1 => by (try simp (disch := omega) only [wr_of, wr_p, wr_k, wr_eq, up_ne, up_eq] at j1); (try simp (disch := omega) only [wr_of, wr_p, wr_k, wr_eq, up_ne, up_eq]); exact hz6b j j0 j1⟩ (by (try simp (disch := omega) only [wr_of, wr_p, wr_k, wr_eq, up_ne, up_eq]); exact hz7) (by (try simp (disch := omega) only [wr_of, wr_p, wr_k, wr_eq, up_ne, up_eq]); exact hz8) ⟨by (try simp (disch := omega) only [wr_of, wr_p, wr_k, wr_eq, up_ne, up_eq]); exact hz10, fun k k0 k1 => by (try simp (disch := omega) only [wr_of, wr_p, wr_k, wr_eq, up_ne, up_eq] at k1); (try simp (disch := omega) only [wr_of, wr_p, wr_k, wr_eq, up_ne, up_eq]); exact hz10b k k0 k1⟩ ⟨by (try simp (disch := omega) only [wr_of, wr_p, wr_k, wr_eq, up_ne, up_eq]); exact hz12, fun k k0 k1 => by (try simp (disch := omega) only [wr_of, wr_p, wr_k, wr_eq, up_ne, up_eq] at k1); (try simp (disch := omega) only [wr_of, wr_p, wr_k, wr_eq, up_ne, up_eq]); exact hz12b k k0 k1⟩ ⟨by (try simp (disch := omega) only [wr_of, wr_p, wr_k, wr_eq, up_ne, up_eq]), fun k k0 k1 => by (try simp (disch := omega) only [wr_of, wr_p, wr_k, wr_eq, up_ne, up_eq] at k1); exact absurd k1 (by omega)⟩

set_option maxHeartbeats 4000000 in
set_option maxRecDepth 100000 in
theorem c_go (E : xE) {σ : xM} {ρ : xR} {ks : xKs} (hw : WK ks ρ) {z : zS} (hz : HZ σ ρ ks 1 z) (hpl : PlOk z) (hcn : Cn z) {n : Int} (hn0 : rg n) (ht : z 0 + 100 < 900000) : Sp E yX11_go kX11_go 5 0 0 [.ref 0, .int (iI n)] σ ρ ks (fun r σ' ρ' ks' => r = some (.int (iI (goA z n))) ∧ HZ σ' ρ ks 1 (goZ z n) ∧ Hx σ σ' ρ z ∧ ρ' = ρ ∧ ks' = ks) := by
  obtain ⟨w0, w43, ⟨wr0, wr1, wr3, wr4, wr5⟩, wh, wk, wn, wt⟩ := id hw
  have hk := wh.hk
  obtain ⟨k1, k2, r0, r2, hs3⟩ := id hk
  have hfs := hz.fans
  have hsz := hz.sit
  obtain ⟨⟨hz1, -⟩, -, ⟨rq, hrq, hrq2, hrm⟩, hz4, ⟨hz6, -⟩, hz7, hz8, ⟨hz10, -⟩, ⟨hz12, -⟩, ⟨hz14, -⟩⟩ := id hz
  have hfan := hpl.1
  have hsit := hpl.2.1
  have h13 := hpl.1.1
  have h14 := hpl.2.1.1
  have hz00 := hpl.2.2.2
  obtain ⟨n0, ⟨n1, n2, n3, n4, n5⟩, m0, m1, m2, m3, m4⟩ := id wn
  obtain ⟨h15, h16, h17, h18, h19⟩ := id hcn
  obtain ⟨-, -, -, -, ⟨-, hz6b⟩, -, -, ⟨-, hz10b⟩, ⟨-, hz12b⟩, ⟨-, hz14b⟩⟩ := id hz
  obtain ⟨k15, k16, k17, k18⟩ := wh.2.2.2.2.2.1
  obtain ⟨r5, r9, r11, r13⟩ := wh.2.2.2.2.2.2
  refine x_enter (own := RX11) (L := [_, _]) (by decide +kernel) rfl (by exact Nat.le_of_ble_eq_true rfl) rfl (fun p e R s m args below meth c Z hZ hC hR hin => ?_)
  refine x_iload_n (pc := 0) hC dX11_go_0 rfl ?_
  refine x_iconst (pc := 1) hC dX11_go_1 ?_
  refine x_bipush (pc := 2) hC dX11_go_2 (by decide +kernel) ?_
  refine x_callS1 (As := [_, _, _]) (Bs := [_, _, _]) (pc := 4) hC (c_isIn E (by omega) (by omega) (by omega)) wX11_152 pX11_isIn rfl rfl (by exact Nat.le_of_ble_eq_true rfl) hR (by decide) (by decide) (by decide) rfl dX11_go_4 ?_
  refine x_ifB_ne (tgt := 13) (pc := 7) hC  dX11_go_7 (by decide) (fun c7 => ?_) (fun c7 => ?_)
  · refine x_aload_n (pc := 13) hC dX11_go_13 rfl ?_
    refine x_getr (K := 0) (pc := 14) hC fX11_12_11 (by assumption) dX11_go_14 rfl rfl (by assumption) ?_
    refine x_geti (K := 7) (pc := 17) hC fX11_105_1 (by assumption) dX11_go_17 rfl rfl ?_
    rw [hz7]
    refine x_iload_n (pc := 20) hC dX11_go_20 rfl ?_
    refine x_iadd (pc := 21) hC dX11_go_21 ?_
    refine x_ldc (pc := 22) hC (99999) qX11_155 (by decide +kernel) dX11_go_22 ?_
    refine x_icmp_le (tgt := 30) (pc := 24) hC (by omega) (by omega) dX11_go_24 (by decide) (fun c24 => ?_) (fun c24 => ?_)
    · refine x_aload_n (pc := 30) hC dX11_go_30 rfl ?_
      refine x_getr (K := 0) (pc := 31) hC fX11_12_11 (by assumption) dX11_go_31 rfl rfl (by assumption) ?_
      refine x_aload_n (pc := 34) hC dX11_go_34 rfl ?_
      refine x_getr (K := 0) (pc := 35) hC fX11_12_11 (by assumption) dX11_go_35 rfl rfl (by assumption) ?_
      refine x_getr (K := 2) (pc := 38) hC fX11_108_1 (by assumption) dX11_go_38 rfl rfl (by assumption) ?_
      refine x_aload_n (pc := 41) hC dX11_go_41 rfl ?_
      refine x_getr (K := 0) (pc := 42) hC fX11_12_11 (by assumption) dX11_go_42 rfl rfl (by assumption) ?_
      refine x_callV1 (As := []) (Bs := []) (pc := 45) hC (c_onMask E hk hfs hfan) wX11_156_1 pX1_onMask (by assumption) rfl rfl (by exact Nat.le_of_ble_eq_true rfl) hR (by decide) (by decide) (by decide) rfl dX11_go_45 ?_
      refine x_aload_n (pc := 48) hC dX11_go_48 rfl ?_
      refine x_getr (K := 0) (pc := 49) hC fX11_12_11 (by assumption) dX11_go_49 rfl rfl (by assumption) ?_
      refine x_geti (K := 7) (pc := 52) hC fX11_105_1 (by assumption) dX11_go_52 rfl rfl ?_
      rw [hz7]
      refine x_iload_n (pc := 55) hC dX11_go_55 rfl ?_
      refine x_callV (As := [_, _, _, _]) (Bs := [_, _, _, _]) (pc := 56) hC (c_pass E hk hfs hpl hrq hrm hs3 hsz (mask_in (by omega)) (t := z 0) rfl (by omega) (n := n) (by omega)) wX11_160_1 pX1_pass (by assumption) rfl rfl (by exact Nat.le_of_ble_eq_true rfl) hR (by decide) (by decide) (by decide) rfl dX11_go_56 (fun r56 σ56 ρ56 ks56 q56 => ?_)
      obtain ⟨rfl, hρ56, hks56, f1, f2, f3⟩ := q56
      obtain rfl := hρ56.symm
      obtain rfl := hks56.symm
      rw [(pass_play hpl rfl (fun _ => 0) n.toNat (by omega)).1] at f2
      obtain ⟨p1, p2, p3⟩ := play_pl hpl n.toNat (by omega)
      have hs1 : σ56 1 = σ 1 := f1 1 (by decide) (by decide) (by decide) (by decide)
      refine x_aload_n (pc := 59) hC dX11_go_59 rfl ?_
      refine x_getr (K := 0) (pc := 60) hC fX11_12_11 (by assumption) dX11_go_60 rfl rfl (by assumption) ?_
      refine x_dup (pc := 63) hC dX11_go_63 rfl ?_
      refine x_geti (K := 7) (pc := 64) hC fX11_105_1 (by assumption) dX11_go_64 rfl rfl ?_
      rw [hs1, hz7]
      refine x_iload_n (pc := 67) hC dX11_go_67 rfl ?_
      refine x_iadd (pc := 68) hC dX11_go_68 ?_
      refine x_puti (K := 7) (pc := 69) hC rfl fX11_105_1 rfl (by assumption) dX11_go_69 rfl ?_
      refine x_aload_n (pc := 72) hC dX11_go_72 rfl ?_
      refine x_getr (K := 0) (pc := 73) hC fX11_12_11 (by assumption) dX11_go_73 rfl rfl (by assumption) ?_
      refine x_geti (K := 7) (pc := 76) hC fX11_105_1 (by assumption) dX11_go_76 rfl rfl ?_
      rw [wr_eq]
      refine x_ireturn hC hZ dX11_go_79 (by decide) (by decide) ?_
      refine ⟨congrArg (fun z => some (Value.int (iI z))) ?_, ?_, fun p' p1' p2' p3' => by rw [wr_of _ (by omega)]; exact f1 p' (by omega) (by omega) (by omega) (by omega), rfl, rfl⟩
      · unfold goA
        rw [if_neg (by omega), if_neg (by omega)]
      · unfold goZ
        rw [if_neg (by omega), if_neg (by omega)]
        have hw1 : ∀ j : Int, j ≠ 7 → wr σ56 1 7 (z 0 + n) 1 j = σ 1 j := fun j hj => by rw [wr_k _ _ _ hj, hs1]
        have hw2 : ∀ q : Nat, q ≠ 1 → wr σ56 1 7 (z 0 + n) q = σ56 q := fun q hq => wr_of _ hq _ _
        have h13z : ∀ j, 13 ≤ j → playF z n.toNat j = z j := fun j hj => p3 j (Or.inl hj)
        refine hz.upd h13.2 hpl.2.2.1.1.1 (fun p' hp => by rw [hw2 _ (by omega)]; exact f1 p' (by omega) (by omega) (by omega) (by omega)) (h13z _ (by decide)) (h13z _ (by decide)) (fun j j0 j1 => h13z j (by omega)) (fun j j0 => h13z j (by omega)) (by rw [hw1 _ (by decide)]; exact hz1) ?_ (by rw [hw1 _ (by decide), h13z _ (by decide)]; exact hz4) ⟨by rw [hw1 _ (by decide), h13z _ (by decide)]; exact hz6, fun j j0 j1 => ?_⟩ (by rw [wr_eq, p2]; omega) (by rw [hw1 _ (by decide), h13z _ (by decide)]; exact hz8) ⟨by rw [hw1 _ (by decide), h13z _ (by decide)]; exact hz10, fun k k0 k1 => ?_⟩ ⟨by rw [hw1 _ (by decide), h13z _ (by decide)]; exact hz12, fun k k0 k1 => ?_⟩ ⟨by rw [hw1 _ (by decide), h13z _ (by decide)]; exact hz14, fun k k0 k1 => ?_⟩
        · exact f2.mem (hw2 _ (by decide)) (hw2 _ (by decide)) (hw2 _ (by decide)) (hw2 _ (by decide))
        · rw [h13z _ (by decide)] at j1
          rw [hw2 _ (by decide), f1 15 (by decide) (by decide) (by decide) (by decide), h13z _ (by omega)]; exact hz6b j j0 j1
        · rw [h13z _ (by decide)] at k1
          rw [hw2 _ (by decide), f1 16 (by decide) (by decide) (by decide) (by decide), h13z _ (by omega), h13z _ (by omega), h13z _ (by omega)]; exact hz10b k k0 k1
        · rw [h13z _ (by decide)] at k1
          rw [hw2 _ (by decide), f1 17 (by decide) (by decide) (by decide) (by decide), h13z _ (by omega), h13z _ (by omega)]; exact hz12b k k0 k1
        · rw [h13z _ (by decide)] at k1
          rw [hw2 _ (by decide), f1 18 (by decide) (by decide) (by decide) (by decide), h13z _ (by omega), h13z _ (by omega), h13z _ (by omega)]; exact hz14b k k0 k1
    · refine x_bipush (pc := 27) hC dX11_go_27 (by decide +kernel) ?_
      refine x_ireturn hC hZ dX11_go_29 (by decide) (by decide) ?_
      refine ⟨congrArg (fun z => some (Value.int (iI z))) ?_, ?_, Hx.rf _ _ _, rfl, rfl⟩
      · unfold goA
        (repeat (first | rw [if_pos (by omega)] | rw [if_neg (by omega)]))
        all_goals (first | rfl | omega | assumption)
      · unfold goZ
        (repeat (first | rw [if_pos (by omega)] | rw [if_neg (by omega)]))
        exact hz
  · refine x_bipush (pc := 10) hC dX11_go_10 (by decide +kernel) ?_
    refine x_ireturn hC hZ dX11_go_12 (by decide) (by decide) ?_
    refine ⟨congrArg (fun z => some (Value.int (iI z))) ?_, ?_, Hx.rf _ _ _, rfl, rfl⟩
    · unfold goA
      (repeat (first | rw [if_pos (by omega)] | rw [if_neg (by omega)]))
      all_goals (first | rfl | omega | assumption)
    · unfold goZ
      (repeat (first | rw [if_pos (by omega)] | rw [if_neg (by omega)]))
      exact hz
