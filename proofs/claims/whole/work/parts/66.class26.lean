set_option maxHeartbeats 4000000 in
set_option maxRecDepth 100000 in
theorem c_hottest (E : xE) {σ : xM} {ρ : xR} {ks : xKs} (hw : WK ks ρ) {z : zS} (hz : HZ σ ρ ks 1 z) (hpl : PlOk z) {n : Int} (hn0 : rg n) (ht : z 0 + 100 < 900000) : Sp E yX11_hottest kX11_hottest 6 0 0 [.ref 0, .int (iI n)] σ ρ ks (fun r σ' ρ' ks' => r = some (.int (iI (hottestA z n))) ∧ Nx σ σ' ∧ ρ' = ρ ∧ ks' = ks) := by
  obtain ⟨w0, w43, ⟨wr0, wr1, wr3, wr4, wr5⟩, wh, wk, wn, wt⟩ := id hw
  have hk := wh.hk
  obtain ⟨k1, k2, r0, r2, hs3⟩ := id hk
  have hfs := hz.fans
  have hsz := hz.sit
  obtain ⟨⟨hz1, -⟩, -, ⟨rq, hrq, hrq2, hrm⟩, hz4, ⟨hz6, -⟩, hz7, hz8, ⟨hz10, -⟩, ⟨hz12, -⟩, ⟨hz14, -⟩⟩ := id hz
  have hfan := hpl.1
  have hsit := hpl.2.1
  have h13 := hpl.1.1
  have h14 := hpl.2.1.1
  have hz00 := hpl.2.2.2
  obtain ⟨n0, ⟨n1, n2, n3, n4, n5⟩, m0, m1, m2, m3, m4⟩ := id wn
  refine x_enter (own := RX11) (L := [_, _, _, _, _]) (by decide +kernel) rfl (by exact Nat.le_of_ble_eq_true rfl) rfl (fun p e R s m args below meth c Z hZ hC hR hin => ?_)
  refine x_iload_n (pc := 0) hC dX11_hottest_0 rfl ?_
  refine x_iconst (pc := 1) hC dX11_hottest_1 ?_
  refine x_bipush (pc := 2) hC dX11_hottest_2 (by decide +kernel) ?_
  refine x_callS1 (As := [_, _, _]) (Bs := [_, _, _]) (pc := 4) hC (c_isIn E (by omega) (by omega) (by omega)) wX11_152 pX11_isIn rfl rfl (by exact Nat.le_of_ble_eq_true rfl) hR (by decide) (by decide) (by decide) rfl dX11_hottest_4 ?_
  refine x_ifB_ne (tgt := 13) (pc := 7) hC  dX11_hottest_7 (by decide) (fun c7 => ?_) (fun c7 => ?_)
  · refine x_aload_n (pc := 13) hC dX11_hottest_13 rfl ?_
    refine x_aload_n (pc := 14) hC dX11_hottest_14 rfl ?_
    refine x_getr (K := 0) (pc := 15) hC fX11_12_11 (by assumption) dX11_hottest_15 rfl rfl (by assumption) ?_
    refine x_callV1 (As := []) (Bs := []) (pc := 18) hC (c_onMask E hk hfs hfan) wX11_156_1 pX1_onMask (by assumption) rfl rfl (by exact Nat.le_of_ble_eq_true rfl) hR (by decide) (by decide) (by decide) rfl dX11_hottest_18 ?_
    refine x_iload_n (pc := 21) hC dX11_hottest_21 rfl ?_
    refine x_callV (As := [_, _]) (Bs := [_, _]) (pc := 22) hC (c_after E hw hz hpl (mask_in (by omega)) (n := n) (by omega) (by omega)) wX11_164_11 pX11_after (by assumption) rfl rfl (by exact Nat.le_of_ble_eq_true rfl) hR (by decide) (by decide) (by decide) rfl dX11_hottest_22 (fun r22 σ22 ρ22 ks22 q22 => ?_)
    obtain ⟨rfl, hnx22, hρ22, hks22, f2, f3⟩ := q22
    obtain rfl := hρ22.symm
    obtain rfl := hks22.symm
    have hpp := pass_play hpl rfl (m0F (σ 41)) n.toNat (by omega)
    rw [hpp.1] at f2
    rw [hpp.2] at f3
    obtain ⟨p1, p2, p3⟩ := play_pl hpl n.toNat (by omega)
    have p14 : playF z n.toNat 14 = z 14 := p3 14 (Or.inl (by decide))
    refine x_astore_n (L' := [_, _, _, _, _]) (pc := 25) hC dX11_hottest_25 rfl rfl ?_
    refine x_bipush (pc := 26) hC dX11_hottest_26 (by decide +kernel) ?_
    refine x_istore_n (L' := [_, _, _, _, _]) (pc := 28) hC dX11_hottest_28 rfl rfl ?_
    refine x_iconst (pc := 29) hC dX11_hottest_29 ?_
    refine x_istore (L' := [_, _, _, _, _]) (pc := 30) hC dX11_hottest_30 rfl rfl ?_
    have loop : ∀ (i k : Nat) (j fo : Int), j = k → (k : Int) + i = z 14 → ((k = 0 ∧ fo = -5) ∨ ∃ x : Nat, k = x + 1 ∧ fo = hotI (playF z n.toNat) x) → X E p e R s m args below meth c Z 0 0 σ22 ρ ks 32 [some (.ref 0), some (.int (iI n)), some (.ref 37), some (.int (iI fo)), some (.int (iI j))] [] := by
      intro i
      induction i with
      | zero =>
        intro k j fo hj hi hfo2
        refine x_iload (pc := 32) hC dX11_hottest_32 rfl ?_
        refine x_aload_n (pc := 34) hC dX11_hottest_34 rfl ?_
        refine x_geti (K := 5) (pc := 35) hC fX11_127_5 (by assumption) dX11_hottest_35 rfl rfl ?_
        rw [f2.1, p14]
        refine x_icmp_ge (tgt := 72) (pc := 38) hC (by omega) (by omega) dX11_hottest_38 (by decide) (fun c38 => ?_) (fun c38 => by (exfalso; omega))
        refine x_iload_n (pc := 72) hC dX11_hottest_72 rfl ?_
        refine x_ireturn hC hZ dX11_hottest_73 (by decide) (by decide) ?_
        refine ⟨congrArg (fun z => some (Value.int (iI z))) ?_, hnx22, rfl, rfl⟩
        unfold hottestA
        rw [if_neg (by omega)]
        rcases hfo2 with ⟨h1, h2⟩ | ⟨x, h1, h2⟩
        · rw [show (z 14 - 1).toNat = 0 by omega, h2]
          show _ = if playF z n.toNat 14 = 0 then (-5 : Int) else 0
          rw [if_pos (by rw [p14]; omega)]
        · rw [show (z 14 - 1).toNat = x by omega, h2]
      | succ i ih =>
        intro k j fo hj hi hfo2
        obtain ⟨y0, y1, y2⟩ := f2.2 j (by omega) (by rw [p14]; omega)
        have hsj := (p1.2.1.2 j (by omega) (by omega)).2.1
        have hcs : (k = 0 ∧ fo = -5) ∨ (∃ x : Nat, k = x + 1 ∧ fo = hotI (playF z n.toNat) x ∧ 0 ≤ fo ∧ fo ≤ x) := by
          rcases hfo2 with h | ⟨x, h1, h2⟩
          · exact Or.inl h
          · have := hotI_in (z := playF z n.toNat) (by rw [p14]; omega) x
            exact Or.inr ⟨x, h1, h2, by omega, by omega⟩
        rcases hcs with ⟨hk0, hf5⟩ | ⟨x, hkx, hfx, hf0, hfle⟩
        · refine x_iload (pc := 32) hC dX11_hottest_32 rfl ?_
          refine x_aload_n (pc := 34) hC dX11_hottest_34 rfl ?_
          refine x_geti (K := 5) (pc := 35) hC fX11_127_5 (by assumption) dX11_hottest_35 rfl rfl ?_
          rw [f2.1, p14]
          refine x_icmp_ge (tgt := 72) (pc := 38) hC (by omega) (by omega) dX11_hottest_38 (by decide) (fun c38 => by (exfalso; omega)) (fun c38 => ?_)
          refine x_iload_n (pc := 41) hC dX11_hottest_41 rfl ?_
          refine x_bipush (pc := 42) hC dX11_hottest_42 (by decide +kernel) ?_
          refine x_icmp_eq (tgt := 63) (pc := 44) hC (by omega) (by omega) dX11_hottest_44 (by decide) (fun c44 => ?_) (fun c44 => by (exfalso; omega))
          refine x_iload (pc := 63) hC dX11_hottest_63 rfl ?_
          refine x_istore_n (L' := [_, _, _, _, _]) (pc := 65) hC dX11_hottest_65 rfl rfl ?_
          refine x_iinc (L' := [_, _, _, _, _]) (pc := 66) hC dX11_hottest_66 rfl rfl rfl ?_
          refine x_goto (tgt := 32) (pc := 69) hC dX11_hottest_69 (by decide) ?_
          refine ih (k + 1) (j + 1) _ (by omega) (by omega) (Or.inr ⟨0, by omega, ?_⟩)
          show _ = if playF z n.toNat 14 = 0 then (-5 : Int) else 0
          rw [if_neg (by rw [p14]; omega)]
          omega
        · obtain ⟨v0, v1, v2⟩ := f2.2 fo (by omega) (by rw [p14]; omega)
          have hsf := (p1.2.1.2 fo (by omega) (by omega)).2.1
          refine x_iload (pc := 32) hC dX11_hottest_32 rfl ?_
          refine x_aload_n (pc := 34) hC dX11_hottest_34 rfl ?_
          refine x_geti (K := 5) (pc := 35) hC fX11_127_5 (by assumption) dX11_hottest_35 rfl rfl ?_
          rw [f2.1, p14]
          refine x_icmp_ge (tgt := 72) (pc := 38) hC (by omega) (by omega) dX11_hottest_38 (by decide) (fun c38 => by (exfalso; omega)) (fun c38 => ?_)
          refine x_iload_n (pc := 41) hC dX11_hottest_41 rfl ?_
          refine x_bipush (pc := 42) hC dX11_hottest_42 (by decide +kernel) ?_
          refine x_icmp_eq (tgt := 63) (pc := 44) hC (by omega) (by omega) dX11_hottest_44 (by decide) (fun c44 => by (exfalso; omega)) (fun c44 => ?_)
          refine x_aload_n (pc := 47) hC dX11_hottest_47 rfl ?_
          refine x_getr (K := 1) (pc := 48) hC fX11_133_5 (by assumption) dX11_hottest_48 rfl rfl (by assumption) ?_
          refine x_iload (pc := 51) hC dX11_hottest_51 rfl ?_
          refine x_iald (pc := 53) hC (by assumption) (by omega) dX11_hottest_53 ?_
          rw [y1]
          refine x_aload_n (pc := 54) hC dX11_hottest_54 rfl ?_
          refine x_getr (K := 1) (pc := 55) hC fX11_133_5 (by assumption) dX11_hottest_55 rfl rfl (by assumption) ?_
          refine x_iload_n (pc := 58) hC dX11_hottest_58 rfl ?_
          refine x_iald (pc := 59) hC (by assumption) (by omega) dX11_hottest_59 ?_
          rw [v1]
          refine x_icmp_le (tgt := 66) (pc := 60) hC (by omega) (by omega) dX11_hottest_60 (by decide) (fun c60 => ?_) (fun c60 => ?_)
          · refine x_iinc (L' := [_, _, _, _, _]) (pc := 66) hC dX11_hottest_66 rfl rfl rfl ?_
            refine x_goto (tgt := 32) (pc := 69) hC dX11_hottest_69 (by decide) ?_
            refine ih (k + 1) (j + 1) _ (by omega) (by omega) (Or.inr ⟨x + 1, by omega, ?_⟩)
            show _ = if playF z n.toNat (1 + hotI (playF z n.toNat) x) < playF z n.toNat (1 + (x + 1 : Nat)) then ((x + 1 : Nat) : Int) else hotI (playF z n.toNat) x
            rw [← hfx, show ((x + 1 : Nat) : Int) = j by omega, if_neg (by omega)]
          · refine x_iload (pc := 63) hC dX11_hottest_63 rfl ?_
            refine x_istore_n (L' := [_, _, _, _, _]) (pc := 65) hC dX11_hottest_65 rfl rfl ?_
            refine x_iinc (L' := [_, _, _, _, _]) (pc := 66) hC dX11_hottest_66 rfl rfl rfl ?_
            refine x_goto (tgt := 32) (pc := 69) hC dX11_hottest_69 (by decide) ?_
            refine ih (k + 1) (j + 1) _ (by omega) (by omega) (Or.inr ⟨x + 1, by omega, ?_⟩)
            show _ = if playF z n.toNat (1 + hotI (playF z n.toNat) x) < playF z n.toNat (1 + (x + 1 : Nat)) then ((x + 1 : Nat) : Int) else hotI (playF z n.toNat) x
            rw [← hfx, show ((x + 1 : Nat) : Int) = j by omega, if_pos (by omega)]
    exact loop (z 14).toNat 0 0 (-5) rfl (by omega) (Or.inl ⟨rfl, rfl⟩)
  · refine x_bipush (pc := 10) hC dX11_hottest_10 (by decide +kernel) ?_
    refine x_ireturn hC hZ dX11_hottest_12 (by decide) (by decide) ?_
    refine ⟨congrArg (fun z => some (Value.int (iI z))) ?_, Nx.rf _, rfl, rfl⟩
    unfold hottestA
    (repeat (first | rw [if_pos (by omega)] | rw [if_neg (by omega)]))
    all_goals (first | rfl | omega | assumption)

set_option maxHeartbeats 4000000 in
set_option maxRecDepth 100000 in
theorem c_tooHot (E : xE) {σ : xM} {ρ : xR} {ks : xKs} (hw : WK ks ρ) {z : zS} (hz : HZ σ ρ ks 1 z) (hpl : PlOk z) {y : Int} (hy0 : rg y) (ht : z 0 + 200 < 900000) : Sp E yX11_tooHot kX11_tooHot 5 0 0 [.ref 0, .int (iI y)] σ ρ ks (fun r σ' ρ' ks' => r = some (.int (iI (tooHotA z y))) ∧ Nx σ σ' ∧ ρ' = ρ ∧ ks' = ks) := by
  obtain ⟨w0, w43, ⟨wr0, wr1, wr3, wr4, wr5⟩, wh, wk, wn, wt⟩ := id hw
  have hk := wh.hk
  obtain ⟨k1, k2, r0, r2, hs3⟩ := id hk
  have hfs := hz.fans
  have hsz := hz.sit
  obtain ⟨⟨hz1, -⟩, -, ⟨rq, hrq, hrq2, hrm⟩, hz4, ⟨hz6, -⟩, hz7, hz8, ⟨hz10, -⟩, ⟨hz12, -⟩, ⟨hz14, -⟩⟩ := id hz
  have hfan := hpl.1
  have hsit := hpl.2.1
  have h13 := hpl.1.1
  have h14 := hpl.2.1.1
  have hz00 := hpl.2.2.2
  obtain ⟨n0, ⟨n1, n2, n3, n4, n5⟩, m0, m1, m2, m3, m4⟩ := id wn
  obtain ⟨h30, ⟨h31, h32, h33, h34, h35⟩, h36, h37, h38, h39, h3a⟩ := id hs3
  refine x_enter (own := RX11) (L := [_, _, _, _]) (by decide +kernel) rfl (by exact Nat.le_of_ble_eq_true rfl) rfl (fun p e R s m args below meth c Z hZ hC hR hin => ?_)
  refine x_aload_n (pc := 0) hC dX11_tooHot_0 rfl ?_
  refine x_getr (K := 0) (pc := 1) hC fX11_12_11 (by assumption) dX11_tooHot_1 rfl rfl (by assumption) ?_
  refine x_getr (K := 2) (pc := 4) hC fX11_108_1 (by assumption) dX11_tooHot_4 rfl rfl (by assumption) ?_
  refine x_iload_n (pc := 7) hC dX11_tooHot_7 rfl ?_
  refine x_callV1 (As := [_]) (Bs := [_]) (pc := 8) hC (c_has E hs3 hsz hsit (by omega)) wX11_139_5 pX5_has (by assumption) rfl rfl (by exact Nat.le_of_ble_eq_true rfl) hR (by decide) (by decide) (by decide) rfl dX11_tooHot_8 ?_
  refine x_ifB_ne (tgt := 16) (pc := 11) hC  dX11_tooHot_11 (by decide) (fun c11 => ?_) (fun c11 => ?_)
  · refine x_aload_n (pc := 16) hC dX11_tooHot_16 rfl ?_
    refine x_getr (K := 0) (pc := 17) hC fX11_12_11 (by assumption) dX11_tooHot_17 rfl rfl (by assumption) ?_
    refine x_callV1 (As := []) (Bs := []) (pc := 20) hC (c_onMask E hk hfs hfan) wX11_156_1 pX1_onMask (by assumption) rfl rfl (by exact Nat.le_of_ble_eq_true rfl) hR (by decide) (by decide) (by decide) rfl dX11_tooHot_20 ?_
    refine x_istore_n (L' := [_, _, _, _]) (pc := 23) hC dX11_tooHot_23 rfl rfl ?_
    refine x_aload_n (pc := 24) hC dX11_tooHot_24 rfl ?_
    refine x_getr (K := 3) (pc := 25) hC fX11_28_11 (by assumption) dX11_tooHot_25 rfl rfl (by assumption) ?_
    refine x_aload_n (pc := 28) hC dX11_tooHot_28 rfl ?_
    refine x_getr (K := 0) (pc := 29) hC fX11_12_11 (by assumption) dX11_tooHot_29 rfl rfl (by assumption) ?_
    refine x_getr (K := 2) (pc := 32) hC fX11_108_1 (by assumption) dX11_tooHot_32 rfl rfl (by assumption) ?_
    refine x_callV (As := [_]) (Bs := [_]) (pc := 35) hC (c_resembleS E wn hs3 (by omega) hsz hsit) wX11_177_5 pX5_resemble (by assumption) rfl rfl (by exact Nat.le_of_ble_eq_true rfl) hR (by decide) (by decide) (by decide) rfl dX11_tooHot_35 (fun r35 σ35 ρ35 ks35 q35 => ?_)
    obtain ⟨rfl, hρ35, hks35, g1, g2, g3, g4⟩ := q35
    obtain rfl := hρ35.symm
    obtain rfl := hks35.symm
    have hnx : Nx σ σ35 := fun p' hp => g1 p' (by omega) (by omega) (by omega) (by omega) (by omega)
    refine x_iconst (pc := 38) hC dX11_tooHot_38 ?_
    refine x_istore_n (L' := [_, _, _, _]) (pc := 39) hC dX11_tooHot_39 rfl rfl ?_
    have loop : ∀ (i k : Nat) (j : Int) (σ' : xM), j = k → k + i = 61 → Nx σ σ' → SZ σ' 37 38 (playF z k) → tooF z y i k = tooF z y 61 0 → X E p e R s m args below meth c Z 0 0 σ' ρ ks 40 [some (.ref 0), some (.int (iI y)), some (.int (iI (maskF z (z 13).toNat))), some (.int (iI j))] [] := by
      intro i
      induction i with
      | zero =>
        intro k j σ' hj hi hnx hsz1 htf
        refine x_iload_n (pc := 40) hC dX11_tooHot_40 rfl ?_
        refine x_bipush (pc := 41) hC dX11_tooHot_41 (by decide +kernel) ?_
        refine x_icmp_gt (tgt := 98) (pc := 43) hC (by omega) (by omega) dX11_tooHot_43 (by decide) (fun c43 => ?_) (fun c43 => by (exfalso; omega))
        refine x_bipush (pc := 98) hC dX11_tooHot_98 (by decide +kernel) ?_
        refine x_ireturn hC hZ dX11_tooHot_100 (by decide) (by decide) ?_
        refine ⟨congrArg (fun z => some (Value.int (iI z))) ?_, hnx, rfl, rfl⟩
        unfold tooHotA
        rw [if_neg (by omega), ← htf]
        rfl
      | succ i ih =>
        intro k j σ' hj hi hnx hsz1 htf
        obtain ⟨v, hv⟩ : ∃ v, v = playF z k := ⟨_, rfl⟩
        obtain ⟨p1, p2, p3⟩ := play_pl hpl k (by omega)
        rw [← hv] at hsz1 p1 p2 p3
        have hrm1 : RmP σ' ρ ks rq v := ((hz.nx (by decide) hnx).rm hrq).row (p3 _ (Or.inl (by decide))) (fun x hx => p3 x (Or.inl (by omega))) hpl.2.2.1.1.1
        have kr0 := hrm1.1.1
        have hfs1 : FansAt σ' ρ ks v := ((hz.nx (by decide) hnx).fans).row h13.2 (p3 13 (Or.inl (by decide))) (fun x h0 _ => p3 x (Or.inl (by omega)))
        have hmk : maskF z (z 13).toNat = maskF v (v 13).toNat := by
          rw [p3 13 (Or.inl (by decide))]
          exact (maskF_congr (fun x h0 h1 => p3 x (Or.inl (by omega))) _ (by omega)).symm
        have hp1 := pass_play p1 hmk (fun _ => 0) 1 (by omega)
        have hsy := (p1.2.1.2 y (by omega) (by omega)).2.1
        have v14 : v 14 = z 14 := p3 14 (Or.inl (by decide))
        obtain ⟨y0, y1, y2⟩ := hsz1.2 y (by omega) (by omega)
        have hht : σ' rq 11 = tellsF z 218 80 := by rw [hrm1.2.1]; exact tells_c2 (p3 20 (Or.inl (by decide))) (fun x hx => p3 x (Or.inl (by omega))) hpl.2.2.1.1.1 (by decide) _
        have hhr := hpl.2.2.1.2.2.2.1
        have hs17 : σ' 1 7 = z 0 := by rw [hnx 1 (by omega)]; exact hz7
        have htt : tooF z y (i + 1) k = if tellsF z 218 80 ≤ playF z k (1 + y) then (k : Int) else tooF z y i (k + 1) := rfl
        rw [← hv] at htt
        refine x_iload_n (pc := 40) hC dX11_tooHot_40 rfl ?_
        refine x_bipush (pc := 41) hC dX11_tooHot_41 (by decide +kernel) ?_
        refine x_icmp_gt (tgt := 98) (pc := 43) hC (by omega) (by omega) dX11_tooHot_43 (by decide) (fun c43 => by (exfalso; omega)) (fun c43 => ?_)
        refine x_aload_n (pc := 46) hC dX11_tooHot_46 rfl ?_
        refine x_getr (K := 3) (pc := 47) hC fX11_28_11 (by assumption) dX11_tooHot_47 rfl rfl (by assumption) ?_
        refine x_getr (K := 1) (pc := 50) hC fX11_133_5 (by assumption) dX11_tooHot_50 rfl rfl (by assumption) ?_
        refine x_iload_n (pc := 53) hC dX11_tooHot_53 rfl ?_
        refine x_iald (pc := 54) hC (by assumption) (by omega) dX11_tooHot_54 ?_
        rw [y1]
        refine x_aload_n (pc := 55) hC dX11_tooHot_55 rfl ?_
        refine x_getr (K := 0) (pc := 56) hC fX11_12_11 (by assumption) dX11_tooHot_56 rfl rfl (by assumption) ?_
        refine x_getr (K := 3) (pc := 59) hC fX11_62_1 (by assumption) dX11_tooHot_59 rfl rfl (by assumption) ?_
        refine x_geti (K := 11) (pc := 62) hC fX11_146_4 (by assumption) dX11_tooHot_62 rfl rfl ?_
        rw [hht]
        refine x_icmp_lt (tgt := 70) (pc := 65) hC (by omega) (by omega) dX11_tooHot_65 (by decide) (fun c65 => ?_) (fun c65 => ?_)
        · refine x_aload_n (pc := 70) hC dX11_tooHot_70 rfl ?_
          refine x_getr (K := 0) (pc := 71) hC fX11_12_11 (by assumption) dX11_tooHot_71 rfl rfl (by assumption) ?_
          refine x_aload_n (pc := 74) hC dX11_tooHot_74 rfl ?_
          refine x_getr (K := 3) (pc := 75) hC fX11_28_11 (by assumption) dX11_tooHot_75 rfl rfl (by assumption) ?_
          refine x_iload_n (pc := 78) hC dX11_tooHot_78 rfl ?_
          refine x_aload_n (pc := 79) hC dX11_tooHot_79 rfl ?_
          refine x_getr (K := 0) (pc := 80) hC fX11_12_11 (by assumption) dX11_tooHot_80 rfl rfl (by assumption) ?_
          refine x_geti (K := 7) (pc := 83) hC fX11_105_1 (by assumption) dX11_tooHot_83 rfl rfl ?_
          rw [hs17]
          refine x_iload_n (pc := 86) hC dX11_tooHot_86 rfl ?_
          refine x_iadd (pc := 87) hC dX11_tooHot_87 ?_
          refine x_iconst (pc := 88) hC dX11_tooHot_88 ?_
          refine x_callV (As := [_, _, _, _]) (Bs := [_, _, _, _]) (pc := 89) hC (c_pass E hk hfs1 p1 hrq hrm1 wn hsz1 (mask_in (by omega)) (by omega) (by omega) (n := 1) (by decide)) wX11_160_1 pX1_pass (by assumption) rfl rfl (by exact Nat.le_of_ble_eq_true rfl) hR (by decide) (by decide) (by decide) rfl dX11_tooHot_89 (fun r89 σ89 ρ89 ks89 q89 => ?_)
          obtain ⟨rfl, hρ89, hks89, f1, f2, f3⟩ := q89
          obtain rfl := hρ89.symm
          obtain rfl := hks89.symm
          refine x_iinc (L' := [_, _, _, _]) (pc := 92) hC dX11_tooHot_92 rfl rfl rfl ?_
          refine x_goto (tgt := 40) (pc := 95) hC dX11_tooHot_95 (by decide) ?_
          refine ih (k + 1) (j + 1) _ (by omega) (by omega) (fun p' hp => (f1 p' (by omega) (by omega) (by omega) (by omega)).trans (hnx p' hp)) ?_ ?_
          · rw [show playF z (k + 1) = sec1 v by rw [hv]; rfl]
            have := hp1.1
            rw [show playF v 1 = sec1 v from rfl] at this
            rw [← this]
            exact f2
          · rw [← htf, htt, if_neg (by omega)]
        · refine x_iload_n (pc := 68) hC dX11_tooHot_68 rfl ?_
          refine x_ireturn hC hZ dX11_tooHot_69 (by decide) (by decide) ?_
          refine ⟨congrArg (fun z => some (Value.int (iI z))) ?_, hnx, rfl, rfl⟩
          unfold tooHotA
          rw [if_neg (by omega), ← htf, htt, if_pos c65]
          exact hj
    exact loop 61 0 0 _ rfl (by omega) hnx g3 rfl
  · refine x_iconst (pc := 14) hC dX11_tooHot_14 ?_
    refine x_ireturn hC hZ dX11_tooHot_15 (by decide) (by decide) ?_
    refine ⟨congrArg (fun z => some (Value.int (iI z))) ?_, Nx.rf _, rfl, rfl⟩
    unfold tooHotA
    (repeat (first | rw [if_pos (by omega)] | rw [if_neg (by omega)]))
    all_goals (first | rfl | omega | assumption)

theorem shl4 {k : Int} (h : 0 ≤ k ∧ k ≤ 3) : 0 ≤ bShl 1 k ∧ bShl 1 k ≤ 15 := by
  rcases (show k = 0 ∨ k = 1 ∨ k = 2 ∨ k = 3 by omega) with rfl | rfl | rfl | rfl <;> exact ⟨by decide +kernel, by decide +kernel⟩
set_option maxHeartbeats 4000000 in
set_option maxRecDepth 100000 in
theorem c_which (E : xE) {σ : xM} {ρ : xR} {ks : xKs} (hw : WK ks ρ) {z : zS} (hz : HZ σ ρ ks 1 z) (hpl : PlOk z) {n : Int} (hn0 : rg n) (ht : z 0 + 100 < 900000) (h21 : rg (z 21)) : Sp E yX11_which kX11_which 5 0 0 [.ref 0, .int (iI n)] σ ρ ks (fun r σ' ρ' ks' => r = some (.int (iI (whichA z n))) ∧ Nx σ σ' ∧ ρ' = ρ ∧ ks' = ks) := by
  obtain ⟨w0, w43, ⟨wr0, wr1, wr3, wr4, wr5⟩, wh, wk, wn, wt⟩ := id hw
  have hk := wh.hk
  obtain ⟨k1, k2, r0, r2, hs3⟩ := id hk
  have hfs := hz.fans
  have hsz := hz.sit
  obtain ⟨⟨hz1, -⟩, -, ⟨rq, hrq, hrq2, hrm⟩, hz4, ⟨hz6, -⟩, hz7, hz8, ⟨hz10, -⟩, ⟨hz12, -⟩, ⟨hz14, -⟩⟩ := id hz
  have hfan := hpl.1
  have hsit := hpl.2.1
  have h13 := hpl.1.1
  have h14 := hpl.2.1.1
  have hz00 := hpl.2.2.2
  obtain ⟨n0, ⟨n1, n2, n3, n4, n5⟩, m0, m1, m2, m3, m4⟩ := id wn
  refine x_enter (own := RX11) (L := [_, _, _, _]) (by decide +kernel) rfl (by exact Nat.le_of_ble_eq_true rfl) rfl (fun p e R s m args below meth c Z hZ hC hR hin => ?_)
  refine x_iload_n (pc := 0) hC dX11_which_0 rfl ?_
  refine x_iconst (pc := 1) hC dX11_which_1 ?_
  refine x_bipush (pc := 2) hC dX11_which_2 (by decide +kernel) ?_
  refine x_callS1 (As := [_, _, _]) (Bs := [_, _, _]) (pc := 4) hC (c_isIn E (by omega) (by omega) (by omega)) wX11_152 pX11_isIn rfl rfl (by exact Nat.le_of_ble_eq_true rfl) hR (by decide) (by decide) (by decide) rfl dX11_which_4 ?_
  refine x_ifB_ne (tgt := 13) (pc := 7) hC  dX11_which_7 (by decide) (fun c7 => ?_) (fun c7 => ?_)
  · refine x_iconst (pc := 13) hC dX11_which_13 ?_
    refine x_istore_n (L' := [_, _, _, _]) (pc := 14) hC dX11_which_14 rfl rfl ?_
    refine x_iconst (pc := 15) hC dX11_which_15 ?_
    refine x_istore_n (L' := [_, _, _, _]) (pc := 16) hC dX11_which_16 rfl rfl ?_
    have loop : ∀ (i k : Nat) (j a : Int) (σ' : xM), j = k → (k : Int) + i = z 13 → Nx σ σ' → a = chain (fun f => if ppO z (bShl 1 f) n.toNat 10 = z 21 then bShl 1 f else 0) k → X E p e R s m args below meth c Z 0 0 σ' ρ ks 17 [some (.ref 0), some (.int (iI n)), some (.int (iI a)), some (.int (iI j))] [] := by
      intro i
      induction i with
      | zero =>
        intro k j a σ' hj hi hnx ha
        have hs11 : σ' 1 1 = z 13 := by rw [hnx 1 (by omega)]; exact hz1
        refine x_iload_n (pc := 17) hC dX11_which_17 rfl ?_
        refine x_aload_n (pc := 18) hC dX11_which_18 rfl ?_
        refine x_getr (K := 0) (pc := 19) hC fX11_12_11 (by assumption) dX11_which_19 rfl rfl (by assumption) ?_
        refine x_geti (K := 1) (pc := 22) hC fX11_70_1 (by assumption) dX11_which_22 rfl rfl ?_
        refine x_icmp_ge (tgt := 58) (pc := 25) hC (by omega) (by omega) dX11_which_25 (by decide) (fun c25 => ?_) (fun c25 => by (exfalso; omega))
        refine x_iload_n (pc := 58) hC dX11_which_58 rfl ?_
        refine x_ireturn hC hZ dX11_which_59 (by decide) (by decide) ?_
        refine ⟨congrArg (fun z => some (Value.int (iI z))) ?_, hnx, rfl, rfl⟩
        unfold whichA
        rw [if_neg (by omega), ha, show (z 13).toNat = k by omega]
      | succ i ih =>
        intro k j a σ' hj hi hnx ha
        have hs11 : σ' 1 1 = z 13 := by rw [hnx 1 (by omega)]; exact hz1
        refine x_iload_n (pc := 17) hC dX11_which_17 rfl ?_
        refine x_aload_n (pc := 18) hC dX11_which_18 rfl ?_
        refine x_getr (K := 0) (pc := 19) hC fX11_12_11 (by assumption) dX11_which_19 rfl rfl (by assumption) ?_
        refine x_geti (K := 1) (pc := 22) hC fX11_70_1 (by assumption) dX11_which_22 rfl rfl ?_
        refine x_icmp_ge (tgt := 58) (pc := 25) hC (by omega) (by omega) dX11_which_25 (by decide) (fun c25 => by (exfalso; omega)) (fun c25 => ?_)
        refine x_aload_n (pc := 28) hC dX11_which_28 rfl ?_
        refine x_iconst (pc := 29) hC dX11_which_29 ?_
        refine x_iload_n (pc := 30) hC dX11_which_30 rfl ?_
        refine x_ishl (pc := 31) hC dX11_which_31 ?_
        refine x_iload_n (pc := 32) hC dX11_which_32 rfl ?_
        refine x_callV (As := [_, _]) (Bs := [_, _]) (pc := 33) hC (c_papersOf E hw (hz.nx (by decide) hnx) hpl (mask := bShl 1 j) (shl4 (by omega)) (n := n) (by omega) (by omega)) wX11_206_11 pX11_papersOf (by assumption) rfl rfl (by exact Nat.le_of_ble_eq_true rfl) hR (by decide) (by decide) (by decide) rfl dX11_which_33 (fun r33 σ33 ρ33 ks33 q33 => ?_)
        obtain ⟨rfl, hnx33, hρ33, hks33⟩ := q33
        obtain rfl := hρ33.symm
        obtain rfl := hks33.symm
        refine x_aload_n (pc := 36) hC dX11_which_36 rfl ?_
        refine x_getr (K := 0) (pc := 37) hC fX11_12_11 (by assumption) dX11_which_37 rfl rfl (by assumption) ?_
        refine x_geti (K := 8) (pc := 40) hC fX11_209_1 (by assumption) dX11_which_40 rfl rfl ?_
        rw [hnx33 1 (by omega), hnx 1 (by omega), hz8]
        refine x_icmp_ne (tgt := 52) (pc := 43) hC (by first | exact ppO_rg _ _ _ _ | exact h21) (by first | exact ppO_rg _ _ _ _ | exact h21) dX11_which_43 (by decide) (fun c43 => ?_) (fun c43 => ?_)
        · refine x_iinc (L' := [_, _, _, _]) (pc := 52) hC dX11_which_52 rfl rfl rfl ?_
          refine x_goto (tgt := 17) (pc := 55) hC dX11_which_55 (by decide) ?_
          refine ih (k + 1) (j + 1) _ _ (by omega) (by omega) (hnx.tr hnx33) ?_
          rw [chain_s, ← ha, ← hj, if_neg c43, bOr_z (by rw [ha]; exact chain_rg _ _)]
        · refine x_iload_n (pc := 46) hC dX11_which_46 rfl ?_
          refine x_iconst (pc := 47) hC dX11_which_47 ?_
          refine x_iload_n (pc := 48) hC dX11_which_48 rfl ?_
          refine x_ishl (pc := 49) hC dX11_which_49 ?_
          refine x_ior (pc := 50) hC dX11_which_50 ?_
          refine x_istore_n (L' := [_, _, _, _]) (pc := 51) hC dX11_which_51 rfl rfl ?_
          refine x_iinc (L' := [_, _, _, _]) (pc := 52) hC dX11_which_52 rfl rfl rfl ?_
          refine x_goto (tgt := 17) (pc := 55) hC dX11_which_55 (by decide) ?_
          refine ih (k + 1) (j + 1) _ _ (by omega) (by omega) (hnx.tr hnx33) ?_
          rw [chain_s, ← ha, ← hj, if_pos c43]
    exact loop (z 13).toNat 0 0 0 σ rfl (by omega) (Nx.rf _) rfl
  · refine x_bipush (pc := 10) hC dX11_which_10 (by decide +kernel) ?_
    refine x_ireturn hC hZ dX11_which_12 (by decide) (by decide) ?_
    refine ⟨congrArg (fun z => some (Value.int (iI z))) ?_, Nx.rf _, rfl, rfl⟩
    unfold whichA
    (repeat (first | rw [if_pos (by omega)] | rw [if_neg (by omega)]))
    all_goals (first | rfl | omega | assumption)

theorem chO_in {z : zS} (h : PlOk z) (n : Nat) (hn : z 0 + n < 900000) : ∀ k : Nat, (k : Int) ≤ z 14 → 0 ≤ (chO z n k).2 ∧ (chO z n k).2 ≤ 99
  | 0, _ => grF_in h n hn
  | k + 1, hk => by
    have h14 := h.2.1.1
    have ih := chO_in h n hn k (by omega)
    have h1 := mnF_le (chG z n) (chO z n k).1 (chO z n k).2 (11 * k + 1) (z 14 - 1 - k).toNat
    have h2 := mnF_ge (g := chG z n) (b := (chO z n k).1) (l := (chO z n k).2) (k0 := 11 * k + 1) (M := 0) (N := (z 14 - 1 - k).toNat) ih.1 (fun b hb => by
      have := chG_in h n hn (a := k) (b := (k : Int) + 1 + b) (by omega) (by omega)
      rw [show 11 * (k : Int) + 1 + b = 10 * k + (k + 1 + b) by omega]
      exact this.2.1) _ (Nat.le_refl _)
    exact ⟨h2, by show (mnF _ _ _ _ _).2 ≤ 99; omega⟩
set_option maxHeartbeats 4000000 in
set_option maxRecDepth 100000 in
theorem c_change (E : xE) {σ : xM} {ρ : xR} {ks : xKs} (hw : WK ks ρ) {z : zS} (hz : HZ σ ρ ks 1 z) (hpl : PlOk z) {n : Int} (hn0 : rg n) (ht : z 0 + 100 < 900000) : Sp E yX11_change kX11_change 7 0 0 [.ref 0, .int (iI n)] σ ρ ks (fun r σ' ρ' ks' => r = some (.int (iI (changeA z n))) ∧ Nx σ σ' ∧ ρ' = ρ ∧ ks' = ks) := by
  obtain ⟨w0, w43, ⟨wr0, wr1, wr3, wr4, wr5⟩, wh, wk, wn, wt⟩ := id hw
  have hk := wh.hk
  obtain ⟨k1, k2, r0, r2, hs3⟩ := id hk
  have hfs := hz.fans
  have hsz := hz.sit
  obtain ⟨⟨hz1, -⟩, -, ⟨rq, hrq, hrq2, hrm⟩, hz4, ⟨hz6, -⟩, hz7, hz8, ⟨hz10, -⟩, ⟨hz12, -⟩, ⟨hz14, -⟩⟩ := id hz
  have hfan := hpl.1
  have hsit := hpl.2.1
  have h13 := hpl.1.1
  have h14 := hpl.2.1.1
  have hz00 := hpl.2.2.2
  obtain ⟨n0, ⟨n1, n2, n3, n4, n5⟩, m0, m1, m2, m3, m4⟩ := id wn
  obtain ⟨h30, ⟨h31, h32, h33, h34, h35⟩, h36, h37, h38, h39, h3a⟩ := id hs3
  have hbe2 : ∀ (k b : Nat) (fo be : Int), chO z n.toNat k = (fo, be) → (1 ≤ n ∧ n ≤ 30) → (k : Int) + 1 + b ≤ z 14 → 0 ≤ (mnF (chG z n.toNat) fo be (11 * k + 1) b).2 ∧ (mnF (chG z n.toNat) fo be (11 * k + 1) b).2 ≤ 99 := by
    intro k b fo be hch hn1 hb
    have h0 := chO_in hpl n.toNat (by omega) k (by omega)
    rw [hch] at h0
    have h1 := mnF_le (chG z n.toNat) fo be (11 * k + 1) b
    have h2 := mnF_ge (g := chG z n.toNat) (b := fo) (l := be) (k0 := 11 * k + 1) (M := 0) (N := b) h0.1 (fun x hx => by
      have := chG_in hpl n.toNat (by omega) (a := k) (b := (k : Int) + 1 + x) (by omega) (by omega)
      rw [show 11 * (k : Int) + 1 + x = 10 * k + (k + 1 + x) by omega]
      exact this.2.1) _ (Nat.le_refl _)
    omega
  refine x_enter (own := RX11) (L := [_, _, _, _, _, _, _]) (by decide +kernel) rfl (by exact Nat.le_of_ble_eq_true rfl) rfl (fun p e R s m args below meth c Z hZ hC hR hin => ?_)
  refine x_iload_n (pc := 0) hC dX11_change_0 rfl ?_
  refine x_iconst (pc := 1) hC dX11_change_1 ?_
  refine x_bipush (pc := 2) hC dX11_change_2 (by decide +kernel) ?_
  refine x_callS1 (As := [_, _, _]) (Bs := [_, _, _]) (pc := 4) hC (c_isIn E (by omega) (by omega) (by omega)) wX11_152 pX11_isIn rfl rfl (by exact Nat.le_of_ble_eq_true rfl) hR (by decide) (by decide) (by decide) rfl dX11_change_4 ?_
  refine x_ifB_ne (tgt := 13) (pc := 7) hC  dX11_change_7 (by decide) (fun c7 => ?_) (fun c7 => ?_)
  · refine x_aload_n (pc := 13) hC dX11_change_13 rfl ?_
    refine x_aload_n (pc := 14) hC dX11_change_14 rfl ?_
    refine x_getr (K := 0) (pc := 15) hC fX11_12_11 (by assumption) dX11_change_15 rfl rfl (by assumption) ?_
    refine x_callV1 (As := []) (Bs := []) (pc := 18) hC (c_onMask E hk hfs hfan) wX11_156_1 pX1_onMask (by assumption) rfl rfl (by exact Nat.le_of_ble_eq_true rfl) hR (by decide) (by decide) (by decide) rfl dX11_change_18 ?_
    refine x_iload_n (pc := 21) hC dX11_change_21 rfl ?_
    refine x_callV (As := [_, _]) (Bs := [_, _]) (pc := 22) hC (c_after E hw hz hpl (mask_in (by omega)) (n := n) (by omega) (by omega)) wX11_164_11 pX11_after (by assumption) rfl rfl (by exact Nat.le_of_ble_eq_true rfl) hR (by decide) (by decide) (by decide) rfl dX11_change_22 (fun r22 σ22 ρ22 ks22 q22 => ?_)
    obtain ⟨rfl, hnx22, hρ22, hks22, f2, f3⟩ := q22
    obtain rfl := hρ22.symm
    obtain rfl := hks22.symm
    have hpp := pass_play hpl rfl (m0F (σ 41)) n.toNat (by omega)
    rw [hpp.1] at f2
    rw [hpp.2] at f3
    obtain ⟨p1, p2, p3⟩ := play_pl hpl n.toNat (by omega)
    have p14 : playF z n.toNat 14 = z 14 := p3 14 (Or.inl (by decide))
    refine x_callV1 (As := []) (Bs := []) (pc := 25) hC (c_greatest E wn f2 p1.2.1) wX11_171_5 pX5_greatest (by assumption) rfl rfl (by exact Nat.le_of_ble_eq_true rfl) hR (by decide) (by decide) (by decide) rfl dX11_change_25 ?_
    have hgr := (worse_in hpl n.toNat (by omega)).2.2.1
    rw [p14, ← hgr]
    refine x_istore_n (L' := [_, _, _, _, _, _, _]) (pc := 28) hC dX11_change_28 rfl rfl ?_
    refine x_bipush (pc := 29) hC dX11_change_29 (by decide +kernel) ?_
    refine x_istore_n (L' := [_, _, _, _, _, _, _]) (pc := 31) hC dX11_change_31 rfl rfl ?_
    refine x_iconst (pc := 32) hC dX11_change_32 ?_
    refine x_istore (L' := [_, _, _, _, _, _, _]) (pc := 33) hC dX11_change_33 rfl rfl ?_
    have outer : ∀ (i k : Nat) (j fo be : Int) (σ' : xM), j = k → (k : Int) + i = z 14 → Nx σ σ' → chO z n.toNat k = (fo, be) → X E p e R s m args below meth c Z 0 0 σ' ρ ks 35 [some (.ref 0), some (.int (iI n)), some (.int (iI be)), some (.int (iI fo)), some (.int (iI j)), none, none] [] := by
      intro i
      induction i with
      | zero =>
        intro k j fo be σ' hj hi hnx hch
        have hs35 : σ' 3 5 = z 14 := by rw [hnx 3 (by omega)]; exact hsz.1
        refine x_iload (pc := 35) hC dX11_change_35 rfl ?_
        refine x_aload_n (pc := 37) hC dX11_change_37 rfl ?_
        refine x_getr (K := 0) (pc := 38) hC fX11_12_11 (by assumption) dX11_change_38 rfl rfl (by assumption) ?_
        refine x_getr (K := 2) (pc := 41) hC fX11_108_1 (by assumption) dX11_change_41 rfl rfl (by assumption) ?_
        refine x_geti (K := 5) (pc := 44) hC fX11_127_5 (by assumption) dX11_change_44 rfl rfl ?_
        rw [hs35]
        refine x_icmp_ge (tgt := 112) (pc := 47) hC (by omega) (by omega) dX11_change_47 (by decide) (fun c47 => ?_) (fun c47 => by (exfalso; omega))
        refine x_iload_n (pc := 112) hC dX11_change_112 rfl ?_
        refine x_ireturn hC hZ dX11_change_113 (by decide) (by decide) ?_
        refine ⟨congrArg (fun z => some (Value.int (iI z))) ?_, hnx, rfl, rfl⟩
        unfold changeA
        rw [if_neg (by omega), show (z 14).toNat = k by omega, hch]
      | succ i ih =>
        intro k j fo be σ' hj hi hnx hch
        have hs35 : σ' 3 5 = z 14 := by rw [hnx 3 (by omega)]; exact hsz.1
        have inner : ∀ (a b : Nat) (j2 fo2 be2 : Int) (σ2 : xM), j2 = j + 1 + b → j + 1 + b + a = z 14 → Nx σ σ2 → mnF (chG z n.toNat) fo be (11 * k + 1) b = (fo2, be2) → X E p e R s m args below meth c Z 0 0 σ2 ρ ks 56 [some (.ref 0), some (.int (iI n)), some (.int (iI be2)), some (.int (iI fo2)), some (.int (iI j)), some (.int (iI j2)), none] [] := by
          intro a
          induction a with
          | zero =>
            intro b j2 fo2 be2 σ2 hj2 hb hnx2 hmn
            have hs35 : σ2 3 5 = z 14 := by rw [hnx2 3 (by omega)]; exact hsz.1
            refine x_iload (pc := 56) hC dX11_change_56 rfl ?_
            refine x_aload_n (pc := 58) hC dX11_change_58 rfl ?_
            refine x_getr (K := 0) (pc := 59) hC fX11_12_11 (by assumption) dX11_change_59 rfl rfl (by assumption) ?_
            refine x_getr (K := 2) (pc := 62) hC fX11_108_1 (by assumption) dX11_change_62 rfl rfl (by assumption) ?_
            refine x_geti (K := 5) (pc := 65) hC fX11_127_5 (by assumption) dX11_change_65 rfl rfl ?_
            rw [hs35]
            refine x_icmp_ge (tgt := 106) (pc := 68) hC (by omega) (by omega) dX11_change_68 (by decide) (fun c68 => ?_) (fun c68 => by (exfalso; omega))
            refine x_iinc (L' := [_, _, _, _, _, _, _]) (pc := 106) hC dX11_change_106 rfl rfl rfl ?_
            refine x_goto (tgt := 35) (pc := 109) hC dX11_change_109 (by decide) ?_
            refine X.drop (xLe_s (xLe_s (xLe_s (xLe_s (xLe_s (xLe_n (xLe_n xLe_0))))))) (ih (k + 1) (j + 1) _ _ _ (by omega) (by omega) hnx2 ?_)
            show mnF (chG z n.toNat) (chO z n.toNat k).1 (chO z n.toNat k).2 (11 * k + 1) (z 14 - 1 - k).toNat = _
            rw [hch, show (z 14 - 1 - (k : Int)).toNat = b by omega]
            exact hmn
          | succ a iha =>
            intro b j2 fo2 be2 σ2 hj2 hb hnx2 hmn
            have hs35 : σ2 3 5 = z 14 := by rw [hnx2 3 (by omega)]; exact hsz.1
            obtain ⟨c1, c2, c3⟩ := chG_in hpl n.toNat (by omega) (a := j) (b := j2) (by omega) (by omega)
            rw [c1] at c2 c3
            have hgv : chG z n.toNat (11 * k + 1 + b) = grF (swZ z j j2) n.toNat := by rw [← c1]; congr 1; omega
            have hb2 := hbe2 k b fo be hch (by omega) (by omega)
            rw [hmn] at hb2
            refine x_iload (pc := 56) hC dX11_change_56 rfl ?_
            refine x_aload_n (pc := 58) hC dX11_change_58 rfl ?_
            refine x_getr (K := 0) (pc := 59) hC fX11_12_11 (by assumption) dX11_change_59 rfl rfl (by assumption) ?_
            refine x_getr (K := 2) (pc := 62) hC fX11_108_1 (by assumption) dX11_change_62 rfl rfl (by assumption) ?_
            refine x_geti (K := 5) (pc := 65) hC fX11_127_5 (by assumption) dX11_change_65 rfl rfl ?_
            rw [hs35]
            refine x_icmp_ge (tgt := 106) (pc := 68) hC (by omega) (by omega) dX11_change_68 (by decide) (fun c68 => by (exfalso; omega)) (fun c68 => ?_)
            refine x_aload_n (pc := 71) hC dX11_change_71 rfl ?_
            refine x_iload (pc := 72) hC dX11_change_72 rfl ?_
            refine x_iload (pc := 74) hC dX11_change_74 rfl ?_
            refine x_iload_n (pc := 76) hC dX11_change_76 rfl ?_
            refine x_callV (As := [_, _, _]) (Bs := [_, _, _]) (pc := 77) hC (c_greatestChanged E hw (hz.nx (by decide) hnx2) hpl (a := j) (b := j2) (by omega) (by omega) (n := n) (by omega) (by omega)) wX11_192_11 pX11_greatestChanged (by assumption) rfl rfl (by exact Nat.le_of_ble_eq_true rfl) hR (by decide) (by decide) (by decide) rfl dX11_change_77 (fun r77 σ77 ρ77 ks77 q77 => ?_)
            obtain ⟨rfl, hnx77, hρ77, hks77⟩ := q77
            obtain rfl := hρ77.symm
            obtain rfl := hks77.symm
            refine x_istore (L' := [_, _, _, _, _, _, _]) (pc := 80) hC dX11_change_80 rfl rfl ?_
            refine x_iload (pc := 82) hC dX11_change_82 rfl ?_
            refine x_iload_n (pc := 84) hC dX11_change_84 rfl ?_
            refine x_icmp_ge (tgt := 100) (pc := 85) hC (by omega) (by omega) dX11_change_85 (by decide) (fun c85 => ?_) (fun c85 => ?_)
            · refine x_iinc (L' := [_, _, _, _, _, _, _]) (pc := 100) hC dX11_change_100 rfl rfl rfl ?_
              refine x_goto (tgt := 56) (pc := 103) hC dX11_change_103 (by decide) ?_
              refine X.drop (xLe_s (xLe_s (xLe_s (xLe_s (xLe_s (xLe_s (xLe_n xLe_0))))))) (iha (b + 1) (j2 + 1) _ _ _ (by omega) (by omega) (hnx2.tr hnx77) ?_)
              rw [mnF_s, hmn, hgv, if_neg (show ¬ _ < be2 by omega)]
            · refine x_iload (pc := 88) hC dX11_change_88 rfl ?_
              refine x_istore_n (L' := [_, _, _, _, _, _, _]) (pc := 90) hC dX11_change_90 rfl rfl ?_
              refine x_iload (pc := 91) hC dX11_change_91 rfl ?_
              refine x_bipush (pc := 93) hC dX11_change_93 (by decide +kernel) ?_
              refine x_imul (pc := 95) hC dX11_change_95 ?_
              refine x_iload (pc := 96) hC dX11_change_96 rfl ?_
              refine x_iadd (pc := 98) hC dX11_change_98 ?_
              refine x_istore_n (L' := [_, _, _, _, _, _, _]) (pc := 99) hC dX11_change_99 rfl rfl ?_
              refine x_iinc (L' := [_, _, _, _, _, _, _]) (pc := 100) hC dX11_change_100 rfl rfl rfl ?_
              refine x_goto (tgt := 56) (pc := 103) hC dX11_change_103 (by decide) ?_
              refine X.drop (xLe_s (xLe_s (xLe_s (xLe_s (xLe_s (xLe_s (xLe_n xLe_0))))))) (iha (b + 1) (j2 + 1) _ _ _ (by omega) (by omega) (hnx2.tr hnx77) ?_)
              rw [mnF_s, hmn, hgv, if_pos (show _ < be2 by omega), show 11 * (k : Int) + 1 + b = j * 10 + j2 by omega]
        refine x_iload (pc := 35) hC dX11_change_35 rfl ?_
        refine x_aload_n (pc := 37) hC dX11_change_37 rfl ?_
        refine x_getr (K := 0) (pc := 38) hC fX11_12_11 (by assumption) dX11_change_38 rfl rfl (by assumption) ?_
        refine x_getr (K := 2) (pc := 41) hC fX11_108_1 (by assumption) dX11_change_41 rfl rfl (by assumption) ?_
        refine x_geti (K := 5) (pc := 44) hC fX11_127_5 (by assumption) dX11_change_44 rfl rfl ?_
        rw [hs35]
        refine x_icmp_ge (tgt := 112) (pc := 47) hC (by omega) (by omega) dX11_change_47 (by decide) (fun c47 => by (exfalso; omega)) (fun c47 => ?_)
        refine x_iload (pc := 50) hC dX11_change_50 rfl ?_
        refine x_iconst (pc := 52) hC dX11_change_52 ?_
        refine x_iadd (pc := 53) hC dX11_change_53 ?_
        refine x_istore (L' := [_, _, _, _, _, _, _]) (pc := 54) hC dX11_change_54 rfl rfl ?_
        exact inner (z 14 - 1 - j).toNat 0 (j + 1) fo be σ' (by omega) (by omega) hnx rfl
    exact outer (z 14).toNat 0 0 (-5) _ _ rfl (by omega) hnx22 rfl
  · refine x_bipush (pc := 10) hC dX11_change_10 (by decide +kernel) ?_
    refine x_ireturn hC hZ dX11_change_12 (by decide) (by decide) ?_
    refine ⟨congrArg (fun z => some (Value.int (iI z))) ?_, Nx.rf _, rfl, rfl⟩
    unfold changeA
    (repeat (first | rw [if_pos (by omega)] | rw [if_neg (by omega)]))
    all_goals (first | rfl | omega | assumption)
