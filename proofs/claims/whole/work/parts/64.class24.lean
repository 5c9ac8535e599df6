section XNUL
variable {E : xE} {p : Program} {e : Env} {R : Room} {s : State} {m : MethodId} {args : Array Value} {below : List Frame} {meth : Method} {c : Code} {Z : State → Prop} {kc ns : Nat} {σ : xM} {ρ : xR} {ks : xKs} {pc : Nat} {L : List (Option Value)} {st : List Value} {cc : ByteArray} {own : String} {ret : Option FieldType} {nL : Nat}
theorem x_aloadN (C : XC E p R s m args meth c cc own ret nL) {i : Nat} (hd : decode cc pc = .ok (.aload i, 2)) (hv : L[i]? = some (some .null)) (k : X E p e R s m args below meth c Z kc ns σ ρ ks (pc + 2) L (.null :: st)) : X E p e R s m args below meth c Z kc ns σ ρ ks pc L st :=
  fun H locs ls h1 h2 h3 => lv_aloadN C.1 C.2.1 hd (h3.at hv) (k H locs ls h1 h2 h3)
theorem x_astoreN (C : XC E p R s m args meth c cc own ret nL) {i : Nat} {L' : List (Option Value)} (hd : decode cc pc = .ok (.astore i, 2)) (ho : xOkS L i = true) (hL : L.set i (some .null) = L') (k : X E p e R s m args below meth c Z kc ns σ ρ ks (pc + 2) L' st) : X E p e R s m args below meth c Z kc ns σ ρ ks pc L (.null :: st) :=
  fun H locs ls h1 h2 h3 => lv_astoreN C.1 C.2.1 hd h3.has (xOkS_ok ho).1 rfl (fun ls' h4 => k H locs ls' h1 h2 (hL ▸ xL.store1 (xOkS_ok ho).1 (xOkS_ok ho).2 rfl h4))
end XNUL
set_option maxHeartbeats 4000000 in
set_option maxRecDepth 100000 in
theorem c_at (E : xE) {σ : xM} {ρ : xR} {ks : xKs} (hw : WK ks ρ) {z : zS} (hz : HZ σ ρ ks 1 z) (hpl : PlOk z) {y w : Int} (hy0 : rg y) (hw0 : rg w) (ht : z 0 + 100 < 900000) : Sp E yX11_at kX11_at 4 0 0 [.ref 0, .int (iI y), .int (iI w)] σ ρ ks (fun r σ' ρ' ks' => r = some (.int (iI (atA z y w))) ∧ Nx σ σ' ∧ ρ' = ρ ∧ ks' = ks) := by
  obtain ⟨w0, w43, ⟨wr0, wr1, wr3, wr4, wr5⟩, wh, wk, wn, wt⟩ := id hw
  have hk := wh.hk
  obtain ⟨k1, k2, r0, r2, hs3⟩ := id hk
  have hfs := hz.fans
  have hsz := hz.sit
  obtain ⟨⟨hz1, -⟩, -, ⟨rq, hrq, hrq2, hrm⟩, hz4, ⟨hz6, -⟩, hz7, hz8, ⟨hz10, -⟩, ⟨hz12, -⟩, ⟨hz14, -⟩⟩ := id hz
  have hfan := hpl.1
  have hsit := hpl.2.1
  have h13 := hpl.1.1
  have h14 := hpl.2.1.1
  have hz00 := hpl.2.2.2
  obtain ⟨n0, ⟨n1, n2, n3, n4, n5⟩, m0, m1, m2, m3, m4⟩ := id wn
  obtain ⟨h30, ⟨h31, h32, h33, h34, h35⟩, h36, h37, h38, h39, h3a⟩ := id hs3
  refine x_enter (own := RX11) (L := [_, _, _]) (by decide +kernel) rfl (by exact Nat.le_of_ble_eq_true rfl) rfl (fun p e R s m args below meth c Z hZ hC hR hin => ?_)
  refine x_aload_n (pc := 0) hC dX11_at_0 rfl ?_
  refine x_getr (K := 0) (pc := 1) hC fX11_12_11 (by assumption) dX11_at_1 rfl rfl (by assumption) ?_
  refine x_getr (K := 2) (pc := 4) hC fX11_108_1 (by assumption) dX11_at_4 rfl rfl (by assumption) ?_
  refine x_iload_n (pc := 7) hC dX11_at_7 rfl ?_
  refine x_callV1 (As := [_]) (Bs := [_]) (pc := 8) hC (c_has E hs3 hsz hsit (by omega)) wX11_139_5 pX5_has (by assumption) rfl rfl (by exact Nat.le_of_ble_eq_true rfl) hR (by decide) (by decide) (by decide) rfl dX11_at_8 ?_
  refine x_ifB_ne (tgt := 16) (pc := 11) hC  dX11_at_11 (by decide) (fun c11 => ?_) (fun c11 => ?_)
  · obtain ⟨e0, e1, e2⟩ := hsz.2 y (by omega) (by omega)
    refine x_iload_n (pc := 16) hC dX11_at_16 rfl ?_
    have csw : w = 0 ∨ w = 1 ∨ w = 2 ∨ w = 3 ∨ (w < 0 ∨ 3 < w) := by omega
    rcases csw with c17 | c17 | c17 | c17 | c17
    · refine x_tabIn (tgt := 48) (pc := 17) hC (by omega) dX11_at_17 (by omega) (by omega) 0 (by omega) rfl (by decide) ?_
      refine x_aload_n (pc := 48) hC dX11_at_48 rfl ?_
      refine x_getr (K := 0) (pc := 49) hC fX11_12_11 (by assumption) dX11_at_49 rfl rfl (by assumption) ?_
      refine x_getr (K := 2) (pc := 52) hC fX11_108_1 (by assumption) dX11_at_52 rfl rfl (by assumption) ?_
      refine x_getr (K := 0) (pc := 55) hC fX11_130_5 (by assumption) dX11_at_55 rfl rfl (by assumption) ?_
      refine x_iload_n (pc := 58) hC dX11_at_58 rfl ?_
      refine x_iald (pc := 59) hC (by assumption) (by omega) dX11_at_59 ?_
      refine x_ireturn hC hZ dX11_at_60 (by decide) (by decide) ?_
      refine ⟨congrArg (fun z => some (Value.int (iI z))) ?_, Nx.rf _, rfl, rfl⟩
      unfold atA
      (repeat (first | rw [if_pos (by omega)] | rw [if_neg (by omega)]))
      all_goals (first | rfl | omega | assumption)
    · refine x_tabIn (tgt := 61) (pc := 17) hC (by omega) dX11_at_17 (by omega) (by omega) 1 (by omega) rfl (by decide) ?_
      refine x_aload_n (pc := 61) hC dX11_at_61 rfl ?_
      refine x_getr (K := 0) (pc := 62) hC fX11_12_11 (by assumption) dX11_at_62 rfl rfl (by assumption) ?_
      refine x_getr (K := 2) (pc := 65) hC fX11_108_1 (by assumption) dX11_at_65 rfl rfl (by assumption) ?_
      refine x_getr (K := 1) (pc := 68) hC fX11_133_5 (by assumption) dX11_at_68 rfl rfl (by assumption) ?_
      refine x_iload_n (pc := 71) hC dX11_at_71 rfl ?_
      refine x_iald (pc := 72) hC (by assumption) (by omega) dX11_at_72 ?_
      refine x_ireturn hC hZ dX11_at_73 (by decide) (by decide) ?_
      refine ⟨congrArg (fun z => some (Value.int (iI z))) ?_, Nx.rf _, rfl, rfl⟩
      unfold atA
      (repeat (first | rw [if_pos (by omega)] | rw [if_neg (by omega)]))
      all_goals (first | rfl | omega | assumption)
    · refine x_tabIn (tgt := 74) (pc := 17) hC (by omega) dX11_at_17 (by omega) (by omega) 2 (by omega) rfl (by decide) ?_
      refine x_aload_n (pc := 74) hC dX11_at_74 rfl ?_
      refine x_getr (K := 0) (pc := 75) hC fX11_12_11 (by assumption) dX11_at_75 rfl rfl (by assumption) ?_
      refine x_getr (K := 2) (pc := 78) hC fX11_108_1 (by assumption) dX11_at_78 rfl rfl (by assumption) ?_
      refine x_getr (K := 2) (pc := 81) hC fX11_136_5 (by assumption) dX11_at_81 rfl rfl (by assumption) ?_
      refine x_iload_n (pc := 84) hC dX11_at_84 rfl ?_
      refine x_iald (pc := 85) hC (by assumption) (by omega) dX11_at_85 ?_
      refine x_ireturn hC hZ dX11_at_86 (by decide) (by decide) ?_
      refine ⟨congrArg (fun z => some (Value.int (iI z))) ?_, Nx.rf _, rfl, rfl⟩
      unfold atA
      (repeat (first | rw [if_pos (by omega)] | rw [if_neg (by omega)]))
      all_goals (first | rfl | omega | assumption)
    · refine x_tabIn (tgt := 87) (pc := 17) hC (by omega) dX11_at_17 (by omega) (by omega) 3 (by omega) rfl (by decide) ?_
      refine x_aload_n (pc := 87) hC dX11_at_87 rfl ?_
      refine x_getr (K := 0) (pc := 88) hC fX11_12_11 (by assumption) dX11_at_88 rfl rfl (by assumption) ?_
      refine x_iload_n (pc := 91) hC dX11_at_91 rfl ?_
      refine x_aload_n (pc := 92) hC dX11_at_92 rfl ?_
      refine x_getr (K := 0) (pc := 93) hC fX11_12_11 (by assumption) dX11_at_93 rfl rfl (by assumption) ?_
      refine x_geti (K := 7) (pc := 96) hC fX11_105_1 (by assumption) dX11_at_96 rfl rfl ?_
      rw [hz7]
      refine x_callV1 (As := [_, _]) (Bs := [_, _]) (pc := 99) hC (c_meetersOf E hk hfs hfan (y := y) ⟨by omega, by omega⟩ (t := z 0) ⟨by omega, by omega⟩ hsz hsit) wX11_142_1 pX1_meetersOf (by assumption) rfl rfl (by exact Nat.le_of_ble_eq_true rfl) hR (by decide) (by decide) (by decide) rfl dX11_at_99 ?_
      refine x_ireturn hC hZ dX11_at_102 (by decide) (by decide) ?_
      refine ⟨congrArg (fun z => some (Value.int (iI z))) ?_, Nx.rf _, rfl, rfl⟩
      unfold atA
      rw [mtr_met (fans_01 hfan) _ (Nat.le_refl _)]
      (repeat (first | rw [if_pos (by omega)] | rw [if_neg (by omega)]))
      all_goals (first | rfl | omega | assumption)
    · refine x_tabOut (tgt := 103) (pc := 17) hC (by omega) dX11_at_17 (by omega) (by decide) ?_
      refine x_iconst (pc := 103) hC dX11_at_103 ?_
      refine x_ireturn hC hZ dX11_at_104 (by decide) (by decide) ?_
      refine ⟨congrArg (fun z => some (Value.int (iI z))) ?_, Nx.rf _, rfl, rfl⟩
      unfold atA
      (repeat (first | rw [if_pos (by omega)] | rw [if_neg (by omega)]))
      all_goals (first | rfl | omega | assumption)
  · refine x_iconst (pc := 14) hC dX11_at_14 ?_
    refine x_ireturn hC hZ dX11_at_15 (by decide) (by decide) ?_
    refine ⟨congrArg (fun z => some (Value.int (iI z))) ?_, Nx.rf _, rfl, rfl⟩
    unfold atA
    (repeat (first | rw [if_pos (by omega)] | rw [if_neg (by omega)]))
    all_goals (first | rfl | omega | assumption)

set_option maxHeartbeats 4000000 in
set_option maxRecDepth 100000 in
theorem c_told (E : xE) {σ : xM} {ρ : xR} {ks : xKs} (hw : WK ks ρ) {z : zS} (hz : HZ σ ρ ks 1 z) (hpl : PlOk z) {w : Int} (hw0 : rg w) : Sp E yX11_told kX11_told 0 0 0 [.ref 0, .int (iI w)] σ ρ ks (fun r σ' ρ' ks' => r = some (.int (iI (toldA z w))) ∧ Nx σ σ' ∧ ρ' = ρ ∧ ks' = ks) := by
  obtain ⟨w0, w43, ⟨wr0, wr1, wr3, wr4, wr5⟩, wh, wk, wn, wt⟩ := id hw
  have hk := wh.hk
  obtain ⟨k1, k2, r0, r2, hs3⟩ := id hk
  have hfs := hz.fans
  have hsz := hz.sit
  obtain ⟨⟨hz1, -⟩, -, ⟨rq, hrq, hrq2, hrm⟩, hz4, ⟨hz6, -⟩, hz7, hz8, ⟨hz10, -⟩, ⟨hz12, -⟩, ⟨hz14, -⟩⟩ := id hz
  have hfan := hpl.1
  have hsit := hpl.2.1
  have h13 := hpl.1.1
  have h14 := hpl.2.1.1
  have hz00 := hpl.2.2.2
  obtain ⟨n0, ⟨n1, n2, n3, n4, n5⟩, m0, m1, m2, m3, m4⟩ := id wn
  have kr0 := hrm.1.1
  have hh1 := hrm.2.1
  have hh2 := hrm.2.2.1
  refine x_enter (own := RX11) (L := [_, _]) (by decide +kernel) rfl (by exact Nat.le_of_ble_eq_true rfl) rfl (fun p e R s m args below meth c Z hZ hC hR hin => ?_)
  refine x_iload_n (pc := 0) hC dX11_told_0 rfl ?_
  have csw : w = 0 ∨ w = 1 ∨ w = 2 ∨ (w < 0 ∨ 2 < w) := by omega
  rcases csw with c1 | c1 | c1 | c1
  · refine x_tabIn (tgt := 28) (pc := 1) hC (by omega) dX11_told_1 (by omega) (by omega) 0 (by omega) rfl (by decide) ?_
    refine x_aload_n (pc := 28) hC dX11_told_28 rfl ?_
    refine x_getr (K := 0) (pc := 29) hC fX11_12_11 (by assumption) dX11_told_29 rfl rfl (by assumption) ?_
    refine x_geti (K := 7) (pc := 32) hC fX11_105_1 (by assumption) dX11_told_32 rfl rfl ?_
    refine x_ireturn hC hZ dX11_told_35 (by decide) (by decide) ?_
    refine ⟨congrArg (fun z => some (Value.int (iI z))) ?_, Nx.rf _, rfl, rfl⟩
    unfold toldA
    (repeat (first | rw [if_pos (by omega)] | rw [if_neg (by omega)]))
    all_goals (first | rfl | omega | assumption)
  · refine x_tabIn (tgt := 36) (pc := 1) hC (by omega) dX11_told_1 (by omega) (by omega) 1 (by omega) rfl (by decide) ?_
    refine x_aload_n (pc := 36) hC dX11_told_36 rfl ?_
    refine x_getr (K := 0) (pc := 37) hC fX11_12_11 (by assumption) dX11_told_37 rfl rfl (by assumption) ?_
    refine x_getr (K := 3) (pc := 40) hC fX11_62_1 (by assumption) dX11_told_40 rfl rfl (by assumption) ?_
    refine x_geti (K := 11) (pc := 43) hC fX11_146_4 (by assumption) dX11_told_43 rfl rfl ?_
    refine x_ireturn hC hZ dX11_told_46 (by decide) (by decide) ?_
    refine ⟨congrArg (fun z => some (Value.int (iI z))) ?_, Nx.rf _, rfl, rfl⟩
    unfold toldA
    (repeat (first | rw [if_pos (by omega)] | rw [if_neg (by omega)]))
    all_goals (first | rfl | omega | assumption)
  · refine x_tabIn (tgt := 47) (pc := 1) hC (by omega) dX11_told_1 (by omega) (by omega) 2 (by omega) rfl (by decide) ?_
    refine x_aload_n (pc := 47) hC dX11_told_47 rfl ?_
    refine x_getr (K := 0) (pc := 48) hC fX11_12_11 (by assumption) dX11_told_48 rfl rfl (by assumption) ?_
    refine x_getr (K := 3) (pc := 51) hC fX11_62_1 (by assumption) dX11_told_51 rfl rfl (by assumption) ?_
    refine x_geti (K := 12) (pc := 54) hC fX11_149_4 (by assumption) dX11_told_54 rfl rfl ?_
    refine x_ireturn hC hZ dX11_told_57 (by decide) (by decide) ?_
    refine ⟨congrArg (fun z => some (Value.int (iI z))) ?_, Nx.rf _, rfl, rfl⟩
    unfold toldA
    (repeat (first | rw [if_pos (by omega)] | rw [if_neg (by omega)]))
    all_goals (first | rfl | omega | assumption)
  · refine x_tabOut (tgt := 58) (pc := 1) hC (by omega) dX11_told_1 (by omega) (by decide) ?_
    refine x_iconst (pc := 58) hC dX11_told_58 ?_
    refine x_ireturn hC hZ dX11_told_59 (by decide) (by decide) ?_
    refine ⟨congrArg (fun z => some (Value.int (iI z))) ?_, Nx.rf _, rfl, rfl⟩
    unfold toldA
    (repeat (first | rw [if_pos (by omega)] | rw [if_neg (by omega)]))
    all_goals (first | rfl | omega | assumption)

set_option maxHeartbeats 4000000 in
set_option maxRecDepth 100000 in
theorem c_of (E : xE) {σ : xM} {ρ : xR} {ks : xKs} (hw : WK ks ρ) {z : zS} (hz : HZ σ ρ ks 1 z) (hpl : PlOk z) {f w : Int} (hf0 : rg f) (hw0 : rg w) (ht : z 0 + 100 < 900000) : Sp E yX11_of kX11_of 2 0 0 [.ref 0, .int (iI f), .int (iI w)] σ ρ ks (fun r σ' ρ' ks' => r = some (.int (iI (ofA z f w))) ∧ Nx σ σ' ∧ ρ' = ρ ∧ ks' = ks) := by
  obtain ⟨w0, w43, ⟨wr0, wr1, wr3, wr4, wr5⟩, wh, wk, wn, wt⟩ := id hw
  have hk := wh.hk
  obtain ⟨k1, k2, r0, r2, hs3⟩ := id hk
  have hfs := hz.fans
  have hsz := hz.sit
  obtain ⟨⟨hz1, -⟩, -, ⟨rq, hrq, hrq2, hrm⟩, hz4, ⟨hz6, -⟩, hz7, hz8, ⟨hz10, -⟩, ⟨hz12, -⟩, ⟨hz14, -⟩⟩ := id hz
  have hfan := hpl.1
  have hsit := hpl.2.1
  have h13 := hpl.1.1
  have h14 := hpl.2.1.1
  have hz00 := hpl.2.2.2
  obtain ⟨n0, ⟨n1, n2, n3, n4, n5⟩, m0, m1, m2, m3, m4⟩ := id wn
  refine x_enter (own := RX11) (L := [_, _, _, _]) (by decide +kernel) rfl (by exact Nat.le_of_ble_eq_true rfl) rfl (fun p e R s m args below meth c Z hZ hC hR hin => ?_)
  by_cases hf : 0 ≤ f ∧ f ≤ z 13 - 1
  · obtain ⟨y, hy, hfa⟩ := hfs.2 f (by omega) (by omega)
    obtain ⟨hyk, hfz, htz⟩ := id hfa
    have hci := kci_fam (z (22 + f))
    obtain ⟨a0, a1, a2, a3, a4, a5, a6⟩ := id hfz
    have hfo := hfan.2 f (by omega) (by omega)
    obtain ⟨b1, b2, b3, b4, b5, b6⟩ := id hfo
    have hf4 : 0 ≤ f ∧ f < 4 := ⟨by omega, by omega⟩
    refine x_aload_n (pc := 0) hC dX11_of_0 rfl ?_
    refine x_getr (K := 0) (pc := 1) hC fX11_12_11 (by assumption) dX11_of_1 rfl rfl (by assumption) ?_
    refine x_iload_n (pc := 4) hC dX11_of_4 rfl ?_
    refine x_callV1 (As := [_]) (Bs := [_]) (pc := 5) hC (c_fanOf E hk hfs hfan (f := f) ⟨by omega, by omega⟩ hy) wX11_81_1 pX1_fanOf (by assumption) rfl rfl (by exact Nat.le_of_ble_eq_true rfl) hR (by decide) (by decide) (by decide) rfl dX11_of_5 ?_
    refine x_astore_n (L' := [_, _, _, _]) (pc := 8) hC dX11_of_8 rfl rfl ?_
    refine x_aload_n (pc := 9) hC dX11_of_9 rfl ?_
    refine x_ifnonnull_r (tgt := 15) (pc := 10) hC dX11_of_10 (by decide) ?_
    refine x_iload_n (pc := 15) hC dX11_of_15 rfl ?_
    have csw : w = 0 ∨ w = 1 ∨ w = 2 ∨ w = 3 ∨ w = 4 ∨ w = 5 ∨ w = 6 ∨ (w < 0 ∨ 6 < w) := by omega
    rcases csw with c16 | c16 | c16 | c16 | c16 | c16 | c16 | c16
    · refine x_tabIn (tgt := 60) (pc := 16) hC (by omega) dX11_of_16 (by omega) (by omega) 0 (by omega) rfl (by decide) ?_
      refine x_aload_n (pc := 60) hC dX11_of_60 rfl ?_
      refine x_geti (K := 0) (pc := 61) hC (fFX11_85 _ hci) (by assumption) dX11_of_61 (tF_kind _ hci) rfl ?_
      refine x_ireturn hC hZ dX11_of_64 (by decide) (by decide) ?_
      refine ⟨congrArg (fun z => some (Value.int (iI z))) ?_, Nx.rf _, rfl, rfl⟩
      unfold ofA
      rw [c16, show 22 + 4 * (0 : Int) + f = 22 + f by omega]
      (repeat (first | rw [if_pos (by omega)] | rw [if_neg (by omega)]))
      all_goals (first | rfl | omega | assumption)
    · refine x_tabIn (tgt := 65) (pc := 16) hC (by omega) dX11_of_16 (by omega) (by omega) 1 (by omega) rfl (by decide) ?_
      refine x_aload_n (pc := 65) hC dX11_of_65 rfl ?_
      refine x_geti (K := 2) (pc := 66) hC (fFX11_90 _ hci) (by assumption) dX11_of_66 (tF_v _ hci) rfl ?_
      refine x_ireturn hC hZ dX11_of_69 (by decide) (by decide) ?_
      refine ⟨congrArg (fun z => some (Value.int (iI z))) ?_, Nx.rf _, rfl, rfl⟩
      unfold ofA
      rw [c16, show 22 + 4 * (1 : Int) + f = 26 + f by omega]
      (repeat (first | rw [if_pos (by omega)] | rw [if_neg (by omega)]))
      all_goals (first | rfl | omega | assumption)
    · refine x_tabIn (tgt := 70) (pc := 16) hC (by omega) dX11_of_16 (by omega) (by omega) 2 (by omega) rfl (by decide) ?_
      refine x_aload_n (pc := 70) hC dX11_of_70 rfl ?_
      refine x_geti (K := 3) (pc := 71) hC (fFX11_93 _ hci) (by assumption) dX11_of_71 (tF_from _ hci) rfl ?_
      refine x_ireturn hC hZ dX11_of_74 (by decide) (by decide) ?_
      refine ⟨congrArg (fun z => some (Value.int (iI z))) ?_, Nx.rf _, rfl, rfl⟩
      unfold ofA
      rw [c16, show 22 + 4 * (2 : Int) + f = 30 + f by omega]
      (repeat (first | rw [if_pos (by omega)] | rw [if_neg (by omega)]))
      all_goals (first | rfl | omega | assumption)
    · refine x_tabIn (tgt := 75) (pc := 16) hC (by omega) dX11_of_16 (by omega) (by omega) 3 (by omega) rfl (by decide) ?_
      refine x_aload_n (pc := 75) hC dX11_of_75 rfl ?_
      refine x_geti (K := 4) (pc := 76) hC (fFX11_96 _ hci) (by assumption) dX11_of_76 (tF_to _ hci) rfl ?_
      refine x_ireturn hC hZ dX11_of_79 (by decide) (by decide) ?_
      refine ⟨congrArg (fun z => some (Value.int (iI z))) ?_, Nx.rf _, rfl, rfl⟩
      unfold ofA
      rw [c16, show 22 + 4 * (3 : Int) + f = 34 + f by omega]
      (repeat (first | rw [if_pos (by omega)] | rw [if_neg (by omega)]))
      all_goals (first | rfl | omega | assumption)
    · refine x_tabIn (tgt := 80) (pc := 16) hC (by omega) dX11_of_16 (by omega) (by omega) 4 (by omega) rfl (by decide) ?_
      refine x_aload_n (pc := 80) hC dX11_of_80 rfl ?_
      refine x_geti (K := 5) (pc := 81) hC (fFX11_99 _ hci) (by assumption) dX11_of_81 (tF_pace _ hci) rfl ?_
      refine x_ireturn hC hZ dX11_of_84 (by decide) (by decide) ?_
      refine ⟨congrArg (fun z => some (Value.int (iI z))) ?_, Nx.rf _, rfl, rfl⟩
      unfold ofA
      rw [c16, show 22 + 4 * (4 : Int) + f = 38 + f by omega]
      (repeat (first | rw [if_pos (by omega)] | rw [if_neg (by omega)]))
      all_goals (first | rfl | omega | assumption)
    · refine x_tabIn (tgt := 85) (pc := 16) hC (by omega) dX11_of_16 (by omega) (by omega) 5 (by omega) rfl (by decide) ?_
      refine x_aload_n (pc := 85) hC dX11_of_85 rfl ?_
      refine x_geti (K := 6) (pc := 86) hC (fFX11_102 _ hci) (by assumption) dX11_of_86 (tF_isOn _ hci) rfl ?_
      refine x_if_eq (tgt := 96) (pc := 89) hC (by omega) dX11_of_89 (by decide) (fun c89 => ?_) (fun c89 => ?_)
      · refine x_iconst (pc := 96) hC dX11_of_96 ?_
        refine x_ireturn hC hZ dX11_of_97 (by decide) (by decide) ?_
        refine ⟨congrArg (fun z => some (Value.int (iI z))) ?_, Nx.rf _, rfl, rfl⟩
        unfold ofA
        rw [c16, show 22 + 4 * (5 : Int) + f = 42 + f by omega]
        (repeat (first | rw [if_pos (by omega)] | rw [if_neg (by omega)]))
        all_goals (first | rfl | omega | assumption)
      · refine x_iconst (pc := 92) hC dX11_of_92 ?_
        refine x_goto (tgt := 97) (pc := 93) hC dX11_of_93 (by decide) ?_
        refine x_ireturn hC hZ dX11_of_97 (by decide) (by decide) ?_
        refine ⟨congrArg (fun z => some (Value.int (iI z))) ?_, Nx.rf _, rfl, rfl⟩
        unfold ofA
        rw [c16, show 22 + 4 * (5 : Int) + f = 42 + f by omega]
        (repeat (first | rw [if_pos (by omega)] | rw [if_neg (by omega)]))
        all_goals (first | rfl | omega | assumption)
    · refine x_tabIn (tgt := 98) (pc := 16) hC (by omega) dX11_of_16 (by omega) (by omega) 6 (by omega) rfl (by decide) ?_
      refine x_aload_n (pc := 98) hC dX11_of_98 rfl ?_
      refine x_aload_n (pc := 99) hC dX11_of_99 rfl ?_
      refine x_getr (K := 0) (pc := 100) hC fX11_12_11 (by assumption) dX11_of_100 rfl rfl (by assumption) ?_
      refine x_geti (K := 7) (pc := 103) hC fX11_105_1 (by assumption) dX11_of_103 rfl rfl ?_
      rw [hz7]
      refine x_aload_n (pc := 106) hC dX11_of_106 rfl ?_
      refine x_getr (K := 0) (pc := 107) hC fX11_12_11 (by assumption) dX11_of_107 rfl rfl (by assumption) ?_
      refine x_getr (K := 2) (pc := 110) hC fX11_108_1 (by assumption) dX11_of_110 rfl rfl (by assumption) ?_
      refine x_fanX11_111 (pc := 113) hC hfa hfo hf4 hs3 hsz hsit ⟨by omega, by omega⟩ hR (by decide) (by exact Nat.le_of_ble_eq_true rfl) (by decide) rfl dX11_of_113 ?_
      refine x_ireturn hC hZ dX11_of_116 (by decide) (by decide) ?_
      refine ⟨congrArg (fun z => some (Value.int (iI z))) ?_, Nx.rf _, rfl, rfl⟩
      unfold ofA
      (repeat (first | rw [if_pos (by omega)] | rw [if_neg (by omega)]))
      all_goals (first | rfl | omega | assumption)
    · refine x_tabOut (tgt := 117) (pc := 16) hC (by omega) dX11_of_16 (by omega) (by decide) ?_
      refine x_iconst (pc := 117) hC dX11_of_117 ?_
      refine x_ireturn hC hZ dX11_of_118 (by decide) (by decide) ?_
      refine ⟨congrArg (fun z => some (Value.int (iI z))) ?_, Nx.rf _, rfl, rfl⟩
      unfold ofA
      (repeat (first | rw [if_pos (by omega)] | rw [if_neg (by omega)]))
      all_goals (first | rfl | omega | assumption)
  · refine x_aload_n (pc := 0) hC dX11_of_0 rfl ?_
    refine x_getr (K := 0) (pc := 1) hC fX11_12_11 (by assumption) dX11_of_1 rfl rfl (by assumption) ?_
    refine x_iload_n (pc := 4) hC dX11_of_4 rfl ?_
    refine x_callV1 (As := [_]) (Bs := [_]) (pc := 5) hC (c_fanOfN E hk hfs hfan (f := f) hf0 hf) wX11_81_1 pX1_fanOf (by assumption) rfl rfl (by exact Nat.le_of_ble_eq_true rfl) hR (by decide) (by decide) (by decide) rfl dX11_of_5 ?_
    refine x_astoreN_n (L' := [_, _, _, _]) (pc := 8) hC dX11_of_8 rfl rfl ?_
    refine x_aloadN_n (pc := 9) hC dX11_of_9 rfl ?_
    refine x_ifnonnull_n (pc := 10) hC dX11_of_10 ?_
    refine x_iconst (pc := 13) hC dX11_of_13 ?_
    refine x_ireturn hC hZ dX11_of_14 (by decide) (by decide) ?_
    refine ⟨congrArg (fun z => some (Value.int (iI z))) ?_, Nx.rf _, rfl, rfl⟩
    unfold ofA
    (repeat (first | rw [if_pos (by omega)] | rw [if_neg (by omega)]))
    all_goals (first | rfl | omega | assumption)

set_option maxHeartbeats 4000000 in
set_option maxRecDepth 100000 in
theorem c_is (E : xE) {σ : xM} {ρ : xR} {ks : xKs} (hw : WK ks ρ) {z : zS} (hz : HZ σ ρ ks 1 z) (hpl : PlOk z) {f t : Int} (hf0 : rg f) (ht0 : rg t) : Sp E yX11_is kX11_is 2 0 0 [.ref 0, .int (iI f), .int (iI t)] σ ρ ks (fun r σ' ρ' ks' => r = some (.int (iI (isA z f t))) ∧ Nx σ σ' ∧ ρ' = ρ ∧ ks' = ks) := by
  obtain ⟨w0, w43, ⟨wr0, wr1, wr3, wr4, wr5⟩, wh, wk, wn, wt⟩ := id hw
  have hk := wh.hk
  obtain ⟨k1, k2, r0, r2, hs3⟩ := id hk
  have hfs := hz.fans
  have hsz := hz.sit
  obtain ⟨⟨hz1, -⟩, -, ⟨rq, hrq, hrq2, hrm⟩, hz4, ⟨hz6, -⟩, hz7, hz8, ⟨hz10, -⟩, ⟨hz12, -⟩, ⟨hz14, -⟩⟩ := id hz
  have hfan := hpl.1
  have hsit := hpl.2.1
  have h13 := hpl.1.1
  have h14 := hpl.2.1.1
  have hz00 := hpl.2.2.2
  obtain ⟨n0, ⟨n1, n2, n3, n4, n5⟩, m0, m1, m2, m3, m4⟩ := id wn
  refine x_enter (own := RX11) (L := [_, _, _, _]) (by decide +kernel) rfl (by exact Nat.le_of_ble_eq_true rfl) rfl (fun p e R s m args below meth c Z hZ hC hR hin => ?_)
  by_cases hf : 0 ≤ f ∧ f ≤ z 13 - 1
  · obtain ⟨y, hy, hfa⟩ := hfs.2 f (by omega) (by omega)
    obtain ⟨hyk, hfz, htz⟩ := id hfa
    have hci := kci_fam (z (22 + f))
    obtain ⟨a0, a1, a2, a3, a4, a5, a6⟩ := id hfz
    have hfo := hfan.2 f (by omega) (by omega)
    obtain ⟨b1, b2, b3, b4, b5, b6⟩ := id hfo
    have hf4 : 0 ≤ f ∧ f < 4 := ⟨by omega, by omega⟩
    refine x_aload_n (pc := 0) hC dX11_is_0 rfl ?_
    refine x_getr (K := 0) (pc := 1) hC fX11_12_11 (by assumption) dX11_is_1 rfl rfl (by assumption) ?_
    refine x_iload_n (pc := 4) hC dX11_is_4 rfl ?_
    refine x_callV1 (As := [_]) (Bs := [_]) (pc := 5) hC (c_fanOf E hk hfs hfan (f := f) ⟨by omega, by omega⟩ hy) wX11_81_1 pX1_fanOf (by assumption) rfl rfl (by exact Nat.le_of_ble_eq_true rfl) hR (by decide) (by decide) (by decide) rfl dX11_is_5 ?_
    refine x_astore_n (L' := [_, _, _, _]) (pc := 8) hC dX11_is_8 rfl rfl ?_
    refine x_aload_n (pc := 9) hC dX11_is_9 rfl ?_
    refine x_ifnonnull_r (tgt := 15) (pc := 10) hC dX11_is_10 (by decide) ?_
    refine x_iload_n (pc := 15) hC dX11_is_15 rfl ?_
    refine x_iconst (pc := 16) hC dX11_is_16 ?_
    refine x_sipush (pc := 17) hC dX11_is_17 (by decide +kernel) ?_
    refine x_callS1 (As := [_, _, _]) (Bs := [_, _, _]) (pc := 20) hC (c_isIn E (by omega) (by omega) (by omega)) wX11_152 pX11_isIn rfl rfl (by exact Nat.le_of_ble_eq_true rfl) hR (by decide) (by decide) (by decide) rfl dX11_is_20 ?_
    refine x_ifB_ne (tgt := 29) (pc := 23) hC  dX11_is_23 (by decide) (fun c23 => ?_) (fun c23 => ?_)
    · refine x_aload_n (pc := 29) hC dX11_is_29 rfl ?_
      refine x_iload_n (pc := 30) hC dX11_is_30 rfl ?_
      refine x_aload_n (pc := 31) hC dX11_is_31 rfl ?_
      refine x_getr (K := 0) (pc := 32) hC fX11_12_11 (by assumption) dX11_is_32 rfl rfl (by assumption) ?_
      refine x_getr (K := 2) (pc := 35) hC fX11_108_1 (by assumption) dX11_is_35 rfl rfl (by assumption) ?_
      refine x_fanX11_111 (pc := 38) hC hfa hfo hf4 hs3 hsz hsit ⟨by omega, by omega⟩ hR (by decide) (by exact Nat.le_of_ble_eq_true rfl) (by decide) rfl dX11_is_38 ?_
      refine x_ireturn hC hZ dX11_is_41 (by decide) (by decide) ?_
      refine ⟨congrArg (fun z => some (Value.int (iI z))) ?_, Nx.rf _, rfl, rfl⟩
      unfold isA
      (repeat (first | rw [if_pos (by omega)] | rw [if_neg (by omega)]))
      all_goals (first | rfl | omega | assumption)
    · refine x_bipush (pc := 26) hC dX11_is_26 (by decide +kernel) ?_
      refine x_ireturn hC hZ dX11_is_28 (by decide) (by decide) ?_
      refine ⟨congrArg (fun z => some (Value.int (iI z))) ?_, Nx.rf _, rfl, rfl⟩
      unfold isA
      (repeat (first | rw [if_pos (by omega)] | rw [if_neg (by omega)]))
      all_goals (first | rfl | omega | assumption)
  · refine x_aload_n (pc := 0) hC dX11_is_0 rfl ?_
    refine x_getr (K := 0) (pc := 1) hC fX11_12_11 (by assumption) dX11_is_1 rfl rfl (by assumption) ?_
    refine x_iload_n (pc := 4) hC dX11_is_4 rfl ?_
    refine x_callV1 (As := [_]) (Bs := [_]) (pc := 5) hC (c_fanOfN E hk hfs hfan (f := f) hf0 hf) wX11_81_1 pX1_fanOf (by assumption) rfl rfl (by exact Nat.le_of_ble_eq_true rfl) hR (by decide) (by decide) (by decide) rfl dX11_is_5 ?_
    refine x_astoreN_n (L' := [_, _, _, _]) (pc := 8) hC dX11_is_8 rfl rfl ?_
    refine x_aloadN_n (pc := 9) hC dX11_is_9 rfl ?_
    refine x_ifnonnull_n (pc := 10) hC dX11_is_10 ?_
    refine x_iconst (pc := 13) hC dX11_is_13 ?_
    refine x_ireturn hC hZ dX11_is_14 (by decide) (by decide) ?_
    refine ⟨congrArg (fun z => some (Value.int (iI z))) ?_, Nx.rf _, rfl, rfl⟩
    unfold isA
    (repeat (first | rw [if_pos (by omega)] | rw [if_neg (by omega)]))
    all_goals (first | rfl | omega | assumption)

set_option maxHeartbeats 4000000 in
set_option maxRecDepth 100000 in
theorem c_even (E : xE) {σ : xM} {ρ : xR} {ks : xKs} (hw : WK ks ρ) {z : zS} (hz : HZ σ ρ ks 1 z) (hpl : PlOk z) {n : Int} (hn0 : rg n) (ht : z 0 + 100 < 900000) : Sp E yX11_even kX11_even 6 0 0 [.ref 0, .int (iI n)] σ ρ ks (fun r σ' ρ' ks' => r = some (.int (iI (evenA z n))) ∧ Nx σ σ' ∧ ρ' = ρ ∧ ks' = ks) := by
  obtain ⟨w0, w43, ⟨wr0, wr1, wr3, wr4, wr5⟩, wh, wk, wn, wt⟩ := id hw
  have hk := wh.hk
  obtain ⟨k1, k2, r0, r2, hs3⟩ := id hk
  have hfs := hz.fans
  have hsz := hz.sit
  obtain ⟨⟨hz1, -⟩, -, ⟨rq, hrq, hrq2, hrm⟩, hz4, ⟨hz6, -⟩, hz7, hz8, ⟨hz10, -⟩, ⟨hz12, -⟩, ⟨hz14, -⟩⟩ := id hz
  have hfan := hpl.1
  have hsit := hpl.2.1
  have h13 := hpl.1.1
  have h14 := hpl.2.1.1
  have hz00 := hpl.2.2.2
  obtain ⟨n0, ⟨n1, n2, n3, n4, n5⟩, m0, m1, m2, m3, m4⟩ := id wn
  obtain ⟨h30, ⟨h31, h32, h33, h34, h35⟩, h36, h37, h38, h39, h3a⟩ := id hs3
  refine x_enter (own := RX11) (L := [_, _, _]) (by decide +kernel) rfl (by exact Nat.le_of_ble_eq_true rfl) rfl (fun p e R s m args below meth c Z hZ hC hR hin => ?_)
  refine x_iload_n (pc := 0) hC dX11_even_0 rfl ?_
  refine x_iconst (pc := 1) hC dX11_even_1 ?_
  refine x_bipush (pc := 2) hC dX11_even_2 (by decide +kernel) ?_
  refine x_callS1 (As := [_, _, _]) (Bs := [_, _, _]) (pc := 4) hC (c_isIn E (by omega) (by omega) (by omega)) wX11_152 pX11_isIn rfl rfl (by exact Nat.le_of_ble_eq_true rfl) hR (by decide) (by decide) (by decide) rfl dX11_even_4 ?_
  refine x_ifB_ne (tgt := 13) (pc := 7) hC  dX11_even_7 (by decide) (fun c7 => ?_) (fun c7 => ?_)
  · refine x_aload_n (pc := 13) hC dX11_even_13 rfl ?_
    refine x_getr (K := 0) (pc := 14) hC fX11_12_11 (by assumption) dX11_even_14 rfl rfl (by assumption) ?_
    refine x_getr (K := 2) (pc := 17) hC fX11_108_1 (by assumption) dX11_even_17 rfl rfl (by assumption) ?_
    refine x_geti (K := 5) (pc := 20) hC fX11_127_5 (by assumption) dX11_even_20 rfl rfl ?_
    rw [hsz.1]
    refine x_if_ne (tgt := 29) (pc := 23) hC (by omega) dX11_even_23 (by decide) (fun c23 => ?_) (fun c23 => ?_)
    · refine x_aload_n (pc := 29) hC dX11_even_29 rfl ?_
      refine x_aload_n (pc := 30) hC dX11_even_30 rfl ?_
      refine x_getr (K := 0) (pc := 31) hC fX11_12_11 (by assumption) dX11_even_31 rfl rfl (by assumption) ?_
      refine x_callV1 (As := []) (Bs := []) (pc := 34) hC (c_onMask E hk hfs hfan) wX11_156_1 pX1_onMask (by assumption) rfl rfl (by exact Nat.le_of_ble_eq_true rfl) hR (by decide) (by decide) (by decide) rfl dX11_even_34 ?_
      refine x_iload_n (pc := 37) hC dX11_even_37 rfl ?_
      refine x_callV (As := [_, _]) (Bs := [_, _]) (pc := 38) hC (c_after E hw hz hpl (mask_in (by omega)) (n := n) (by omega) (by omega)) wX11_164_11 pX11_after (by assumption) rfl rfl (by exact Nat.le_of_ble_eq_true rfl) hR (by decide) (by decide) (by decide) rfl dX11_even_38 (fun r38 σ38 ρ38 ks38 q38 => ?_)
      obtain ⟨rfl, hnx38, hρ38, hks38, f2, f3⟩ := q38
      obtain rfl := hρ38.symm
      obtain rfl := hks38.symm
      have hpp := pass_play hpl rfl (m0F (σ 41)) n.toNat (by omega)
      rw [hpp.1] at f2
      rw [hpp.2] at f3
      obtain ⟨p1, p2, p3⟩ := play_pl hpl n.toNat (by omega)
      have p14 : playF z n.toNat 14 = z 14 := p3 14 (Or.inl (by decide))
      refine x_astore_n (L' := [_, _, _]) (pc := 41) hC dX11_even_41 rfl rfl ?_
      refine x_aload_n (pc := 42) hC dX11_even_42 rfl ?_
      refine x_callV1 (As := []) (Bs := []) (pc := 43) hC (c_greatest E wn f2 p1.2.1) wX11_171_5 pX5_greatest (by assumption) rfl rfl (by exact Nat.le_of_ble_eq_true rfl) hR (by decide) (by decide) (by decide) rfl dX11_even_43 ?_
      refine x_aload_n (pc := 46) hC dX11_even_46 rfl ?_
      refine x_callV1 (As := []) (Bs := []) (pc := 47) hC (c_least E wn f2 p1.2.1) wX11_231_5 pX5_least (by assumption) rfl rfl (by exact Nat.le_of_ble_eq_true rfl) hR (by decide) (by decide) (by decide) rfl dX11_even_47 ?_
      refine x_isub (pc := 50) hC dX11_even_50 ?_
      refine x_ireturn hC hZ dX11_even_51 (by decide) (by decide) ?_
      refine ⟨congrArg (fun z => some (Value.int (iI z))) ?_, hnx38, rfl, rfl⟩
      unfold evenA
      rw [if_neg (by omega), if_neg (by omega), p14]
    · refine x_bipush (pc := 26) hC dX11_even_26 (by decide +kernel) ?_
      refine x_ireturn hC hZ dX11_even_28 (by decide) (by decide) ?_
      refine ⟨congrArg (fun z => some (Value.int (iI z))) ?_, Nx.rf _, rfl, rfl⟩
      unfold evenA
      (repeat (first | rw [if_pos (by omega)] | rw [if_neg (by omega)]))
      all_goals (first | rfl | omega | assumption)
  · refine x_bipush (pc := 10) hC dX11_even_10 (by decide +kernel) ?_
    refine x_ireturn hC hZ dX11_even_12 (by decide) (by decide) ?_
    refine ⟨congrArg (fun z => some (Value.int (iI z))) ?_, Nx.rf _, rfl, rfl⟩
    unfold evenA
    (repeat (first | rw [if_pos (by omega)] | rw [if_neg (by omega)]))
    all_goals (first | rfl | omega | assumption)

theorem mask_rg (z : zS) : ∀ n : Nat, rg (maskF z n)
  | 0 => by show rg 0; exact ⟨by decide, by decide⟩
  | n + 1 => by
    show rg (if z (42 + (n : Int)) ≠ 0 then bOr (maskF z n) (bShl 1 n) else maskF z n)
    split
    · exact rg_of _
    · exact mask_rg z n
theorem shl0 : bShl 0 0 = 0 ∧ bShl 0 1 = 0 ∧ bShl 0 2 = 0 ∧ bShl 0 3 = 0 := ⟨by decide +kernel, by decide +kernel, by decide +kernel, by decide +kernel⟩
theorem mask_chain {z : zS} (h01 : ∀ f : Nat, f < (z 13).toNat → z (42 + f) = 0 ∨ z (42 + f) = 1) (h4 : (z 13).toNat ≤ 4) : ∀ n : Nat, n ≤ (z 13).toNat → chain (fun f => bShl (z (42 + f)) f) n = maskF z n
  | 0, _ => rfl
  | n + 1, hn => by
    have ih := mask_chain h01 h4 n (by omega)
    have h0 := h01 n (by omega)
    rw [chain_s, ih]
    show bOr (maskF z n) (bShl (z (42 + (n : Int))) n) = if z (42 + (n : Int)) ≠ 0 then bOr (maskF z n) (bShl 1 n) else maskF z n
    rcases h0 with h0 | h0
    · rw [h0, if_neg (fun h => h rfl)]
      have e : bShl 0 n = 0 := by
        rcases (show n = 0 ∨ n = 1 ∨ n = 2 ∨ n = 3 by omega) with rfl | rfl | rfl | rfl
        · exact shl0.1
        · exact shl0.2.1
        · exact shl0.2.2.1
        · exact shl0.2.2.2
      rw [e, bOr_z (mask_rg z n)]
    · rw [h0, if_pos (by decide)]
set_option maxHeartbeats 4000000 in
set_option maxRecDepth 100000 in
theorem c_papers (E : xE) {σ : xM} {ρ : xR} {ks : xKs} (hw : WK ks ρ) {z : zS} (hz : HZ σ ρ ks 1 z) (hpl : PlOk z) {n : Int} (hn0 : rg n) (ht : z 0 + 100 < 900000) : Sp E yX11_papers kX11_papers 5 0 0 [.ref 0, .int (iI n)] σ ρ ks (fun r σ' ρ' ks' => r = some (.int (iI (papersA z n))) ∧ Nx σ σ' ∧ ρ' = ρ ∧ ks' = ks) := by
  obtain ⟨w0, w43, ⟨wr0, wr1, wr3, wr4, wr5⟩, wh, wk, wn, wt⟩ := id hw
  have hk := wh.hk
  obtain ⟨k1, k2, r0, r2, hs3⟩ := id hk
  have hfs := hz.fans
  have hsz := hz.sit
  obtain ⟨⟨hz1, -⟩, -, ⟨rq, hrq, hrq2, hrm⟩, hz4, ⟨hz6, -⟩, hz7, hz8, ⟨hz10, -⟩, ⟨hz12, -⟩, ⟨hz14, -⟩⟩ := id hz
  have hfan := hpl.1
  have hsit := hpl.2.1
  have h13 := hpl.1.1
  have h14 := hpl.2.1.1
  have hz00 := hpl.2.2.2
  obtain ⟨n0, ⟨n1, n2, n3, n4, n5⟩, m0, m1, m2, m3, m4⟩ := id wn
  refine x_enter (own := RX11) (L := [_, _]) (by decide +kernel) rfl (by exact Nat.le_of_ble_eq_true rfl) rfl (fun p e R s m args below meth c Z hZ hC hR hin => ?_)
  refine x_iload_n (pc := 0) hC dX11_papers_0 rfl ?_
  refine x_iconst (pc := 1) hC dX11_papers_1 ?_
  refine x_bipush (pc := 2) hC dX11_papers_2 (by decide +kernel) ?_
  refine x_callS1 (As := [_, _, _]) (Bs := [_, _, _]) (pc := 4) hC (c_isIn E (by omega) (by omega) (by omega)) wX11_152 pX11_isIn rfl rfl (by exact Nat.le_of_ble_eq_true rfl) hR (by decide) (by decide) (by decide) rfl dX11_papers_4 ?_
  refine x_ifB_eq (tgt := 25) (pc := 7) hC  dX11_papers_7 (by decide) (fun c7 => ?_) (fun c7 => ?_)
  · refine x_bipush (pc := 25) hC dX11_papers_25 (by decide +kernel) ?_
    refine x_ireturn hC hZ dX11_papers_27 (by decide) (by decide) ?_
    refine ⟨congrArg (fun z => some (Value.int (iI z))) ?_, Nx.rf _, rfl, rfl⟩
    unfold papersA
    (repeat (first | rw [if_pos (by omega)] | rw [if_neg (by omega)]))
    all_goals (first | rfl | omega | assumption)
  · refine x_aload_n (pc := 10) hC dX11_papers_10 rfl ?_
    refine x_aload_n (pc := 11) hC dX11_papers_11 rfl ?_
    refine x_getr (K := 0) (pc := 12) hC fX11_12_11 (by assumption) dX11_papers_12 rfl rfl (by assumption) ?_
    refine x_callV1 (As := []) (Bs := []) (pc := 15) hC (c_onMask E hk hfs hfan) wX11_156_1 pX1_onMask (by assumption) rfl rfl (by exact Nat.le_of_ble_eq_true rfl) hR (by decide) (by decide) (by decide) rfl dX11_papers_15 ?_
    refine x_iload_n (pc := 18) hC dX11_papers_18 rfl ?_
    refine x_callV (As := [_, _]) (Bs := [_, _]) (pc := 19) hC (c_papersOf E hw hz hpl (mask_in (by omega)) (n := n) (by omega) (by omega)) wX11_206_11 pX11_papersOf (by assumption) rfl rfl (by exact Nat.le_of_ble_eq_true rfl) hR (by decide) (by decide) (by decide) rfl dX11_papers_19 (fun r19 σ19 ρ19 ks19 q19 => ?_)
    obtain ⟨rfl, hnx19, hρ19, hks19⟩ := q19
    obtain rfl := hρ19.symm
    obtain rfl := hks19.symm
    refine x_goto (tgt := 27) (pc := 22) hC dX11_papers_22 (by decide) ?_
    refine x_ireturn hC hZ dX11_papers_27 (by decide) (by decide) ?_
    refine ⟨congrArg (fun z => some (Value.int (iI z))) ?_, hnx19, rfl, rfl⟩
    unfold papersA
    rw [if_neg (by omega), mask_chain (fans_01 hfan) (by omega) _ (Nat.le_refl _)]

theorem playM_six {z m m' : zS} (hpl : PlOk z) (h : ∀ j, 0 ≤ j → j < 6 → m j = m' j) : ∀ n : Nat, z 0 + n < 900000 → ∀ j, 0 ≤ j → j < 6 → playM z m n j = playM z m' n j
  | 0, _, j, h0, h1 => h j h0 h1
  | n + 1, hn, j, h0, h1 => by
    have ih := playM_six hpl h n (by omega)
    obtain ⟨a, b, c⟩ := play_pl hpl n (by omega)
    show metsF (playF z n) _ (playM z m n) _ j = metsF (playF z n) _ (playM z m' n) _ j
    generalize reachedF (playF z n) (playF z n 0) (playF z n 13).toNat = r
    generalize (playF z n 14).toNat = N
    induction N generalizing j with
    | zero => exact ih j h0 h1
    | succ N ihN =>
      show up _ _ _ j = up _ _ _ j
      by_cases hj : j = N
      · subst hj; rw [up_eq, up_eq, ihN N h0 h1]
      · rw [up_ne _ hj, up_ne _ hj]; exact ihN j h0 h1
theorem m0_six (m m' : zS) : ∀ j, 0 ≤ j → j < 6 → m0F m j = m0F m' j := fun j h0 h1 => by unfold m0F; rw [if_pos ⟨h0, h1⟩, if_pos ⟨h0, h1⟩]
set_option maxHeartbeats 4000000 in
set_option maxRecDepth 100000 in
theorem c_then (E : xE) {σ : xM} {ρ : xR} {ks : xKs} (hw : WK ks ρ) {z : zS} (hz : HZ σ ρ ks 1 z) (hpl : PlOk z) {n w : Int} (m : zS) (hn0 : rg n) (hw0 : rg w) (ht : z 0 + 100 < 900000) : Sp E yX11_then kX11_then 6 0 0 [.ref 0, .int (iI n), .int (iI w)] σ ρ ks (fun r σ' ρ' ks' => r = some (.int (iI (thenF z m n w))) ∧ Nx σ σ' ∧ ρ' = ρ ∧ ks' = ks) := by
  obtain ⟨w0, w43, ⟨wr0, wr1, wr3, wr4, wr5⟩, wh, wk, wn, wt⟩ := id hw
  have hk := wh.hk
  obtain ⟨k1, k2, r0, r2, hs3⟩ := id hk
  have hfs := hz.fans
  have hsz := hz.sit
  obtain ⟨⟨hz1, -⟩, -, ⟨rq, hrq, hrq2, hrm⟩, hz4, ⟨hz6, -⟩, hz7, hz8, ⟨hz10, -⟩, ⟨hz12, -⟩, ⟨hz14, -⟩⟩ := id hz
  have hfan := hpl.1
  have hsit := hpl.2.1
  have h13 := hpl.1.1
  have h14 := hpl.2.1.1
  have hz00 := hpl.2.2.2
  obtain ⟨n0, ⟨n1, n2, n3, n4, n5⟩, m0, m1, m2, m3, m4⟩ := id wn
  obtain ⟨h30, ⟨h31, h32, h33, h34, h35⟩, h36, h37, h38, h39, h3a⟩ := id hs3
  refine x_enter (own := RX11) (L := [_, _, _, _, _, _, _]) (by decide +kernel) rfl (by exact Nat.le_of_ble_eq_true rfl) rfl (fun p e R s m args below meth c Z hZ hC hR hin => ?_)
  refine x_iload_n (pc := 0) hC dX11_then_0 rfl ?_
  refine x_if_eq (tgt := 9) (pc := 1) hC (by omega) dX11_then_1 (by decide) (fun c1 => ?_) (fun c1 => ?_)
  · refine x_iconst (pc := 9) hC dX11_then_9 ?_
    refine x_goto (tgt := 14) (pc := 10) hC dX11_then_10 (by decide) ?_
    refine x_istore_n (L' := [_, _, _, _, _, _, _]) (pc := 14) hC dX11_then_14 rfl rfl ?_
    refine x_iload_n (pc := 15) hC dX11_then_15 rfl ?_
    refine x_bipush (pc := 16) hC dX11_then_16 (by decide +kernel) ?_
    refine x_bipush (pc := 18) hC dX11_then_18 (by decide +kernel) ?_
    refine x_callS1 (As := [_, _, _]) (Bs := [_, _, _]) (pc := 20) hC (c_isIn E (by omega) (by omega) (by omega)) wX11_152 pX11_isIn rfl rfl (by exact Nat.le_of_ble_eq_true rfl) hR (by decide) (by decide) (by decide) rfl dX11_then_20 ?_
    refine x_ifB_eq (tgt := 47) (pc := 23) hC  dX11_then_23 (by decide) (fun c23 => ?_) (fun c23 => ?_)
    · refine x_iconst (pc := 47) hC dX11_then_47 ?_
      refine x_istore (L' := [_, _, _, _, _, _, _]) (pc := 48) hC dX11_then_48 rfl rfl ?_
      refine x_iload_n (pc := 50) hC dX11_then_50 rfl ?_
      refine x_bipush (pc := 51) hC dX11_then_51 (by decide +kernel) ?_
      refine x_bipush (pc := 53) hC dX11_then_53 (by decide +kernel) ?_
      refine x_callS1 (As := [_, _, _]) (Bs := [_, _, _]) (pc := 55) hC (c_isIn E (by omega) (by omega) (by omega)) wX11_152 pX11_isIn rfl rfl (by exact Nat.le_of_ble_eq_true rfl) hR (by decide) (by decide) (by decide) rfl dX11_then_55 ?_
      refine x_ifB_eq (tgt := 82) (pc := 58) hC  dX11_then_58 (by decide) (fun c58 => ?_) (fun c58 => ?_)
      · refine x_iconst (pc := 82) hC dX11_then_82 ?_
        refine x_istore (L' := [_, _, _, _, _, _, _]) (pc := 83) hC dX11_then_83 rfl rfl ?_
        refine x_iload_n (pc := 85) hC dX11_then_85 rfl ?_
        refine x_if_ne (tgt := 101) (pc := 86) hC (by omega) dX11_then_86 (by decide) (fun c86 => ?_) (fun c86 => by (exfalso; omega))
        refine x_iload_n (pc := 101) hC dX11_then_101 rfl ?_
        refine x_iconst (pc := 102) hC dX11_then_102 ?_
        refine x_bipush (pc := 103) hC dX11_then_103 (by decide +kernel) ?_
        refine x_callS1 (As := [_, _, _]) (Bs := [_, _, _]) (pc := 105) hC (c_isIn E (by omega) (by omega) (by omega)) wX11_152 pX11_isIn rfl rfl (by exact Nat.le_of_ble_eq_true rfl) hR (by decide) (by decide) (by decide) rfl dX11_then_105 ?_
        refine x_ifB_ne (tgt := 114) (pc := 108) hC  dX11_then_108 (by decide) (fun c108 => ?_) (fun c108 => ?_)
        · refine x_aload_n (pc := 114) hC dX11_then_114 rfl ?_
          refine x_aload_n (pc := 115) hC dX11_then_115 rfl ?_
          refine x_getr (K := 0) (pc := 116) hC fX11_12_11 (by assumption) dX11_then_116 rfl rfl (by assumption) ?_
          refine x_callV1 (As := []) (Bs := []) (pc := 119) hC (c_onMask E hk hfs hfan) wX11_156_1 pX1_onMask (by assumption) rfl rfl (by exact Nat.le_of_ble_eq_true rfl) hR (by decide) (by decide) (by decide) rfl dX11_then_119 ?_
          refine x_iload_n (pc := 122) hC dX11_then_122 rfl ?_
          refine x_callV (As := [_, _]) (Bs := [_, _]) (pc := 123) hC (c_after E hw hz hpl (mask_in (by omega)) (n := n) (by omega) (by omega)) wX11_164_11 pX11_after (by assumption) rfl rfl (by exact Nat.le_of_ble_eq_true rfl) hR (by decide) (by decide) (by decide) rfl dX11_then_123 (fun r123 σ123 ρ123 ks123 q123 => ?_)
          obtain ⟨rfl, hnx123, hρ123, hks123, f2, f3⟩ := q123
          obtain rfl := hρ123.symm
          obtain rfl := hks123.symm
          have hpp := pass_play hpl rfl (m0F (σ 41)) n.toNat (by omega)
          rw [hpp.1] at f2
          rw [hpp.2] at f3
          obtain ⟨p1, p2, p3⟩ := play_pl hpl n.toNat (by omega)
          have p14 : playF z n.toNat 14 = z 14 := p3 14 (Or.inl (by decide))
          refine x_astore (L' := [_, _, _, _, _, _, _]) (pc := 126) hC dX11_then_126 rfl rfl ?_
          refine x_iload (pc := 128) hC dX11_then_128 rfl ?_
          refine x_if_eq (tgt := 144) (pc := 130) hC (by omega) dX11_then_130 (by decide) (fun c130 => ?_) (fun c130 => by (exfalso; omega))
          refine x_iload (pc := 144) hC dX11_then_144 rfl ?_
          refine x_if_eq (tgt := 160) (pc := 146) hC (by omega) dX11_then_146 (by decide) (fun c146 => ?_) (fun c146 => by (exfalso; omega))
          refine x_iload_n (pc := 160) hC dX11_then_160 rfl ?_
          refine x_if_ne (tgt := 172) (pc := 161) hC (by omega) dX11_then_161 (by decide) (fun c161 => ?_) (fun c161 => ?_)
          · refine x_aload (pc := 172) hC dX11_then_172 rfl ?_
            refine x_callV1 (As := []) (Bs := []) (pc := 174) hC (c_together E wn f2 p1.2.1) wX11_174_5 pX5_together (by assumption) rfl rfl (by exact Nat.le_of_ble_eq_true rfl) hR (by decide) (by decide) (by decide) rfl dX11_then_174 ?_
            refine x_ireturn hC hZ dX11_then_177 (by decide) (by decide) ?_
            refine ⟨congrArg (fun z => some (Value.int (iI z))) ?_, hnx123, rfl, rfl⟩
            unfold thenF
            rw [if_neg (by omega), if_neg (by omega), if_neg (by omega), if_pos (by omega), p14]
          · refine x_aload (pc := 164) hC dX11_then_164 rfl ?_
            refine x_callV1 (As := []) (Bs := []) (pc := 166) hC (c_greatest E wn f2 p1.2.1) wX11_171_5 pX5_greatest (by assumption) rfl rfl (by exact Nat.le_of_ble_eq_true rfl) hR (by decide) (by decide) (by decide) rfl dX11_then_166 ?_
            refine x_goto (tgt := 177) (pc := 169) hC dX11_then_169 (by decide) ?_
            refine x_ireturn hC hZ dX11_then_177 (by decide) (by decide) ?_
            refine ⟨congrArg (fun z => some (Value.int (iI z))) ?_, hnx123, rfl, rfl⟩
            unfold thenF
            rw [if_neg (by omega), if_neg (by omega), if_pos (by omega), p14]
        · refine x_bipush (pc := 111) hC dX11_then_111 (by decide +kernel) ?_
          refine x_ireturn hC hZ dX11_then_113 (by decide) (by decide) ?_
          refine ⟨congrArg (fun z => some (Value.int (iI z))) ?_, Nx.rf _, rfl, rfl⟩
          unfold thenF
          (repeat (first | rw [if_pos (by omega)] | rw [if_neg (by omega)]))
          all_goals (first | rfl | omega | assumption)
      · refine x_aload_n (pc := 61) hC dX11_then_61 rfl ?_
        refine x_getr (K := 0) (pc := 62) hC fX11_12_11 (by assumption) dX11_then_62 rfl rfl (by assumption) ?_
        refine x_getr (K := 2) (pc := 65) hC fX11_108_1 (by assumption) dX11_then_65 rfl rfl (by assumption) ?_
        refine x_iload_n (pc := 68) hC dX11_then_68 rfl ?_
        refine x_bipush (pc := 69) hC dX11_then_69 (by decide +kernel) ?_
        refine x_isub (pc := 71) hC dX11_then_71 ?_
        refine x_callV1 (As := [_]) (Bs := [_]) (pc := 72) hC (c_has E hs3 hsz hsit (by omega)) wX11_139_5 pX5_has (by assumption) rfl rfl (by exact Nat.le_of_ble_eq_true rfl) hR (by decide) (by decide) (by decide) rfl dX11_then_72 ?_
        refine x_ifB_eq (tgt := 82) (pc := 75) hC  dX11_then_75 (by decide) (fun c75 => ?_) (fun c75 => ?_)
        · refine x_iconst (pc := 82) hC dX11_then_82 ?_
          refine x_istore (L' := [_, _, _, _, _, _, _]) (pc := 83) hC dX11_then_83 rfl rfl ?_
          refine x_iload_n (pc := 85) hC dX11_then_85 rfl ?_
          refine x_if_ne (tgt := 101) (pc := 86) hC (by omega) dX11_then_86 (by decide) (fun c86 => ?_) (fun c86 => by (exfalso; omega))
          refine x_iload_n (pc := 101) hC dX11_then_101 rfl ?_
          refine x_iconst (pc := 102) hC dX11_then_102 ?_
          refine x_bipush (pc := 103) hC dX11_then_103 (by decide +kernel) ?_
          refine x_callS1 (As := [_, _, _]) (Bs := [_, _, _]) (pc := 105) hC (c_isIn E (by omega) (by omega) (by omega)) wX11_152 pX11_isIn rfl rfl (by exact Nat.le_of_ble_eq_true rfl) hR (by decide) (by decide) (by decide) rfl dX11_then_105 ?_
          refine x_ifB_ne (tgt := 114) (pc := 108) hC  dX11_then_108 (by decide) (fun c108 => ?_) (fun c108 => ?_)
          · refine x_aload_n (pc := 114) hC dX11_then_114 rfl ?_
            refine x_aload_n (pc := 115) hC dX11_then_115 rfl ?_
            refine x_getr (K := 0) (pc := 116) hC fX11_12_11 (by assumption) dX11_then_116 rfl rfl (by assumption) ?_
            refine x_callV1 (As := []) (Bs := []) (pc := 119) hC (c_onMask E hk hfs hfan) wX11_156_1 pX1_onMask (by assumption) rfl rfl (by exact Nat.le_of_ble_eq_true rfl) hR (by decide) (by decide) (by decide) rfl dX11_then_119 ?_
            refine x_iload_n (pc := 122) hC dX11_then_122 rfl ?_
            refine x_callV (As := [_, _]) (Bs := [_, _]) (pc := 123) hC (c_after E hw hz hpl (mask_in (by omega)) (n := n) (by omega) (by omega)) wX11_164_11 pX11_after (by assumption) rfl rfl (by exact Nat.le_of_ble_eq_true rfl) hR (by decide) (by decide) (by decide) rfl dX11_then_123 (fun r123 σ123 ρ123 ks123 q123 => ?_)
            obtain ⟨rfl, hnx123, hρ123, hks123, f2, f3⟩ := q123
            obtain rfl := hρ123.symm
            obtain rfl := hks123.symm
            have hpp := pass_play hpl rfl (m0F (σ 41)) n.toNat (by omega)
            rw [hpp.1] at f2
            rw [hpp.2] at f3
            obtain ⟨p1, p2, p3⟩ := play_pl hpl n.toNat (by omega)
            have p14 : playF z n.toNat 14 = z 14 := p3 14 (Or.inl (by decide))
            refine x_astore (L' := [_, _, _, _, _, _, _]) (pc := 126) hC dX11_then_126 rfl rfl ?_
            refine x_iload (pc := 128) hC dX11_then_128 rfl ?_
            refine x_if_eq (tgt := 144) (pc := 130) hC (by omega) dX11_then_130 (by decide) (fun c130 => ?_) (fun c130 => by (exfalso; omega))
            refine x_iload (pc := 144) hC dX11_then_144 rfl ?_
            refine x_if_eq (tgt := 160) (pc := 146) hC (by omega) dX11_then_146 (by decide) (fun c146 => ?_) (fun c146 => by (exfalso; omega))
            refine x_iload_n (pc := 160) hC dX11_then_160 rfl ?_
            refine x_if_ne (tgt := 172) (pc := 161) hC (by omega) dX11_then_161 (by decide) (fun c161 => ?_) (fun c161 => ?_)
            · refine x_aload (pc := 172) hC dX11_then_172 rfl ?_
              refine x_callV1 (As := []) (Bs := []) (pc := 174) hC (c_together E wn f2 p1.2.1) wX11_174_5 pX5_together (by assumption) rfl rfl (by exact Nat.le_of_ble_eq_true rfl) hR (by decide) (by decide) (by decide) rfl dX11_then_174 ?_
              refine x_ireturn hC hZ dX11_then_177 (by decide) (by decide) ?_
              refine ⟨congrArg (fun z => some (Value.int (iI z))) ?_, hnx123, rfl, rfl⟩
              unfold thenF
              rw [if_neg (by omega), if_neg (by omega), if_neg (by omega), if_pos (by omega), p14]
            · refine x_aload (pc := 164) hC dX11_then_164 rfl ?_
              refine x_callV1 (As := []) (Bs := []) (pc := 166) hC (c_greatest E wn f2 p1.2.1) wX11_171_5 pX5_greatest (by assumption) rfl rfl (by exact Nat.le_of_ble_eq_true rfl) hR (by decide) (by decide) (by decide) rfl dX11_then_166 ?_
              refine x_goto (tgt := 177) (pc := 169) hC dX11_then_169 (by decide) ?_
              refine x_ireturn hC hZ dX11_then_177 (by decide) (by decide) ?_
              refine ⟨congrArg (fun z => some (Value.int (iI z))) ?_, hnx123, rfl, rfl⟩
              unfold thenF
              rw [if_neg (by omega), if_neg (by omega), if_pos (by omega), p14]
          · refine x_bipush (pc := 111) hC dX11_then_111 (by decide +kernel) ?_
            refine x_ireturn hC hZ dX11_then_113 (by decide) (by decide) ?_
            refine ⟨congrArg (fun z => some (Value.int (iI z))) ?_, Nx.rf _, rfl, rfl⟩
            unfold thenF
            (repeat (first | rw [if_pos (by omega)] | rw [if_neg (by omega)]))
            all_goals (first | rfl | omega | assumption)
        · refine x_iconst (pc := 78) hC dX11_then_78 ?_
          refine x_goto (tgt := 83) (pc := 79) hC dX11_then_79 (by decide) ?_
          refine x_istore (L' := [_, _, _, _, _, _, _]) (pc := 83) hC dX11_then_83 rfl rfl ?_
          refine x_iload_n (pc := 85) hC dX11_then_85 rfl ?_
          refine x_if_ne (tgt := 101) (pc := 86) hC (by omega) dX11_then_86 (by decide) (fun c86 => ?_) (fun c86 => by (exfalso; omega))
          refine x_iload_n (pc := 101) hC dX11_then_101 rfl ?_
          refine x_iconst (pc := 102) hC dX11_then_102 ?_
          refine x_bipush (pc := 103) hC dX11_then_103 (by decide +kernel) ?_
          refine x_callS1 (As := [_, _, _]) (Bs := [_, _, _]) (pc := 105) hC (c_isIn E (by omega) (by omega) (by omega)) wX11_152 pX11_isIn rfl rfl (by exact Nat.le_of_ble_eq_true rfl) hR (by decide) (by decide) (by decide) rfl dX11_then_105 ?_
          refine x_ifB_ne (tgt := 114) (pc := 108) hC  dX11_then_108 (by decide) (fun c108 => ?_) (fun c108 => ?_)
          · refine x_aload_n (pc := 114) hC dX11_then_114 rfl ?_
            refine x_aload_n (pc := 115) hC dX11_then_115 rfl ?_
            refine x_getr (K := 0) (pc := 116) hC fX11_12_11 (by assumption) dX11_then_116 rfl rfl (by assumption) ?_
            refine x_callV1 (As := []) (Bs := []) (pc := 119) hC (c_onMask E hk hfs hfan) wX11_156_1 pX1_onMask (by assumption) rfl rfl (by exact Nat.le_of_ble_eq_true rfl) hR (by decide) (by decide) (by decide) rfl dX11_then_119 ?_
            refine x_iload_n (pc := 122) hC dX11_then_122 rfl ?_
            refine x_callV (As := [_, _]) (Bs := [_, _]) (pc := 123) hC (c_after E hw hz hpl (mask_in (by omega)) (n := n) (by omega) (by omega)) wX11_164_11 pX11_after (by assumption) rfl rfl (by exact Nat.le_of_ble_eq_true rfl) hR (by decide) (by decide) (by decide) rfl dX11_then_123 (fun r123 σ123 ρ123 ks123 q123 => ?_)
            obtain ⟨rfl, hnx123, hρ123, hks123, f2, f3⟩ := q123
            obtain rfl := hρ123.symm
            obtain rfl := hks123.symm
            have hpp := pass_play hpl rfl (m0F (σ 41)) n.toNat (by omega)
            rw [hpp.1] at f2
            rw [hpp.2] at f3
            obtain ⟨p1, p2, p3⟩ := play_pl hpl n.toNat (by omega)
            have p14 : playF z n.toNat 14 = z 14 := p3 14 (Or.inl (by decide))
            refine x_astore (L' := [_, _, _, _, _, _, _]) (pc := 126) hC dX11_then_126 rfl rfl ?_
            refine x_iload (pc := 128) hC dX11_then_128 rfl ?_
            refine x_if_eq (tgt := 144) (pc := 130) hC (by omega) dX11_then_130 (by decide) (fun c130 => ?_) (fun c130 => by (exfalso; omega))
            refine x_iload (pc := 144) hC dX11_then_144 rfl ?_
            refine x_if_eq (tgt := 160) (pc := 146) hC (by omega) dX11_then_146 (by decide) (fun c146 => by (exfalso; omega)) (fun c146 => ?_)
            refine x_aload (pc := 149) hC dX11_then_149 rfl ?_
            refine x_getr (K := 3) (pc := 151) hC fX11_168_5 (by assumption) dX11_then_151 rfl rfl (by assumption) ?_
            refine x_iload_n (pc := 154) hC dX11_then_154 rfl ?_
            refine x_bipush (pc := 155) hC dX11_then_155 (by decide +kernel) ?_
            refine x_isub (pc := 157) hC dX11_then_157 ?_
            refine x_iald (pc := 158) hC (by assumption) (by omega) dX11_then_158 ?_
            refine x_ireturn hC hZ dX11_then_159 (by decide) (by decide) ?_
            refine ⟨congrArg (fun z => some (Value.int (iI z))) ?_, hnx123, rfl, rfl⟩
            unfold thenF
            rw [if_neg (by omega), if_neg (by omega), if_neg (by omega), if_neg (by omega), if_neg (by omega), f3]
            exact playM_six hpl (m0_six _ _) _ (by omega) _ (by omega) (by omega)
          · refine x_bipush (pc := 111) hC dX11_then_111 (by decide +kernel) ?_
            refine x_ireturn hC hZ dX11_then_113 (by decide) (by decide) ?_
            refine ⟨congrArg (fun z => some (Value.int (iI z))) ?_, Nx.rf _, rfl, rfl⟩
            unfold thenF
            (repeat (first | rw [if_pos (by omega)] | rw [if_neg (by omega)]))
            all_goals (first | rfl | omega | assumption)
    · refine x_aload_n (pc := 26) hC dX11_then_26 rfl ?_
      refine x_getr (K := 0) (pc := 27) hC fX11_12_11 (by assumption) dX11_then_27 rfl rfl (by assumption) ?_
      refine x_getr (K := 2) (pc := 30) hC fX11_108_1 (by assumption) dX11_then_30 rfl rfl (by assumption) ?_
      refine x_iload_n (pc := 33) hC dX11_then_33 rfl ?_
      refine x_bipush (pc := 34) hC dX11_then_34 (by decide +kernel) ?_
      refine x_isub (pc := 36) hC dX11_then_36 ?_
      refine x_callV1 (As := [_]) (Bs := [_]) (pc := 37) hC (c_has E hs3 hsz hsit (by omega)) wX11_139_5 pX5_has (by assumption) rfl rfl (by exact Nat.le_of_ble_eq_true rfl) hR (by decide) (by decide) (by decide) rfl dX11_then_37 ?_
      refine x_ifB_eq (tgt := 47) (pc := 40) hC  dX11_then_40 (by decide) (fun c40 => ?_) (fun c40 => ?_)
      · refine x_iconst (pc := 47) hC dX11_then_47 ?_
        refine x_istore (L' := [_, _, _, _, _, _, _]) (pc := 48) hC dX11_then_48 rfl rfl ?_
        refine x_iload_n (pc := 50) hC dX11_then_50 rfl ?_
        refine x_bipush (pc := 51) hC dX11_then_51 (by decide +kernel) ?_
        refine x_bipush (pc := 53) hC dX11_then_53 (by decide +kernel) ?_
        refine x_callS1 (As := [_, _, _]) (Bs := [_, _, _]) (pc := 55) hC (c_isIn E (by omega) (by omega) (by omega)) wX11_152 pX11_isIn rfl rfl (by exact Nat.le_of_ble_eq_true rfl) hR (by decide) (by decide) (by decide) rfl dX11_then_55 ?_
        refine x_ifB_eq (tgt := 82) (pc := 58) hC  dX11_then_58 (by decide) (fun c58 => ?_) (fun c58 => ?_)
        · refine x_iconst (pc := 82) hC dX11_then_82 ?_
          refine x_istore (L' := [_, _, _, _, _, _, _]) (pc := 83) hC dX11_then_83 rfl rfl ?_
          refine x_iload_n (pc := 85) hC dX11_then_85 rfl ?_
          refine x_if_ne (tgt := 101) (pc := 86) hC (by omega) dX11_then_86 (by decide) (fun c86 => ?_) (fun c86 => by (exfalso; omega))
          refine x_iload_n (pc := 101) hC dX11_then_101 rfl ?_
          refine x_iconst (pc := 102) hC dX11_then_102 ?_
          refine x_bipush (pc := 103) hC dX11_then_103 (by decide +kernel) ?_
          refine x_callS1 (As := [_, _, _]) (Bs := [_, _, _]) (pc := 105) hC (c_isIn E (by omega) (by omega) (by omega)) wX11_152 pX11_isIn rfl rfl (by exact Nat.le_of_ble_eq_true rfl) hR (by decide) (by decide) (by decide) rfl dX11_then_105 ?_
          refine x_ifB_ne (tgt := 114) (pc := 108) hC  dX11_then_108 (by decide) (fun c108 => ?_) (fun c108 => ?_)
          · refine x_aload_n (pc := 114) hC dX11_then_114 rfl ?_
            refine x_aload_n (pc := 115) hC dX11_then_115 rfl ?_
            refine x_getr (K := 0) (pc := 116) hC fX11_12_11 (by assumption) dX11_then_116 rfl rfl (by assumption) ?_
            refine x_callV1 (As := []) (Bs := []) (pc := 119) hC (c_onMask E hk hfs hfan) wX11_156_1 pX1_onMask (by assumption) rfl rfl (by exact Nat.le_of_ble_eq_true rfl) hR (by decide) (by decide) (by decide) rfl dX11_then_119 ?_
            refine x_iload_n (pc := 122) hC dX11_then_122 rfl ?_
            refine x_callV (As := [_, _]) (Bs := [_, _]) (pc := 123) hC (c_after E hw hz hpl (mask_in (by omega)) (n := n) (by omega) (by omega)) wX11_164_11 pX11_after (by assumption) rfl rfl (by exact Nat.le_of_ble_eq_true rfl) hR (by decide) (by decide) (by decide) rfl dX11_then_123 (fun r123 σ123 ρ123 ks123 q123 => ?_)
            obtain ⟨rfl, hnx123, hρ123, hks123, f2, f3⟩ := q123
            obtain rfl := hρ123.symm
            obtain rfl := hks123.symm
            have hpp := pass_play hpl rfl (m0F (σ 41)) n.toNat (by omega)
            rw [hpp.1] at f2
            rw [hpp.2] at f3
            obtain ⟨p1, p2, p3⟩ := play_pl hpl n.toNat (by omega)
            have p14 : playF z n.toNat 14 = z 14 := p3 14 (Or.inl (by decide))
            refine x_astore (L' := [_, _, _, _, _, _, _]) (pc := 126) hC dX11_then_126 rfl rfl ?_
            refine x_iload (pc := 128) hC dX11_then_128 rfl ?_
            refine x_if_eq (tgt := 144) (pc := 130) hC (by omega) dX11_then_130 (by decide) (fun c130 => ?_) (fun c130 => by (exfalso; omega))
            refine x_iload (pc := 144) hC dX11_then_144 rfl ?_
            refine x_if_eq (tgt := 160) (pc := 146) hC (by omega) dX11_then_146 (by decide) (fun c146 => ?_) (fun c146 => by (exfalso; omega))
            refine x_iload_n (pc := 160) hC dX11_then_160 rfl ?_
            refine x_if_ne (tgt := 172) (pc := 161) hC (by omega) dX11_then_161 (by decide) (fun c161 => ?_) (fun c161 => ?_)
            · refine x_aload (pc := 172) hC dX11_then_172 rfl ?_
              refine x_callV1 (As := []) (Bs := []) (pc := 174) hC (c_together E wn f2 p1.2.1) wX11_174_5 pX5_together (by assumption) rfl rfl (by exact Nat.le_of_ble_eq_true rfl) hR (by decide) (by decide) (by decide) rfl dX11_then_174 ?_
              refine x_ireturn hC hZ dX11_then_177 (by decide) (by decide) ?_
              refine ⟨congrArg (fun z => some (Value.int (iI z))) ?_, hnx123, rfl, rfl⟩
              unfold thenF
              rw [if_neg (by omega), if_neg (by omega), if_neg (by omega), if_pos (by omega), p14]
            · refine x_aload (pc := 164) hC dX11_then_164 rfl ?_
              refine x_callV1 (As := []) (Bs := []) (pc := 166) hC (c_greatest E wn f2 p1.2.1) wX11_171_5 pX5_greatest (by assumption) rfl rfl (by exact Nat.le_of_ble_eq_true rfl) hR (by decide) (by decide) (by decide) rfl dX11_then_166 ?_
              refine x_goto (tgt := 177) (pc := 169) hC dX11_then_169 (by decide) ?_
              refine x_ireturn hC hZ dX11_then_177 (by decide) (by decide) ?_
              refine ⟨congrArg (fun z => some (Value.int (iI z))) ?_, hnx123, rfl, rfl⟩
              unfold thenF
              rw [if_neg (by omega), if_neg (by omega), if_pos (by omega), p14]
          · refine x_bipush (pc := 111) hC dX11_then_111 (by decide +kernel) ?_
            refine x_ireturn hC hZ dX11_then_113 (by decide) (by decide) ?_
            refine ⟨congrArg (fun z => some (Value.int (iI z))) ?_, Nx.rf _, rfl, rfl⟩
            unfold thenF
            (repeat (first | rw [if_pos (by omega)] | rw [if_neg (by omega)]))
            all_goals (first | rfl | omega | assumption)
        · refine x_aload_n (pc := 61) hC dX11_then_61 rfl ?_
          refine x_getr (K := 0) (pc := 62) hC fX11_12_11 (by assumption) dX11_then_62 rfl rfl (by assumption) ?_
          refine x_getr (K := 2) (pc := 65) hC fX11_108_1 (by assumption) dX11_then_65 rfl rfl (by assumption) ?_
          refine x_iload_n (pc := 68) hC dX11_then_68 rfl ?_
          refine x_bipush (pc := 69) hC dX11_then_69 (by decide +kernel) ?_
          refine x_isub (pc := 71) hC dX11_then_71 ?_
          refine x_callV1 (As := [_]) (Bs := [_]) (pc := 72) hC (c_has E hs3 hsz hsit (by omega)) wX11_139_5 pX5_has (by assumption) rfl rfl (by exact Nat.le_of_ble_eq_true rfl) hR (by decide) (by decide) (by decide) rfl dX11_then_72 ?_
          refine x_ifB_eq (tgt := 82) (pc := 75) hC  dX11_then_75 (by decide) (fun c75 => ?_) (fun c75 => ?_)
          · refine x_iconst (pc := 82) hC dX11_then_82 ?_
            refine x_istore (L' := [_, _, _, _, _, _, _]) (pc := 83) hC dX11_then_83 rfl rfl ?_
            refine x_iload_n (pc := 85) hC dX11_then_85 rfl ?_
            refine x_if_ne (tgt := 101) (pc := 86) hC (by omega) dX11_then_86 (by decide) (fun c86 => ?_) (fun c86 => by (exfalso; omega))
            refine x_iload_n (pc := 101) hC dX11_then_101 rfl ?_
            refine x_iconst (pc := 102) hC dX11_then_102 ?_
            refine x_bipush (pc := 103) hC dX11_then_103 (by decide +kernel) ?_
            refine x_callS1 (As := [_, _, _]) (Bs := [_, _, _]) (pc := 105) hC (c_isIn E (by omega) (by omega) (by omega)) wX11_152 pX11_isIn rfl rfl (by exact Nat.le_of_ble_eq_true rfl) hR (by decide) (by decide) (by decide) rfl dX11_then_105 ?_
            refine x_ifB_ne (tgt := 114) (pc := 108) hC  dX11_then_108 (by decide) (fun c108 => ?_) (fun c108 => ?_)
            · refine x_aload_n (pc := 114) hC dX11_then_114 rfl ?_
              refine x_aload_n (pc := 115) hC dX11_then_115 rfl ?_
              refine x_getr (K := 0) (pc := 116) hC fX11_12_11 (by assumption) dX11_then_116 rfl rfl (by assumption) ?_
              refine x_callV1 (As := []) (Bs := []) (pc := 119) hC (c_onMask E hk hfs hfan) wX11_156_1 pX1_onMask (by assumption) rfl rfl (by exact Nat.le_of_ble_eq_true rfl) hR (by decide) (by decide) (by decide) rfl dX11_then_119 ?_
              refine x_iload_n (pc := 122) hC dX11_then_122 rfl ?_
              refine x_callV (As := [_, _]) (Bs := [_, _]) (pc := 123) hC (c_after E hw hz hpl (mask_in (by omega)) (n := n) (by omega) (by omega)) wX11_164_11 pX11_after (by assumption) rfl rfl (by exact Nat.le_of_ble_eq_true rfl) hR (by decide) (by decide) (by decide) rfl dX11_then_123 (fun r123 σ123 ρ123 ks123 q123 => ?_)
              obtain ⟨rfl, hnx123, hρ123, hks123, f2, f3⟩ := q123
              obtain rfl := hρ123.symm
              obtain rfl := hks123.symm
              have hpp := pass_play hpl rfl (m0F (σ 41)) n.toNat (by omega)
              rw [hpp.1] at f2
              rw [hpp.2] at f3
              obtain ⟨p1, p2, p3⟩ := play_pl hpl n.toNat (by omega)
              have p14 : playF z n.toNat 14 = z 14 := p3 14 (Or.inl (by decide))
              refine x_astore (L' := [_, _, _, _, _, _, _]) (pc := 126) hC dX11_then_126 rfl rfl ?_
              refine x_iload (pc := 128) hC dX11_then_128 rfl ?_
              refine x_if_eq (tgt := 144) (pc := 130) hC (by omega) dX11_then_130 (by decide) (fun c130 => ?_) (fun c130 => by (exfalso; omega))
              refine x_iload (pc := 144) hC dX11_then_144 rfl ?_
              refine x_if_eq (tgt := 160) (pc := 146) hC (by omega) dX11_then_146 (by decide) (fun c146 => ?_) (fun c146 => by (exfalso; omega))
              refine x_iload_n (pc := 160) hC dX11_then_160 rfl ?_
              refine x_if_ne (tgt := 172) (pc := 161) hC (by omega) dX11_then_161 (by decide) (fun c161 => ?_) (fun c161 => ?_)
              · refine x_aload (pc := 172) hC dX11_then_172 rfl ?_
                refine x_callV1 (As := []) (Bs := []) (pc := 174) hC (c_together E wn f2 p1.2.1) wX11_174_5 pX5_together (by assumption) rfl rfl (by exact Nat.le_of_ble_eq_true rfl) hR (by decide) (by decide) (by decide) rfl dX11_then_174 ?_
                refine x_ireturn hC hZ dX11_then_177 (by decide) (by decide) ?_
                refine ⟨congrArg (fun z => some (Value.int (iI z))) ?_, hnx123, rfl, rfl⟩
                unfold thenF
                rw [if_neg (by omega), if_neg (by omega), if_neg (by omega), if_pos (by omega), p14]
              · refine x_aload (pc := 164) hC dX11_then_164 rfl ?_
                refine x_callV1 (As := []) (Bs := []) (pc := 166) hC (c_greatest E wn f2 p1.2.1) wX11_171_5 pX5_greatest (by assumption) rfl rfl (by exact Nat.le_of_ble_eq_true rfl) hR (by decide) (by decide) (by decide) rfl dX11_then_166 ?_
                refine x_goto (tgt := 177) (pc := 169) hC dX11_then_169 (by decide) ?_
                refine x_ireturn hC hZ dX11_then_177 (by decide) (by decide) ?_
                refine ⟨congrArg (fun z => some (Value.int (iI z))) ?_, hnx123, rfl, rfl⟩
                unfold thenF
                rw [if_neg (by omega), if_neg (by omega), if_pos (by omega), p14]
            · refine x_bipush (pc := 111) hC dX11_then_111 (by decide +kernel) ?_
              refine x_ireturn hC hZ dX11_then_113 (by decide) (by decide) ?_
              refine ⟨congrArg (fun z => some (Value.int (iI z))) ?_, Nx.rf _, rfl, rfl⟩
              unfold thenF
              (repeat (first | rw [if_pos (by omega)] | rw [if_neg (by omega)]))
              all_goals (first | rfl | omega | assumption)
          · refine x_iconst (pc := 78) hC dX11_then_78 ?_
            refine x_goto (tgt := 83) (pc := 79) hC dX11_then_79 (by decide) ?_
            refine x_istore (L' := [_, _, _, _, _, _, _]) (pc := 83) hC dX11_then_83 rfl rfl ?_
            refine x_iload_n (pc := 85) hC dX11_then_85 rfl ?_
            refine x_if_ne (tgt := 101) (pc := 86) hC (by omega) dX11_then_86 (by decide) (fun c86 => ?_) (fun c86 => by (exfalso; omega))
            refine x_iload_n (pc := 101) hC dX11_then_101 rfl ?_
            refine x_iconst (pc := 102) hC dX11_then_102 ?_
            refine x_bipush (pc := 103) hC dX11_then_103 (by decide +kernel) ?_
            refine x_callS1 (As := [_, _, _]) (Bs := [_, _, _]) (pc := 105) hC (c_isIn E (by omega) (by omega) (by omega)) wX11_152 pX11_isIn rfl rfl (by exact Nat.le_of_ble_eq_true rfl) hR (by decide) (by decide) (by decide) rfl dX11_then_105 ?_
            refine x_ifB_ne (tgt := 114) (pc := 108) hC  dX11_then_108 (by decide) (fun c108 => ?_) (fun c108 => ?_)
            · refine x_aload_n (pc := 114) hC dX11_then_114 rfl ?_
              refine x_aload_n (pc := 115) hC dX11_then_115 rfl ?_
              refine x_getr (K := 0) (pc := 116) hC fX11_12_11 (by assumption) dX11_then_116 rfl rfl (by assumption) ?_
              refine x_callV1 (As := []) (Bs := []) (pc := 119) hC (c_onMask E hk hfs hfan) wX11_156_1 pX1_onMask (by assumption) rfl rfl (by exact Nat.le_of_ble_eq_true rfl) hR (by decide) (by decide) (by decide) rfl dX11_then_119 ?_
              refine x_iload_n (pc := 122) hC dX11_then_122 rfl ?_
              refine x_callV (As := [_, _]) (Bs := [_, _]) (pc := 123) hC (c_after E hw hz hpl (mask_in (by omega)) (n := n) (by omega) (by omega)) wX11_164_11 pX11_after (by assumption) rfl rfl (by exact Nat.le_of_ble_eq_true rfl) hR (by decide) (by decide) (by decide) rfl dX11_then_123 (fun r123 σ123 ρ123 ks123 q123 => ?_)
              obtain ⟨rfl, hnx123, hρ123, hks123, f2, f3⟩ := q123
              obtain rfl := hρ123.symm
              obtain rfl := hks123.symm
              have hpp := pass_play hpl rfl (m0F (σ 41)) n.toNat (by omega)
              rw [hpp.1] at f2
              rw [hpp.2] at f3
              obtain ⟨p1, p2, p3⟩ := play_pl hpl n.toNat (by omega)
              have p14 : playF z n.toNat 14 = z 14 := p3 14 (Or.inl (by decide))
              refine x_astore (L' := [_, _, _, _, _, _, _]) (pc := 126) hC dX11_then_126 rfl rfl ?_
              refine x_iload (pc := 128) hC dX11_then_128 rfl ?_
              refine x_if_eq (tgt := 144) (pc := 130) hC (by omega) dX11_then_130 (by decide) (fun c130 => ?_) (fun c130 => by (exfalso; omega))
              refine x_iload (pc := 144) hC dX11_then_144 rfl ?_
              refine x_if_eq (tgt := 160) (pc := 146) hC (by omega) dX11_then_146 (by decide) (fun c146 => by (exfalso; omega)) (fun c146 => ?_)
              refine x_aload (pc := 149) hC dX11_then_149 rfl ?_
              refine x_getr (K := 3) (pc := 151) hC fX11_168_5 (by assumption) dX11_then_151 rfl rfl (by assumption) ?_
              refine x_iload_n (pc := 154) hC dX11_then_154 rfl ?_
              refine x_bipush (pc := 155) hC dX11_then_155 (by decide +kernel) ?_
              refine x_isub (pc := 157) hC dX11_then_157 ?_
              refine x_iald (pc := 158) hC (by assumption) (by omega) dX11_then_158 ?_
              refine x_ireturn hC hZ dX11_then_159 (by decide) (by decide) ?_
              refine ⟨congrArg (fun z => some (Value.int (iI z))) ?_, hnx123, rfl, rfl⟩
              unfold thenF
              rw [if_neg (by omega), if_neg (by omega), if_neg (by omega), if_neg (by omega), if_neg (by omega), f3]
              exact playM_six hpl (m0_six _ _) _ (by omega) _ (by omega) (by omega)
            · refine x_bipush (pc := 111) hC dX11_then_111 (by decide +kernel) ?_
              refine x_ireturn hC hZ dX11_then_113 (by decide) (by decide) ?_
              refine ⟨congrArg (fun z => some (Value.int (iI z))) ?_, Nx.rf _, rfl, rfl⟩
              unfold thenF
              (repeat (first | rw [if_pos (by omega)] | rw [if_neg (by omega)]))
              all_goals (first | rfl | omega | assumption)
      · refine x_iconst (pc := 43) hC dX11_then_43 ?_
        refine x_goto (tgt := 48) (pc := 44) hC dX11_then_44 (by decide) ?_
        refine x_istore (L' := [_, _, _, _, _, _, _]) (pc := 48) hC dX11_then_48 rfl rfl ?_
        refine x_iload_n (pc := 50) hC dX11_then_50 rfl ?_
        refine x_bipush (pc := 51) hC dX11_then_51 (by decide +kernel) ?_
        refine x_bipush (pc := 53) hC dX11_then_53 (by decide +kernel) ?_
        refine x_callS1 (As := [_, _, _]) (Bs := [_, _, _]) (pc := 55) hC (c_isIn E (by omega) (by omega) (by omega)) wX11_152 pX11_isIn rfl rfl (by exact Nat.le_of_ble_eq_true rfl) hR (by decide) (by decide) (by decide) rfl dX11_then_55 ?_
        refine x_ifB_eq (tgt := 82) (pc := 58) hC  dX11_then_58 (by decide) (fun c58 => ?_) (fun c58 => ?_)
        · refine x_iconst (pc := 82) hC dX11_then_82 ?_
          refine x_istore (L' := [_, _, _, _, _, _, _]) (pc := 83) hC dX11_then_83 rfl rfl ?_
          refine x_iload_n (pc := 85) hC dX11_then_85 rfl ?_
          refine x_if_ne (tgt := 101) (pc := 86) hC (by omega) dX11_then_86 (by decide) (fun c86 => ?_) (fun c86 => by (exfalso; omega))
          refine x_iload_n (pc := 101) hC dX11_then_101 rfl ?_
          refine x_iconst (pc := 102) hC dX11_then_102 ?_
          refine x_bipush (pc := 103) hC dX11_then_103 (by decide +kernel) ?_
          refine x_callS1 (As := [_, _, _]) (Bs := [_, _, _]) (pc := 105) hC (c_isIn E (by omega) (by omega) (by omega)) wX11_152 pX11_isIn rfl rfl (by exact Nat.le_of_ble_eq_true rfl) hR (by decide) (by decide) (by decide) rfl dX11_then_105 ?_
          refine x_ifB_ne (tgt := 114) (pc := 108) hC  dX11_then_108 (by decide) (fun c108 => ?_) (fun c108 => ?_)
          · refine x_aload_n (pc := 114) hC dX11_then_114 rfl ?_
            refine x_aload_n (pc := 115) hC dX11_then_115 rfl ?_
            refine x_getr (K := 0) (pc := 116) hC fX11_12_11 (by assumption) dX11_then_116 rfl rfl (by assumption) ?_
            refine x_callV1 (As := []) (Bs := []) (pc := 119) hC (c_onMask E hk hfs hfan) wX11_156_1 pX1_onMask (by assumption) rfl rfl (by exact Nat.le_of_ble_eq_true rfl) hR (by decide) (by decide) (by decide) rfl dX11_then_119 ?_
            refine x_iload_n (pc := 122) hC dX11_then_122 rfl ?_
            refine x_callV (As := [_, _]) (Bs := [_, _]) (pc := 123) hC (c_after E hw hz hpl (mask_in (by omega)) (n := n) (by omega) (by omega)) wX11_164_11 pX11_after (by assumption) rfl rfl (by exact Nat.le_of_ble_eq_true rfl) hR (by decide) (by decide) (by decide) rfl dX11_then_123 (fun r123 σ123 ρ123 ks123 q123 => ?_)
            obtain ⟨rfl, hnx123, hρ123, hks123, f2, f3⟩ := q123
            obtain rfl := hρ123.symm
            obtain rfl := hks123.symm
            have hpp := pass_play hpl rfl (m0F (σ 41)) n.toNat (by omega)
            rw [hpp.1] at f2
            rw [hpp.2] at f3
            obtain ⟨p1, p2, p3⟩ := play_pl hpl n.toNat (by omega)
            have p14 : playF z n.toNat 14 = z 14 := p3 14 (Or.inl (by decide))
            refine x_astore (L' := [_, _, _, _, _, _, _]) (pc := 126) hC dX11_then_126 rfl rfl ?_
            refine x_iload (pc := 128) hC dX11_then_128 rfl ?_
            refine x_if_eq (tgt := 144) (pc := 130) hC (by omega) dX11_then_130 (by decide) (fun c130 => by (exfalso; omega)) (fun c130 => ?_)
            refine x_aload (pc := 133) hC dX11_then_133 rfl ?_
            refine x_getr (K := 1) (pc := 135) hC fX11_133_5 (by assumption) dX11_then_135 rfl rfl (by assumption) ?_
            refine x_iload_n (pc := 138) hC dX11_then_138 rfl ?_
            refine x_bipush (pc := 139) hC dX11_then_139 (by decide +kernel) ?_
            refine x_isub (pc := 141) hC dX11_then_141 ?_
            refine x_iald (pc := 142) hC (by assumption) (by omega) dX11_then_142 ?_
            refine x_ireturn hC hZ dX11_then_143 (by decide) (by decide) ?_
            refine ⟨congrArg (fun z => some (Value.int (iI z))) ?_, hnx123, rfl, rfl⟩
            unfold thenF
            rw [if_neg (by omega), if_neg (by omega), if_neg (by omega), if_neg (by omega), if_pos (by omega), show 1 + w - 10 = 1 + (w - 10) by omega]
            exact (f2.2 (w - 10) (by omega) (by omega)).2.1
          · refine x_bipush (pc := 111) hC dX11_then_111 (by decide +kernel) ?_
            refine x_ireturn hC hZ dX11_then_113 (by decide) (by decide) ?_
            refine ⟨congrArg (fun z => some (Value.int (iI z))) ?_, Nx.rf _, rfl, rfl⟩
            unfold thenF
            (repeat (first | rw [if_pos (by omega)] | rw [if_neg (by omega)]))
            all_goals (first | rfl | omega | assumption)
        · refine x_aload_n (pc := 61) hC dX11_then_61 rfl ?_
          refine x_getr (K := 0) (pc := 62) hC fX11_12_11 (by assumption) dX11_then_62 rfl rfl (by assumption) ?_
          refine x_getr (K := 2) (pc := 65) hC fX11_108_1 (by assumption) dX11_then_65 rfl rfl (by assumption) ?_
          refine x_iload_n (pc := 68) hC dX11_then_68 rfl ?_
          refine x_bipush (pc := 69) hC dX11_then_69 (by decide +kernel) ?_
          refine x_isub (pc := 71) hC dX11_then_71 ?_
          refine x_callV1 (As := [_]) (Bs := [_]) (pc := 72) hC (c_has E hs3 hsz hsit (by omega)) wX11_139_5 pX5_has (by assumption) rfl rfl (by exact Nat.le_of_ble_eq_true rfl) hR (by decide) (by decide) (by decide) rfl dX11_then_72 ?_
          refine x_ifB_eq (tgt := 82) (pc := 75) hC  dX11_then_75 (by decide) (fun c75 => ?_) (fun c75 => ?_)
          · refine x_iconst (pc := 82) hC dX11_then_82 ?_
            refine x_istore (L' := [_, _, _, _, _, _, _]) (pc := 83) hC dX11_then_83 rfl rfl ?_
            refine x_iload_n (pc := 85) hC dX11_then_85 rfl ?_
            refine x_if_ne (tgt := 101) (pc := 86) hC (by omega) dX11_then_86 (by decide) (fun c86 => ?_) (fun c86 => by (exfalso; omega))
            refine x_iload_n (pc := 101) hC dX11_then_101 rfl ?_
            refine x_iconst (pc := 102) hC dX11_then_102 ?_
            refine x_bipush (pc := 103) hC dX11_then_103 (by decide +kernel) ?_
            refine x_callS1 (As := [_, _, _]) (Bs := [_, _, _]) (pc := 105) hC (c_isIn E (by omega) (by omega) (by omega)) wX11_152 pX11_isIn rfl rfl (by exact Nat.le_of_ble_eq_true rfl) hR (by decide) (by decide) (by decide) rfl dX11_then_105 ?_
            refine x_ifB_ne (tgt := 114) (pc := 108) hC  dX11_then_108 (by decide) (fun c108 => ?_) (fun c108 => ?_)
            · refine x_aload_n (pc := 114) hC dX11_then_114 rfl ?_
              refine x_aload_n (pc := 115) hC dX11_then_115 rfl ?_
              refine x_getr (K := 0) (pc := 116) hC fX11_12_11 (by assumption) dX11_then_116 rfl rfl (by assumption) ?_
              refine x_callV1 (As := []) (Bs := []) (pc := 119) hC (c_onMask E hk hfs hfan) wX11_156_1 pX1_onMask (by assumption) rfl rfl (by exact Nat.le_of_ble_eq_true rfl) hR (by decide) (by decide) (by decide) rfl dX11_then_119 ?_
              refine x_iload_n (pc := 122) hC dX11_then_122 rfl ?_
              refine x_callV (As := [_, _]) (Bs := [_, _]) (pc := 123) hC (c_after E hw hz hpl (mask_in (by omega)) (n := n) (by omega) (by omega)) wX11_164_11 pX11_after (by assumption) rfl rfl (by exact Nat.le_of_ble_eq_true rfl) hR (by decide) (by decide) (by decide) rfl dX11_then_123 (fun r123 σ123 ρ123 ks123 q123 => ?_)
              obtain ⟨rfl, hnx123, hρ123, hks123, f2, f3⟩ := q123
              obtain rfl := hρ123.symm
              obtain rfl := hks123.symm
              have hpp := pass_play hpl rfl (m0F (σ 41)) n.toNat (by omega)
              rw [hpp.1] at f2
              rw [hpp.2] at f3
              obtain ⟨p1, p2, p3⟩ := play_pl hpl n.toNat (by omega)
              have p14 : playF z n.toNat 14 = z 14 := p3 14 (Or.inl (by decide))
              refine x_astore (L' := [_, _, _, _, _, _, _]) (pc := 126) hC dX11_then_126 rfl rfl ?_
              refine x_iload (pc := 128) hC dX11_then_128 rfl ?_
              refine x_if_eq (tgt := 144) (pc := 130) hC (by omega) dX11_then_130 (by decide) (fun c130 => by (exfalso; omega)) (fun c130 => ?_)
              refine x_aload (pc := 133) hC dX11_then_133 rfl ?_
              refine x_getr (K := 1) (pc := 135) hC fX11_133_5 (by assumption) dX11_then_135 rfl rfl (by assumption) ?_
              refine x_iload_n (pc := 138) hC dX11_then_138 rfl ?_
              refine x_bipush (pc := 139) hC dX11_then_139 (by decide +kernel) ?_
              refine x_isub (pc := 141) hC dX11_then_141 ?_
              refine x_iald (pc := 142) hC (by assumption) (by omega) dX11_then_142 ?_
              refine x_ireturn hC hZ dX11_then_143 (by decide) (by decide) ?_
              refine ⟨congrArg (fun z => some (Value.int (iI z))) ?_, hnx123, rfl, rfl⟩
              unfold thenF
              rw [if_neg (by omega), if_neg (by omega), if_neg (by omega), if_neg (by omega), if_pos (by omega), show 1 + w - 10 = 1 + (w - 10) by omega]
              exact (f2.2 (w - 10) (by omega) (by omega)).2.1
            · refine x_bipush (pc := 111) hC dX11_then_111 (by decide +kernel) ?_
              refine x_ireturn hC hZ dX11_then_113 (by decide) (by decide) ?_
              refine ⟨congrArg (fun z => some (Value.int (iI z))) ?_, Nx.rf _, rfl, rfl⟩
              unfold thenF
              (repeat (first | rw [if_pos (by omega)] | rw [if_neg (by omega)]))
              all_goals (first | rfl | omega | assumption)
          · refine x_iconst (pc := 78) hC dX11_then_78 ?_
            refine x_goto (tgt := 83) (pc := 79) hC dX11_then_79 (by decide) ?_
            refine x_istore (L' := [_, _, _, _, _, _, _]) (pc := 83) hC dX11_then_83 rfl rfl ?_
            refine x_iload_n (pc := 85) hC dX11_then_85 rfl ?_
            refine x_if_ne (tgt := 101) (pc := 86) hC (by omega) dX11_then_86 (by decide) (fun c86 => ?_) (fun c86 => by (exfalso; omega))
            refine x_iload_n (pc := 101) hC dX11_then_101 rfl ?_
            refine x_iconst (pc := 102) hC dX11_then_102 ?_
            refine x_bipush (pc := 103) hC dX11_then_103 (by decide +kernel) ?_
            refine x_callS1 (As := [_, _, _]) (Bs := [_, _, _]) (pc := 105) hC (c_isIn E (by omega) (by omega) (by omega)) wX11_152 pX11_isIn rfl rfl (by exact Nat.le_of_ble_eq_true rfl) hR (by decide) (by decide) (by decide) rfl dX11_then_105 ?_
            refine x_ifB_ne (tgt := 114) (pc := 108) hC  dX11_then_108 (by decide) (fun c108 => ?_) (fun c108 => ?_)
            · refine x_aload_n (pc := 114) hC dX11_then_114 rfl ?_
              refine x_aload_n (pc := 115) hC dX11_then_115 rfl ?_
              refine x_getr (K := 0) (pc := 116) hC fX11_12_11 (by assumption) dX11_then_116 rfl rfl (by assumption) ?_
              refine x_callV1 (As := []) (Bs := []) (pc := 119) hC (c_onMask E hk hfs hfan) wX11_156_1 pX1_onMask (by assumption) rfl rfl (by exact Nat.le_of_ble_eq_true rfl) hR (by decide) (by decide) (by decide) rfl dX11_then_119 ?_
              refine x_iload_n (pc := 122) hC dX11_then_122 rfl ?_
              refine x_callV (As := [_, _]) (Bs := [_, _]) (pc := 123) hC (c_after E hw hz hpl (mask_in (by omega)) (n := n) (by omega) (by omega)) wX11_164_11 pX11_after (by assumption) rfl rfl (by exact Nat.le_of_ble_eq_true rfl) hR (by decide) (by decide) (by decide) rfl dX11_then_123 (fun r123 σ123 ρ123 ks123 q123 => ?_)
              obtain ⟨rfl, hnx123, hρ123, hks123, f2, f3⟩ := q123
              obtain rfl := hρ123.symm
              obtain rfl := hks123.symm
              have hpp := pass_play hpl rfl (m0F (σ 41)) n.toNat (by omega)
              rw [hpp.1] at f2
              rw [hpp.2] at f3
              obtain ⟨p1, p2, p3⟩ := play_pl hpl n.toNat (by omega)
              have p14 : playF z n.toNat 14 = z 14 := p3 14 (Or.inl (by decide))
              refine x_astore (L' := [_, _, _, _, _, _, _]) (pc := 126) hC dX11_then_126 rfl rfl ?_
              refine x_iload (pc := 128) hC dX11_then_128 rfl ?_
              refine x_if_eq (tgt := 144) (pc := 130) hC (by omega) dX11_then_130 (by decide) (fun c130 => by (exfalso; omega)) (fun c130 => ?_)
              refine x_aload (pc := 133) hC dX11_then_133 rfl ?_
              refine x_getr (K := 1) (pc := 135) hC fX11_133_5 (by assumption) dX11_then_135 rfl rfl (by assumption) ?_
              refine x_iload_n (pc := 138) hC dX11_then_138 rfl ?_
              refine x_bipush (pc := 139) hC dX11_then_139 (by decide +kernel) ?_
              refine x_isub (pc := 141) hC dX11_then_141 ?_
              refine x_iald (pc := 142) hC (by assumption) (by omega) dX11_then_142 ?_
              refine x_ireturn hC hZ dX11_then_143 (by decide) (by decide) ?_
              refine ⟨congrArg (fun z => some (Value.int (iI z))) ?_, hnx123, rfl, rfl⟩
              unfold thenF
              rw [if_neg (by omega), if_neg (by omega), if_neg (by omega), if_neg (by omega), if_pos (by omega), show 1 + w - 10 = 1 + (w - 10) by omega]
              exact (f2.2 (w - 10) (by omega) (by omega)).2.1
            · refine x_bipush (pc := 111) hC dX11_then_111 (by decide +kernel) ?_
              refine x_ireturn hC hZ dX11_then_113 (by decide) (by decide) ?_
              refine ⟨congrArg (fun z => some (Value.int (iI z))) ?_, Nx.rf _, rfl, rfl⟩
              unfold thenF
              (repeat (first | rw [if_pos (by omega)] | rw [if_neg (by omega)]))
              all_goals (first | rfl | omega | assumption)
  · refine x_iload_n (pc := 4) hC dX11_then_4 rfl ?_
    refine x_iconst (pc := 5) hC dX11_then_5 ?_
    refine x_icmp_ne (tgt := 13) (pc := 6) hC (by omega) (by omega) dX11_then_6 (by decide) (fun c6 => ?_) (fun c6 => ?_)
    · refine x_iconst (pc := 13) hC dX11_then_13 ?_
      refine x_istore_n (L' := [_, _, _, _, _, _, _]) (pc := 14) hC dX11_then_14 rfl rfl ?_
      refine x_iload_n (pc := 15) hC dX11_then_15 rfl ?_
      refine x_bipush (pc := 16) hC dX11_then_16 (by decide +kernel) ?_
      refine x_bipush (pc := 18) hC dX11_then_18 (by decide +kernel) ?_
      refine x_callS1 (As := [_, _, _]) (Bs := [_, _, _]) (pc := 20) hC (c_isIn E (by omega) (by omega) (by omega)) wX11_152 pX11_isIn rfl rfl (by exact Nat.le_of_ble_eq_true rfl) hR (by decide) (by decide) (by decide) rfl dX11_then_20 ?_
      refine x_ifB_eq (tgt := 47) (pc := 23) hC  dX11_then_23 (by decide) (fun c23 => ?_) (fun c23 => ?_)
      · refine x_iconst (pc := 47) hC dX11_then_47 ?_
        refine x_istore (L' := [_, _, _, _, _, _, _]) (pc := 48) hC dX11_then_48 rfl rfl ?_
        refine x_iload_n (pc := 50) hC dX11_then_50 rfl ?_
        refine x_bipush (pc := 51) hC dX11_then_51 (by decide +kernel) ?_
        refine x_bipush (pc := 53) hC dX11_then_53 (by decide +kernel) ?_
        refine x_callS1 (As := [_, _, _]) (Bs := [_, _, _]) (pc := 55) hC (c_isIn E (by omega) (by omega) (by omega)) wX11_152 pX11_isIn rfl rfl (by exact Nat.le_of_ble_eq_true rfl) hR (by decide) (by decide) (by decide) rfl dX11_then_55 ?_
        refine x_ifB_eq (tgt := 82) (pc := 58) hC  dX11_then_58 (by decide) (fun c58 => ?_) (fun c58 => ?_)
        · refine x_iconst (pc := 82) hC dX11_then_82 ?_
          refine x_istore (L' := [_, _, _, _, _, _, _]) (pc := 83) hC dX11_then_83 rfl rfl ?_
          refine x_iload_n (pc := 85) hC dX11_then_85 rfl ?_
          refine x_if_ne (tgt := 101) (pc := 86) hC (by omega) dX11_then_86 (by decide) (fun c86 => by (exfalso; omega)) (fun c86 => ?_)
          refine x_iload (pc := 89) hC dX11_then_89 rfl ?_
          refine x_if_ne (tgt := 101) (pc := 91) hC (by omega) dX11_then_91 (by decide) (fun c91 => by (exfalso; omega)) (fun c91 => ?_)
          refine x_iload (pc := 94) hC dX11_then_94 rfl ?_
          refine x_if_ne (tgt := 101) (pc := 96) hC (by omega) dX11_then_96 (by decide) (fun c96 => by (exfalso; omega)) (fun c96 => ?_)
          refine x_iconst (pc := 99) hC dX11_then_99 ?_
          refine x_ireturn hC hZ dX11_then_100 (by decide) (by decide) ?_
          refine ⟨congrArg (fun z => some (Value.int (iI z))) ?_, Nx.rf _, rfl, rfl⟩
          unfold thenF
          (repeat (first | rw [if_pos (by omega)] | rw [if_neg (by omega)]))
          all_goals (first | rfl | omega | assumption)
        · refine x_aload_n (pc := 61) hC dX11_then_61 rfl ?_
          refine x_getr (K := 0) (pc := 62) hC fX11_12_11 (by assumption) dX11_then_62 rfl rfl (by assumption) ?_
          refine x_getr (K := 2) (pc := 65) hC fX11_108_1 (by assumption) dX11_then_65 rfl rfl (by assumption) ?_
          refine x_iload_n (pc := 68) hC dX11_then_68 rfl ?_
          refine x_bipush (pc := 69) hC dX11_then_69 (by decide +kernel) ?_
          refine x_isub (pc := 71) hC dX11_then_71 ?_
          refine x_callV1 (As := [_]) (Bs := [_]) (pc := 72) hC (c_has E hs3 hsz hsit (by omega)) wX11_139_5 pX5_has (by assumption) rfl rfl (by exact Nat.le_of_ble_eq_true rfl) hR (by decide) (by decide) (by decide) rfl dX11_then_72 ?_
          refine x_ifB_eq (tgt := 82) (pc := 75) hC  dX11_then_75 (by decide) (fun c75 => ?_) (fun c75 => ?_)
          · refine x_iconst (pc := 82) hC dX11_then_82 ?_
            refine x_istore (L' := [_, _, _, _, _, _, _]) (pc := 83) hC dX11_then_83 rfl rfl ?_
            refine x_iload_n (pc := 85) hC dX11_then_85 rfl ?_
            refine x_if_ne (tgt := 101) (pc := 86) hC (by omega) dX11_then_86 (by decide) (fun c86 => by (exfalso; omega)) (fun c86 => ?_)
            refine x_iload (pc := 89) hC dX11_then_89 rfl ?_
            refine x_if_ne (tgt := 101) (pc := 91) hC (by omega) dX11_then_91 (by decide) (fun c91 => by (exfalso; omega)) (fun c91 => ?_)
            refine x_iload (pc := 94) hC dX11_then_94 rfl ?_
            refine x_if_ne (tgt := 101) (pc := 96) hC (by omega) dX11_then_96 (by decide) (fun c96 => by (exfalso; omega)) (fun c96 => ?_)
            refine x_iconst (pc := 99) hC dX11_then_99 ?_
            refine x_ireturn hC hZ dX11_then_100 (by decide) (by decide) ?_
            refine ⟨congrArg (fun z => some (Value.int (iI z))) ?_, Nx.rf _, rfl, rfl⟩
            unfold thenF
            (repeat (first | rw [if_pos (by omega)] | rw [if_neg (by omega)]))
            all_goals (first | rfl | omega | assumption)
          · refine x_iconst (pc := 78) hC dX11_then_78 ?_
            refine x_goto (tgt := 83) (pc := 79) hC dX11_then_79 (by decide) ?_
            refine x_istore (L' := [_, _, _, _, _, _, _]) (pc := 83) hC dX11_then_83 rfl rfl ?_
            refine x_iload_n (pc := 85) hC dX11_then_85 rfl ?_
            refine x_if_ne (tgt := 101) (pc := 86) hC (by omega) dX11_then_86 (by decide) (fun c86 => by (exfalso; omega)) (fun c86 => ?_)
            refine x_iload (pc := 89) hC dX11_then_89 rfl ?_
            refine x_if_ne (tgt := 101) (pc := 91) hC (by omega) dX11_then_91 (by decide) (fun c91 => by (exfalso; omega)) (fun c91 => ?_)
            refine x_iload (pc := 94) hC dX11_then_94 rfl ?_
            refine x_if_ne (tgt := 101) (pc := 96) hC (by omega) dX11_then_96 (by decide) (fun c96 => ?_) (fun c96 => by (exfalso; omega))
            refine x_iload_n (pc := 101) hC dX11_then_101 rfl ?_
            refine x_iconst (pc := 102) hC dX11_then_102 ?_
            refine x_bipush (pc := 103) hC dX11_then_103 (by decide +kernel) ?_
            refine x_callS1 (As := [_, _, _]) (Bs := [_, _, _]) (pc := 105) hC (c_isIn E (by omega) (by omega) (by omega)) wX11_152 pX11_isIn rfl rfl (by exact Nat.le_of_ble_eq_true rfl) hR (by decide) (by decide) (by decide) rfl dX11_then_105 ?_
            refine x_ifB_ne (tgt := 114) (pc := 108) hC  dX11_then_108 (by decide) (fun c108 => ?_) (fun c108 => ?_)
            · refine x_aload_n (pc := 114) hC dX11_then_114 rfl ?_
              refine x_aload_n (pc := 115) hC dX11_then_115 rfl ?_
              refine x_getr (K := 0) (pc := 116) hC fX11_12_11 (by assumption) dX11_then_116 rfl rfl (by assumption) ?_
              refine x_callV1 (As := []) (Bs := []) (pc := 119) hC (c_onMask E hk hfs hfan) wX11_156_1 pX1_onMask (by assumption) rfl rfl (by exact Nat.le_of_ble_eq_true rfl) hR (by decide) (by decide) (by decide) rfl dX11_then_119 ?_
              refine x_iload_n (pc := 122) hC dX11_then_122 rfl ?_
              refine x_callV (As := [_, _]) (Bs := [_, _]) (pc := 123) hC (c_after E hw hz hpl (mask_in (by omega)) (n := n) (by omega) (by omega)) wX11_164_11 pX11_after (by assumption) rfl rfl (by exact Nat.le_of_ble_eq_true rfl) hR (by decide) (by decide) (by decide) rfl dX11_then_123 (fun r123 σ123 ρ123 ks123 q123 => ?_)
              obtain ⟨rfl, hnx123, hρ123, hks123, f2, f3⟩ := q123
              obtain rfl := hρ123.symm
              obtain rfl := hks123.symm
              have hpp := pass_play hpl rfl (m0F (σ 41)) n.toNat (by omega)
              rw [hpp.1] at f2
              rw [hpp.2] at f3
              obtain ⟨p1, p2, p3⟩ := play_pl hpl n.toNat (by omega)
              have p14 : playF z n.toNat 14 = z 14 := p3 14 (Or.inl (by decide))
              refine x_astore (L' := [_, _, _, _, _, _, _]) (pc := 126) hC dX11_then_126 rfl rfl ?_
              refine x_iload (pc := 128) hC dX11_then_128 rfl ?_
              refine x_if_eq (tgt := 144) (pc := 130) hC (by omega) dX11_then_130 (by decide) (fun c130 => ?_) (fun c130 => by (exfalso; omega))
              refine x_iload (pc := 144) hC dX11_then_144 rfl ?_
              refine x_if_eq (tgt := 160) (pc := 146) hC (by omega) dX11_then_146 (by decide) (fun c146 => by (exfalso; omega)) (fun c146 => ?_)
              refine x_aload (pc := 149) hC dX11_then_149 rfl ?_
              refine x_getr (K := 3) (pc := 151) hC fX11_168_5 (by assumption) dX11_then_151 rfl rfl (by assumption) ?_
              refine x_iload_n (pc := 154) hC dX11_then_154 rfl ?_
              refine x_bipush (pc := 155) hC dX11_then_155 (by decide +kernel) ?_
              refine x_isub (pc := 157) hC dX11_then_157 ?_
              refine x_iald (pc := 158) hC (by assumption) (by omega) dX11_then_158 ?_
              refine x_ireturn hC hZ dX11_then_159 (by decide) (by decide) ?_
              refine ⟨congrArg (fun z => some (Value.int (iI z))) ?_, hnx123, rfl, rfl⟩
              unfold thenF
              rw [if_neg (by omega), if_neg (by omega), if_neg (by omega), if_neg (by omega), if_neg (by omega), f3]
              exact playM_six hpl (m0_six _ _) _ (by omega) _ (by omega) (by omega)
            · refine x_bipush (pc := 111) hC dX11_then_111 (by decide +kernel) ?_
              refine x_ireturn hC hZ dX11_then_113 (by decide) (by decide) ?_
              refine ⟨congrArg (fun z => some (Value.int (iI z))) ?_, Nx.rf _, rfl, rfl⟩
              unfold thenF
              (repeat (first | rw [if_pos (by omega)] | rw [if_neg (by omega)]))
              all_goals (first | rfl | omega | assumption)
      · refine x_aload_n (pc := 26) hC dX11_then_26 rfl ?_
        refine x_getr (K := 0) (pc := 27) hC fX11_12_11 (by assumption) dX11_then_27 rfl rfl (by assumption) ?_
        refine x_getr (K := 2) (pc := 30) hC fX11_108_1 (by assumption) dX11_then_30 rfl rfl (by assumption) ?_
        refine x_iload_n (pc := 33) hC dX11_then_33 rfl ?_
        refine x_bipush (pc := 34) hC dX11_then_34 (by decide +kernel) ?_
        refine x_isub (pc := 36) hC dX11_then_36 ?_
        refine x_callV1 (As := [_]) (Bs := [_]) (pc := 37) hC (c_has E hs3 hsz hsit (by omega)) wX11_139_5 pX5_has (by assumption) rfl rfl (by exact Nat.le_of_ble_eq_true rfl) hR (by decide) (by decide) (by decide) rfl dX11_then_37 ?_
        refine x_ifB_eq (tgt := 47) (pc := 40) hC  dX11_then_40 (by decide) (fun c40 => ?_) (fun c40 => ?_)
        · refine x_iconst (pc := 47) hC dX11_then_47 ?_
          refine x_istore (L' := [_, _, _, _, _, _, _]) (pc := 48) hC dX11_then_48 rfl rfl ?_
          refine x_iload_n (pc := 50) hC dX11_then_50 rfl ?_
          refine x_bipush (pc := 51) hC dX11_then_51 (by decide +kernel) ?_
          refine x_bipush (pc := 53) hC dX11_then_53 (by decide +kernel) ?_
          refine x_callS1 (As := [_, _, _]) (Bs := [_, _, _]) (pc := 55) hC (c_isIn E (by omega) (by omega) (by omega)) wX11_152 pX11_isIn rfl rfl (by exact Nat.le_of_ble_eq_true rfl) hR (by decide) (by decide) (by decide) rfl dX11_then_55 ?_
          refine x_ifB_eq (tgt := 82) (pc := 58) hC  dX11_then_58 (by decide) (fun c58 => ?_) (fun c58 => ?_)
          · refine x_iconst (pc := 82) hC dX11_then_82 ?_
            refine x_istore (L' := [_, _, _, _, _, _, _]) (pc := 83) hC dX11_then_83 rfl rfl ?_
            refine x_iload_n (pc := 85) hC dX11_then_85 rfl ?_
            refine x_if_ne (tgt := 101) (pc := 86) hC (by omega) dX11_then_86 (by decide) (fun c86 => by (exfalso; omega)) (fun c86 => ?_)
            refine x_iload (pc := 89) hC dX11_then_89 rfl ?_
            refine x_if_ne (tgt := 101) (pc := 91) hC (by omega) dX11_then_91 (by decide) (fun c91 => by (exfalso; omega)) (fun c91 => ?_)
            refine x_iload (pc := 94) hC dX11_then_94 rfl ?_
            refine x_if_ne (tgt := 101) (pc := 96) hC (by omega) dX11_then_96 (by decide) (fun c96 => by (exfalso; omega)) (fun c96 => ?_)
            refine x_iconst (pc := 99) hC dX11_then_99 ?_
            refine x_ireturn hC hZ dX11_then_100 (by decide) (by decide) ?_
            refine ⟨congrArg (fun z => some (Value.int (iI z))) ?_, Nx.rf _, rfl, rfl⟩
            unfold thenF
            (repeat (first | rw [if_pos (by omega)] | rw [if_neg (by omega)]))
            all_goals (first | rfl | omega | assumption)
          · refine x_aload_n (pc := 61) hC dX11_then_61 rfl ?_
            refine x_getr (K := 0) (pc := 62) hC fX11_12_11 (by assumption) dX11_then_62 rfl rfl (by assumption) ?_
            refine x_getr (K := 2) (pc := 65) hC fX11_108_1 (by assumption) dX11_then_65 rfl rfl (by assumption) ?_
            refine x_iload_n (pc := 68) hC dX11_then_68 rfl ?_
            refine x_bipush (pc := 69) hC dX11_then_69 (by decide +kernel) ?_
            refine x_isub (pc := 71) hC dX11_then_71 ?_
            refine x_callV1 (As := [_]) (Bs := [_]) (pc := 72) hC (c_has E hs3 hsz hsit (by omega)) wX11_139_5 pX5_has (by assumption) rfl rfl (by exact Nat.le_of_ble_eq_true rfl) hR (by decide) (by decide) (by decide) rfl dX11_then_72 ?_
            refine x_ifB_eq (tgt := 82) (pc := 75) hC  dX11_then_75 (by decide) (fun c75 => ?_) (fun c75 => ?_)
            · refine x_iconst (pc := 82) hC dX11_then_82 ?_
              refine x_istore (L' := [_, _, _, _, _, _, _]) (pc := 83) hC dX11_then_83 rfl rfl ?_
              refine x_iload_n (pc := 85) hC dX11_then_85 rfl ?_
              refine x_if_ne (tgt := 101) (pc := 86) hC (by omega) dX11_then_86 (by decide) (fun c86 => by (exfalso; omega)) (fun c86 => ?_)
              refine x_iload (pc := 89) hC dX11_then_89 rfl ?_
              refine x_if_ne (tgt := 101) (pc := 91) hC (by omega) dX11_then_91 (by decide) (fun c91 => by (exfalso; omega)) (fun c91 => ?_)
              refine x_iload (pc := 94) hC dX11_then_94 rfl ?_
              refine x_if_ne (tgt := 101) (pc := 96) hC (by omega) dX11_then_96 (by decide) (fun c96 => by (exfalso; omega)) (fun c96 => ?_)
              refine x_iconst (pc := 99) hC dX11_then_99 ?_
              refine x_ireturn hC hZ dX11_then_100 (by decide) (by decide) ?_
              refine ⟨congrArg (fun z => some (Value.int (iI z))) ?_, Nx.rf _, rfl, rfl⟩
              unfold thenF
              (repeat (first | rw [if_pos (by omega)] | rw [if_neg (by omega)]))
              all_goals (first | rfl | omega | assumption)
            · refine x_iconst (pc := 78) hC dX11_then_78 ?_
              refine x_goto (tgt := 83) (pc := 79) hC dX11_then_79 (by decide) ?_
              refine x_istore (L' := [_, _, _, _, _, _, _]) (pc := 83) hC dX11_then_83 rfl rfl ?_
              refine x_iload_n (pc := 85) hC dX11_then_85 rfl ?_
              refine x_if_ne (tgt := 101) (pc := 86) hC (by omega) dX11_then_86 (by decide) (fun c86 => by (exfalso; omega)) (fun c86 => ?_)
              refine x_iload (pc := 89) hC dX11_then_89 rfl ?_
              refine x_if_ne (tgt := 101) (pc := 91) hC (by omega) dX11_then_91 (by decide) (fun c91 => by (exfalso; omega)) (fun c91 => ?_)
              refine x_iload (pc := 94) hC dX11_then_94 rfl ?_
              refine x_if_ne (tgt := 101) (pc := 96) hC (by omega) dX11_then_96 (by decide) (fun c96 => ?_) (fun c96 => by (exfalso; omega))
              refine x_iload_n (pc := 101) hC dX11_then_101 rfl ?_
              refine x_iconst (pc := 102) hC dX11_then_102 ?_
              refine x_bipush (pc := 103) hC dX11_then_103 (by decide +kernel) ?_
              refine x_callS1 (As := [_, _, _]) (Bs := [_, _, _]) (pc := 105) hC (c_isIn E (by omega) (by omega) (by omega)) wX11_152 pX11_isIn rfl rfl (by exact Nat.le_of_ble_eq_true rfl) hR (by decide) (by decide) (by decide) rfl dX11_then_105 ?_
              refine x_ifB_ne (tgt := 114) (pc := 108) hC  dX11_then_108 (by decide) (fun c108 => ?_) (fun c108 => ?_)
              · refine x_aload_n (pc := 114) hC dX11_then_114 rfl ?_
                refine x_aload_n (pc := 115) hC dX11_then_115 rfl ?_
                refine x_getr (K := 0) (pc := 116) hC fX11_12_11 (by assumption) dX11_then_116 rfl rfl (by assumption) ?_
                refine x_callV1 (As := []) (Bs := []) (pc := 119) hC (c_onMask E hk hfs hfan) wX11_156_1 pX1_onMask (by assumption) rfl rfl (by exact Nat.le_of_ble_eq_true rfl) hR (by decide) (by decide) (by decide) rfl dX11_then_119 ?_
                refine x_iload_n (pc := 122) hC dX11_then_122 rfl ?_
                refine x_callV (As := [_, _]) (Bs := [_, _]) (pc := 123) hC (c_after E hw hz hpl (mask_in (by omega)) (n := n) (by omega) (by omega)) wX11_164_11 pX11_after (by assumption) rfl rfl (by exact Nat.le_of_ble_eq_true rfl) hR (by decide) (by decide) (by decide) rfl dX11_then_123 (fun r123 σ123 ρ123 ks123 q123 => ?_)
                obtain ⟨rfl, hnx123, hρ123, hks123, f2, f3⟩ := q123
                obtain rfl := hρ123.symm
                obtain rfl := hks123.symm
                have hpp := pass_play hpl rfl (m0F (σ 41)) n.toNat (by omega)
                rw [hpp.1] at f2
                rw [hpp.2] at f3
                obtain ⟨p1, p2, p3⟩ := play_pl hpl n.toNat (by omega)
                have p14 : playF z n.toNat 14 = z 14 := p3 14 (Or.inl (by decide))
                refine x_astore (L' := [_, _, _, _, _, _, _]) (pc := 126) hC dX11_then_126 rfl rfl ?_
                refine x_iload (pc := 128) hC dX11_then_128 rfl ?_
                refine x_if_eq (tgt := 144) (pc := 130) hC (by omega) dX11_then_130 (by decide) (fun c130 => ?_) (fun c130 => by (exfalso; omega))
                refine x_iload (pc := 144) hC dX11_then_144 rfl ?_
                refine x_if_eq (tgt := 160) (pc := 146) hC (by omega) dX11_then_146 (by decide) (fun c146 => by (exfalso; omega)) (fun c146 => ?_)
                refine x_aload (pc := 149) hC dX11_then_149 rfl ?_
                refine x_getr (K := 3) (pc := 151) hC fX11_168_5 (by assumption) dX11_then_151 rfl rfl (by assumption) ?_
                refine x_iload_n (pc := 154) hC dX11_then_154 rfl ?_
                refine x_bipush (pc := 155) hC dX11_then_155 (by decide +kernel) ?_
                refine x_isub (pc := 157) hC dX11_then_157 ?_
                refine x_iald (pc := 158) hC (by assumption) (by omega) dX11_then_158 ?_
                refine x_ireturn hC hZ dX11_then_159 (by decide) (by decide) ?_
                refine ⟨congrArg (fun z => some (Value.int (iI z))) ?_, hnx123, rfl, rfl⟩
                unfold thenF
                rw [if_neg (by omega), if_neg (by omega), if_neg (by omega), if_neg (by omega), if_neg (by omega), f3]
                exact playM_six hpl (m0_six _ _) _ (by omega) _ (by omega) (by omega)
              · refine x_bipush (pc := 111) hC dX11_then_111 (by decide +kernel) ?_
                refine x_ireturn hC hZ dX11_then_113 (by decide) (by decide) ?_
                refine ⟨congrArg (fun z => some (Value.int (iI z))) ?_, Nx.rf _, rfl, rfl⟩
                unfold thenF
                (repeat (first | rw [if_pos (by omega)] | rw [if_neg (by omega)]))
                all_goals (first | rfl | omega | assumption)
        · refine x_iconst (pc := 43) hC dX11_then_43 ?_
          refine x_goto (tgt := 48) (pc := 44) hC dX11_then_44 (by decide) ?_
          refine x_istore (L' := [_, _, _, _, _, _, _]) (pc := 48) hC dX11_then_48 rfl rfl ?_
          refine x_iload_n (pc := 50) hC dX11_then_50 rfl ?_
          refine x_bipush (pc := 51) hC dX11_then_51 (by decide +kernel) ?_
          refine x_bipush (pc := 53) hC dX11_then_53 (by decide +kernel) ?_
          refine x_callS1 (As := [_, _, _]) (Bs := [_, _, _]) (pc := 55) hC (c_isIn E (by omega) (by omega) (by omega)) wX11_152 pX11_isIn rfl rfl (by exact Nat.le_of_ble_eq_true rfl) hR (by decide) (by decide) (by decide) rfl dX11_then_55 ?_
          refine x_ifB_eq (tgt := 82) (pc := 58) hC  dX11_then_58 (by decide) (fun c58 => ?_) (fun c58 => ?_)
          · refine x_iconst (pc := 82) hC dX11_then_82 ?_
            refine x_istore (L' := [_, _, _, _, _, _, _]) (pc := 83) hC dX11_then_83 rfl rfl ?_
            refine x_iload_n (pc := 85) hC dX11_then_85 rfl ?_
            refine x_if_ne (tgt := 101) (pc := 86) hC (by omega) dX11_then_86 (by decide) (fun c86 => by (exfalso; omega)) (fun c86 => ?_)
            refine x_iload (pc := 89) hC dX11_then_89 rfl ?_
            refine x_if_ne (tgt := 101) (pc := 91) hC (by omega) dX11_then_91 (by decide) (fun c91 => ?_) (fun c91 => by (exfalso; omega))
            refine x_iload_n (pc := 101) hC dX11_then_101 rfl ?_
            refine x_iconst (pc := 102) hC dX11_then_102 ?_
            refine x_bipush (pc := 103) hC dX11_then_103 (by decide +kernel) ?_
            refine x_callS1 (As := [_, _, _]) (Bs := [_, _, _]) (pc := 105) hC (c_isIn E (by omega) (by omega) (by omega)) wX11_152 pX11_isIn rfl rfl (by exact Nat.le_of_ble_eq_true rfl) hR (by decide) (by decide) (by decide) rfl dX11_then_105 ?_
            refine x_ifB_ne (tgt := 114) (pc := 108) hC  dX11_then_108 (by decide) (fun c108 => ?_) (fun c108 => ?_)
            · refine x_aload_n (pc := 114) hC dX11_then_114 rfl ?_
              refine x_aload_n (pc := 115) hC dX11_then_115 rfl ?_
              refine x_getr (K := 0) (pc := 116) hC fX11_12_11 (by assumption) dX11_then_116 rfl rfl (by assumption) ?_
              refine x_callV1 (As := []) (Bs := []) (pc := 119) hC (c_onMask E hk hfs hfan) wX11_156_1 pX1_onMask (by assumption) rfl rfl (by exact Nat.le_of_ble_eq_true rfl) hR (by decide) (by decide) (by decide) rfl dX11_then_119 ?_
              refine x_iload_n (pc := 122) hC dX11_then_122 rfl ?_
              refine x_callV (As := [_, _]) (Bs := [_, _]) (pc := 123) hC (c_after E hw hz hpl (mask_in (by omega)) (n := n) (by omega) (by omega)) wX11_164_11 pX11_after (by assumption) rfl rfl (by exact Nat.le_of_ble_eq_true rfl) hR (by decide) (by decide) (by decide) rfl dX11_then_123 (fun r123 σ123 ρ123 ks123 q123 => ?_)
              obtain ⟨rfl, hnx123, hρ123, hks123, f2, f3⟩ := q123
              obtain rfl := hρ123.symm
              obtain rfl := hks123.symm
              have hpp := pass_play hpl rfl (m0F (σ 41)) n.toNat (by omega)
              rw [hpp.1] at f2
              rw [hpp.2] at f3
              obtain ⟨p1, p2, p3⟩ := play_pl hpl n.toNat (by omega)
              have p14 : playF z n.toNat 14 = z 14 := p3 14 (Or.inl (by decide))
              refine x_astore (L' := [_, _, _, _, _, _, _]) (pc := 126) hC dX11_then_126 rfl rfl ?_
              refine x_iload (pc := 128) hC dX11_then_128 rfl ?_
              refine x_if_eq (tgt := 144) (pc := 130) hC (by omega) dX11_then_130 (by decide) (fun c130 => by (exfalso; omega)) (fun c130 => ?_)
              refine x_aload (pc := 133) hC dX11_then_133 rfl ?_
              refine x_getr (K := 1) (pc := 135) hC fX11_133_5 (by assumption) dX11_then_135 rfl rfl (by assumption) ?_
              refine x_iload_n (pc := 138) hC dX11_then_138 rfl ?_
              refine x_bipush (pc := 139) hC dX11_then_139 (by decide +kernel) ?_
              refine x_isub (pc := 141) hC dX11_then_141 ?_
              refine x_iald (pc := 142) hC (by assumption) (by omega) dX11_then_142 ?_
              refine x_ireturn hC hZ dX11_then_143 (by decide) (by decide) ?_
              refine ⟨congrArg (fun z => some (Value.int (iI z))) ?_, hnx123, rfl, rfl⟩
              unfold thenF
              rw [if_neg (by omega), if_neg (by omega), if_neg (by omega), if_neg (by omega), if_pos (by omega), show 1 + w - 10 = 1 + (w - 10) by omega]
              exact (f2.2 (w - 10) (by omega) (by omega)).2.1
            · refine x_bipush (pc := 111) hC dX11_then_111 (by decide +kernel) ?_
              refine x_ireturn hC hZ dX11_then_113 (by decide) (by decide) ?_
              refine ⟨congrArg (fun z => some (Value.int (iI z))) ?_, Nx.rf _, rfl, rfl⟩
              unfold thenF
              (repeat (first | rw [if_pos (by omega)] | rw [if_neg (by omega)]))
              all_goals (first | rfl | omega | assumption)
          · refine x_aload_n (pc := 61) hC dX11_then_61 rfl ?_
            refine x_getr (K := 0) (pc := 62) hC fX11_12_11 (by assumption) dX11_then_62 rfl rfl (by assumption) ?_
            refine x_getr (K := 2) (pc := 65) hC fX11_108_1 (by assumption) dX11_then_65 rfl rfl (by assumption) ?_
            refine x_iload_n (pc := 68) hC dX11_then_68 rfl ?_
            refine x_bipush (pc := 69) hC dX11_then_69 (by decide +kernel) ?_
            refine x_isub (pc := 71) hC dX11_then_71 ?_
            refine x_callV1 (As := [_]) (Bs := [_]) (pc := 72) hC (c_has E hs3 hsz hsit (by omega)) wX11_139_5 pX5_has (by assumption) rfl rfl (by exact Nat.le_of_ble_eq_true rfl) hR (by decide) (by decide) (by decide) rfl dX11_then_72 ?_
            refine x_ifB_eq (tgt := 82) (pc := 75) hC  dX11_then_75 (by decide) (fun c75 => ?_) (fun c75 => ?_)
            · refine x_iconst (pc := 82) hC dX11_then_82 ?_
              refine x_istore (L' := [_, _, _, _, _, _, _]) (pc := 83) hC dX11_then_83 rfl rfl ?_
              refine x_iload_n (pc := 85) hC dX11_then_85 rfl ?_
              refine x_if_ne (tgt := 101) (pc := 86) hC (by omega) dX11_then_86 (by decide) (fun c86 => by (exfalso; omega)) (fun c86 => ?_)
              refine x_iload (pc := 89) hC dX11_then_89 rfl ?_
              refine x_if_ne (tgt := 101) (pc := 91) hC (by omega) dX11_then_91 (by decide) (fun c91 => ?_) (fun c91 => by (exfalso; omega))
              refine x_iload_n (pc := 101) hC dX11_then_101 rfl ?_
              refine x_iconst (pc := 102) hC dX11_then_102 ?_
              refine x_bipush (pc := 103) hC dX11_then_103 (by decide +kernel) ?_
              refine x_callS1 (As := [_, _, _]) (Bs := [_, _, _]) (pc := 105) hC (c_isIn E (by omega) (by omega) (by omega)) wX11_152 pX11_isIn rfl rfl (by exact Nat.le_of_ble_eq_true rfl) hR (by decide) (by decide) (by decide) rfl dX11_then_105 ?_
              refine x_ifB_ne (tgt := 114) (pc := 108) hC  dX11_then_108 (by decide) (fun c108 => ?_) (fun c108 => ?_)
              · refine x_aload_n (pc := 114) hC dX11_then_114 rfl ?_
                refine x_aload_n (pc := 115) hC dX11_then_115 rfl ?_
                refine x_getr (K := 0) (pc := 116) hC fX11_12_11 (by assumption) dX11_then_116 rfl rfl (by assumption) ?_
                refine x_callV1 (As := []) (Bs := []) (pc := 119) hC (c_onMask E hk hfs hfan) wX11_156_1 pX1_onMask (by assumption) rfl rfl (by exact Nat.le_of_ble_eq_true rfl) hR (by decide) (by decide) (by decide) rfl dX11_then_119 ?_
                refine x_iload_n (pc := 122) hC dX11_then_122 rfl ?_
                refine x_callV (As := [_, _]) (Bs := [_, _]) (pc := 123) hC (c_after E hw hz hpl (mask_in (by omega)) (n := n) (by omega) (by omega)) wX11_164_11 pX11_after (by assumption) rfl rfl (by exact Nat.le_of_ble_eq_true rfl) hR (by decide) (by decide) (by decide) rfl dX11_then_123 (fun r123 σ123 ρ123 ks123 q123 => ?_)
                obtain ⟨rfl, hnx123, hρ123, hks123, f2, f3⟩ := q123
                obtain rfl := hρ123.symm
                obtain rfl := hks123.symm
                have hpp := pass_play hpl rfl (m0F (σ 41)) n.toNat (by omega)
                rw [hpp.1] at f2
                rw [hpp.2] at f3
                obtain ⟨p1, p2, p3⟩ := play_pl hpl n.toNat (by omega)
                have p14 : playF z n.toNat 14 = z 14 := p3 14 (Or.inl (by decide))
                refine x_astore (L' := [_, _, _, _, _, _, _]) (pc := 126) hC dX11_then_126 rfl rfl ?_
                refine x_iload (pc := 128) hC dX11_then_128 rfl ?_
                refine x_if_eq (tgt := 144) (pc := 130) hC (by omega) dX11_then_130 (by decide) (fun c130 => by (exfalso; omega)) (fun c130 => ?_)
                refine x_aload (pc := 133) hC dX11_then_133 rfl ?_
                refine x_getr (K := 1) (pc := 135) hC fX11_133_5 (by assumption) dX11_then_135 rfl rfl (by assumption) ?_
                refine x_iload_n (pc := 138) hC dX11_then_138 rfl ?_
                refine x_bipush (pc := 139) hC dX11_then_139 (by decide +kernel) ?_
                refine x_isub (pc := 141) hC dX11_then_141 ?_
                refine x_iald (pc := 142) hC (by assumption) (by omega) dX11_then_142 ?_
                refine x_ireturn hC hZ dX11_then_143 (by decide) (by decide) ?_
                refine ⟨congrArg (fun z => some (Value.int (iI z))) ?_, hnx123, rfl, rfl⟩
                unfold thenF
                rw [if_neg (by omega), if_neg (by omega), if_neg (by omega), if_neg (by omega), if_pos (by omega), show 1 + w - 10 = 1 + (w - 10) by omega]
                exact (f2.2 (w - 10) (by omega) (by omega)).2.1
              · refine x_bipush (pc := 111) hC dX11_then_111 (by decide +kernel) ?_
                refine x_ireturn hC hZ dX11_then_113 (by decide) (by decide) ?_
                refine ⟨congrArg (fun z => some (Value.int (iI z))) ?_, Nx.rf _, rfl, rfl⟩
                unfold thenF
                (repeat (first | rw [if_pos (by omega)] | rw [if_neg (by omega)]))
                all_goals (first | rfl | omega | assumption)
            · refine x_iconst (pc := 78) hC dX11_then_78 ?_
              refine x_goto (tgt := 83) (pc := 79) hC dX11_then_79 (by decide) ?_
              refine x_istore (L' := [_, _, _, _, _, _, _]) (pc := 83) hC dX11_then_83 rfl rfl ?_
              refine x_iload_n (pc := 85) hC dX11_then_85 rfl ?_
              refine x_if_ne (tgt := 101) (pc := 86) hC (by omega) dX11_then_86 (by decide) (fun c86 => by (exfalso; omega)) (fun c86 => ?_)
              refine x_iload (pc := 89) hC dX11_then_89 rfl ?_
              refine x_if_ne (tgt := 101) (pc := 91) hC (by omega) dX11_then_91 (by decide) (fun c91 => ?_) (fun c91 => by (exfalso; omega))
              refine x_iload_n (pc := 101) hC dX11_then_101 rfl ?_
              refine x_iconst (pc := 102) hC dX11_then_102 ?_
              refine x_bipush (pc := 103) hC dX11_then_103 (by decide +kernel) ?_
              refine x_callS1 (As := [_, _, _]) (Bs := [_, _, _]) (pc := 105) hC (c_isIn E (by omega) (by omega) (by omega)) wX11_152 pX11_isIn rfl rfl (by exact Nat.le_of_ble_eq_true rfl) hR (by decide) (by decide) (by decide) rfl dX11_then_105 ?_
              refine x_ifB_ne (tgt := 114) (pc := 108) hC  dX11_then_108 (by decide) (fun c108 => ?_) (fun c108 => ?_)
              · refine x_aload_n (pc := 114) hC dX11_then_114 rfl ?_
                refine x_aload_n (pc := 115) hC dX11_then_115 rfl ?_
                refine x_getr (K := 0) (pc := 116) hC fX11_12_11 (by assumption) dX11_then_116 rfl rfl (by assumption) ?_
                refine x_callV1 (As := []) (Bs := []) (pc := 119) hC (c_onMask E hk hfs hfan) wX11_156_1 pX1_onMask (by assumption) rfl rfl (by exact Nat.le_of_ble_eq_true rfl) hR (by decide) (by decide) (by decide) rfl dX11_then_119 ?_
                refine x_iload_n (pc := 122) hC dX11_then_122 rfl ?_
                refine x_callV (As := [_, _]) (Bs := [_, _]) (pc := 123) hC (c_after E hw hz hpl (mask_in (by omega)) (n := n) (by omega) (by omega)) wX11_164_11 pX11_after (by assumption) rfl rfl (by exact Nat.le_of_ble_eq_true rfl) hR (by decide) (by decide) (by decide) rfl dX11_then_123 (fun r123 σ123 ρ123 ks123 q123 => ?_)
                obtain ⟨rfl, hnx123, hρ123, hks123, f2, f3⟩ := q123
                obtain rfl := hρ123.symm
                obtain rfl := hks123.symm
                have hpp := pass_play hpl rfl (m0F (σ 41)) n.toNat (by omega)
                rw [hpp.1] at f2
                rw [hpp.2] at f3
                obtain ⟨p1, p2, p3⟩ := play_pl hpl n.toNat (by omega)
                have p14 : playF z n.toNat 14 = z 14 := p3 14 (Or.inl (by decide))
                refine x_astore (L' := [_, _, _, _, _, _, _]) (pc := 126) hC dX11_then_126 rfl rfl ?_
                refine x_iload (pc := 128) hC dX11_then_128 rfl ?_
                refine x_if_eq (tgt := 144) (pc := 130) hC (by omega) dX11_then_130 (by decide) (fun c130 => by (exfalso; omega)) (fun c130 => ?_)
                refine x_aload (pc := 133) hC dX11_then_133 rfl ?_
                refine x_getr (K := 1) (pc := 135) hC fX11_133_5 (by assumption) dX11_then_135 rfl rfl (by assumption) ?_
                refine x_iload_n (pc := 138) hC dX11_then_138 rfl ?_
                refine x_bipush (pc := 139) hC dX11_then_139 (by decide +kernel) ?_
                refine x_isub (pc := 141) hC dX11_then_141 ?_
                refine x_iald (pc := 142) hC (by assumption) (by omega) dX11_then_142 ?_
                refine x_ireturn hC hZ dX11_then_143 (by decide) (by decide) ?_
                refine ⟨congrArg (fun z => some (Value.int (iI z))) ?_, hnx123, rfl, rfl⟩
                unfold thenF
                rw [if_neg (by omega), if_neg (by omega), if_neg (by omega), if_neg (by omega), if_pos (by omega), show 1 + w - 10 = 1 + (w - 10) by omega]
                exact (f2.2 (w - 10) (by omega) (by omega)).2.1
              · refine x_bipush (pc := 111) hC dX11_then_111 (by decide +kernel) ?_
                refine x_ireturn hC hZ dX11_then_113 (by decide) (by decide) ?_
                refine ⟨congrArg (fun z => some (Value.int (iI z))) ?_, Nx.rf _, rfl, rfl⟩
                unfold thenF
                (repeat (first | rw [if_pos (by omega)] | rw [if_neg (by omega)]))
                all_goals (first | rfl | omega | assumption)
    · refine x_iconst (pc := 9) hC dX11_then_9 ?_
      refine x_goto (tgt := 14) (pc := 10) hC dX11_then_10 (by decide) ?_
      refine x_istore_n (L' := [_, _, _, _, _, _, _]) (pc := 14) hC dX11_then_14 rfl rfl ?_
      refine x_iload_n (pc := 15) hC dX11_then_15 rfl ?_
      refine x_bipush (pc := 16) hC dX11_then_16 (by decide +kernel) ?_
      refine x_bipush (pc := 18) hC dX11_then_18 (by decide +kernel) ?_
      refine x_callS1 (As := [_, _, _]) (Bs := [_, _, _]) (pc := 20) hC (c_isIn E (by omega) (by omega) (by omega)) wX11_152 pX11_isIn rfl rfl (by exact Nat.le_of_ble_eq_true rfl) hR (by decide) (by decide) (by decide) rfl dX11_then_20 ?_
      refine x_ifB_eq (tgt := 47) (pc := 23) hC  dX11_then_23 (by decide) (fun c23 => ?_) (fun c23 => ?_)
      · refine x_iconst (pc := 47) hC dX11_then_47 ?_
        refine x_istore (L' := [_, _, _, _, _, _, _]) (pc := 48) hC dX11_then_48 rfl rfl ?_
        refine x_iload_n (pc := 50) hC dX11_then_50 rfl ?_
        refine x_bipush (pc := 51) hC dX11_then_51 (by decide +kernel) ?_
        refine x_bipush (pc := 53) hC dX11_then_53 (by decide +kernel) ?_
        refine x_callS1 (As := [_, _, _]) (Bs := [_, _, _]) (pc := 55) hC (c_isIn E (by omega) (by omega) (by omega)) wX11_152 pX11_isIn rfl rfl (by exact Nat.le_of_ble_eq_true rfl) hR (by decide) (by decide) (by decide) rfl dX11_then_55 ?_
        refine x_ifB_eq (tgt := 82) (pc := 58) hC  dX11_then_58 (by decide) (fun c58 => ?_) (fun c58 => ?_)
        · refine x_iconst (pc := 82) hC dX11_then_82 ?_
          refine x_istore (L' := [_, _, _, _, _, _, _]) (pc := 83) hC dX11_then_83 rfl rfl ?_
          refine x_iload_n (pc := 85) hC dX11_then_85 rfl ?_
          refine x_if_ne (tgt := 101) (pc := 86) hC (by omega) dX11_then_86 (by decide) (fun c86 => ?_) (fun c86 => by (exfalso; omega))
          refine x_iload_n (pc := 101) hC dX11_then_101 rfl ?_
          refine x_iconst (pc := 102) hC dX11_then_102 ?_
          refine x_bipush (pc := 103) hC dX11_then_103 (by decide +kernel) ?_
          refine x_callS1 (As := [_, _, _]) (Bs := [_, _, _]) (pc := 105) hC (c_isIn E (by omega) (by omega) (by omega)) wX11_152 pX11_isIn rfl rfl (by exact Nat.le_of_ble_eq_true rfl) hR (by decide) (by decide) (by decide) rfl dX11_then_105 ?_
          refine x_ifB_ne (tgt := 114) (pc := 108) hC  dX11_then_108 (by decide) (fun c108 => ?_) (fun c108 => ?_)
          · refine x_aload_n (pc := 114) hC dX11_then_114 rfl ?_
            refine x_aload_n (pc := 115) hC dX11_then_115 rfl ?_
            refine x_getr (K := 0) (pc := 116) hC fX11_12_11 (by assumption) dX11_then_116 rfl rfl (by assumption) ?_
            refine x_callV1 (As := []) (Bs := []) (pc := 119) hC (c_onMask E hk hfs hfan) wX11_156_1 pX1_onMask (by assumption) rfl rfl (by exact Nat.le_of_ble_eq_true rfl) hR (by decide) (by decide) (by decide) rfl dX11_then_119 ?_
            refine x_iload_n (pc := 122) hC dX11_then_122 rfl ?_
            refine x_callV (As := [_, _]) (Bs := [_, _]) (pc := 123) hC (c_after E hw hz hpl (mask_in (by omega)) (n := n) (by omega) (by omega)) wX11_164_11 pX11_after (by assumption) rfl rfl (by exact Nat.le_of_ble_eq_true rfl) hR (by decide) (by decide) (by decide) rfl dX11_then_123 (fun r123 σ123 ρ123 ks123 q123 => ?_)
            obtain ⟨rfl, hnx123, hρ123, hks123, f2, f3⟩ := q123
            obtain rfl := hρ123.symm
            obtain rfl := hks123.symm
            have hpp := pass_play hpl rfl (m0F (σ 41)) n.toNat (by omega)
            rw [hpp.1] at f2
            rw [hpp.2] at f3
            obtain ⟨p1, p2, p3⟩ := play_pl hpl n.toNat (by omega)
            have p14 : playF z n.toNat 14 = z 14 := p3 14 (Or.inl (by decide))
            refine x_astore (L' := [_, _, _, _, _, _, _]) (pc := 126) hC dX11_then_126 rfl rfl ?_
            refine x_iload (pc := 128) hC dX11_then_128 rfl ?_
            refine x_if_eq (tgt := 144) (pc := 130) hC (by omega) dX11_then_130 (by decide) (fun c130 => ?_) (fun c130 => by (exfalso; omega))
            refine x_iload (pc := 144) hC dX11_then_144 rfl ?_
            refine x_if_eq (tgt := 160) (pc := 146) hC (by omega) dX11_then_146 (by decide) (fun c146 => ?_) (fun c146 => by (exfalso; omega))
            refine x_iload_n (pc := 160) hC dX11_then_160 rfl ?_
            refine x_if_ne (tgt := 172) (pc := 161) hC (by omega) dX11_then_161 (by decide) (fun c161 => ?_) (fun c161 => ?_)
            · refine x_aload (pc := 172) hC dX11_then_172 rfl ?_
              refine x_callV1 (As := []) (Bs := []) (pc := 174) hC (c_together E wn f2 p1.2.1) wX11_174_5 pX5_together (by assumption) rfl rfl (by exact Nat.le_of_ble_eq_true rfl) hR (by decide) (by decide) (by decide) rfl dX11_then_174 ?_
              refine x_ireturn hC hZ dX11_then_177 (by decide) (by decide) ?_
              refine ⟨congrArg (fun z => some (Value.int (iI z))) ?_, hnx123, rfl, rfl⟩
              unfold thenF
              rw [if_neg (by omega), if_neg (by omega), if_neg (by omega), if_pos (by omega), p14]
            · refine x_aload (pc := 164) hC dX11_then_164 rfl ?_
              refine x_callV1 (As := []) (Bs := []) (pc := 166) hC (c_greatest E wn f2 p1.2.1) wX11_171_5 pX5_greatest (by assumption) rfl rfl (by exact Nat.le_of_ble_eq_true rfl) hR (by decide) (by decide) (by decide) rfl dX11_then_166 ?_
              refine x_goto (tgt := 177) (pc := 169) hC dX11_then_169 (by decide) ?_
              refine x_ireturn hC hZ dX11_then_177 (by decide) (by decide) ?_
              refine ⟨congrArg (fun z => some (Value.int (iI z))) ?_, hnx123, rfl, rfl⟩
              unfold thenF
              rw [if_neg (by omega), if_neg (by omega), if_pos (by omega), p14]
          · refine x_bipush (pc := 111) hC dX11_then_111 (by decide +kernel) ?_
            refine x_ireturn hC hZ dX11_then_113 (by decide) (by decide) ?_
            refine ⟨congrArg (fun z => some (Value.int (iI z))) ?_, Nx.rf _, rfl, rfl⟩
            unfold thenF
            (repeat (first | rw [if_pos (by omega)] | rw [if_neg (by omega)]))
            all_goals (first | rfl | omega | assumption)
        · refine x_aload_n (pc := 61) hC dX11_then_61 rfl ?_
          refine x_getr (K := 0) (pc := 62) hC fX11_12_11 (by assumption) dX11_then_62 rfl rfl (by assumption) ?_
          refine x_getr (K := 2) (pc := 65) hC fX11_108_1 (by assumption) dX11_then_65 rfl rfl (by assumption) ?_
          refine x_iload_n (pc := 68) hC dX11_then_68 rfl ?_
          refine x_bipush (pc := 69) hC dX11_then_69 (by decide +kernel) ?_
          refine x_isub (pc := 71) hC dX11_then_71 ?_
          refine x_callV1 (As := [_]) (Bs := [_]) (pc := 72) hC (c_has E hs3 hsz hsit (by omega)) wX11_139_5 pX5_has (by assumption) rfl rfl (by exact Nat.le_of_ble_eq_true rfl) hR (by decide) (by decide) (by decide) rfl dX11_then_72 ?_
          refine x_ifB_eq (tgt := 82) (pc := 75) hC  dX11_then_75 (by decide) (fun c75 => ?_) (fun c75 => ?_)
          · refine x_iconst (pc := 82) hC dX11_then_82 ?_
            refine x_istore (L' := [_, _, _, _, _, _, _]) (pc := 83) hC dX11_then_83 rfl rfl ?_
            refine x_iload_n (pc := 85) hC dX11_then_85 rfl ?_
            refine x_if_ne (tgt := 101) (pc := 86) hC (by omega) dX11_then_86 (by decide) (fun c86 => ?_) (fun c86 => by (exfalso; omega))
            refine x_iload_n (pc := 101) hC dX11_then_101 rfl ?_
            refine x_iconst (pc := 102) hC dX11_then_102 ?_
            refine x_bipush (pc := 103) hC dX11_then_103 (by decide +kernel) ?_
            refine x_callS1 (As := [_, _, _]) (Bs := [_, _, _]) (pc := 105) hC (c_isIn E (by omega) (by omega) (by omega)) wX11_152 pX11_isIn rfl rfl (by exact Nat.le_of_ble_eq_true rfl) hR (by decide) (by decide) (by decide) rfl dX11_then_105 ?_
            refine x_ifB_ne (tgt := 114) (pc := 108) hC  dX11_then_108 (by decide) (fun c108 => ?_) (fun c108 => ?_)
            · refine x_aload_n (pc := 114) hC dX11_then_114 rfl ?_
              refine x_aload_n (pc := 115) hC dX11_then_115 rfl ?_
              refine x_getr (K := 0) (pc := 116) hC fX11_12_11 (by assumption) dX11_then_116 rfl rfl (by assumption) ?_
              refine x_callV1 (As := []) (Bs := []) (pc := 119) hC (c_onMask E hk hfs hfan) wX11_156_1 pX1_onMask (by assumption) rfl rfl (by exact Nat.le_of_ble_eq_true rfl) hR (by decide) (by decide) (by decide) rfl dX11_then_119 ?_
              refine x_iload_n (pc := 122) hC dX11_then_122 rfl ?_
              refine x_callV (As := [_, _]) (Bs := [_, _]) (pc := 123) hC (c_after E hw hz hpl (mask_in (by omega)) (n := n) (by omega) (by omega)) wX11_164_11 pX11_after (by assumption) rfl rfl (by exact Nat.le_of_ble_eq_true rfl) hR (by decide) (by decide) (by decide) rfl dX11_then_123 (fun r123 σ123 ρ123 ks123 q123 => ?_)
              obtain ⟨rfl, hnx123, hρ123, hks123, f2, f3⟩ := q123
              obtain rfl := hρ123.symm
              obtain rfl := hks123.symm
              have hpp := pass_play hpl rfl (m0F (σ 41)) n.toNat (by omega)
              rw [hpp.1] at f2
              rw [hpp.2] at f3
              obtain ⟨p1, p2, p3⟩ := play_pl hpl n.toNat (by omega)
              have p14 : playF z n.toNat 14 = z 14 := p3 14 (Or.inl (by decide))
              refine x_astore (L' := [_, _, _, _, _, _, _]) (pc := 126) hC dX11_then_126 rfl rfl ?_
              refine x_iload (pc := 128) hC dX11_then_128 rfl ?_
              refine x_if_eq (tgt := 144) (pc := 130) hC (by omega) dX11_then_130 (by decide) (fun c130 => ?_) (fun c130 => by (exfalso; omega))
              refine x_iload (pc := 144) hC dX11_then_144 rfl ?_
              refine x_if_eq (tgt := 160) (pc := 146) hC (by omega) dX11_then_146 (by decide) (fun c146 => ?_) (fun c146 => by (exfalso; omega))
              refine x_iload_n (pc := 160) hC dX11_then_160 rfl ?_
              refine x_if_ne (tgt := 172) (pc := 161) hC (by omega) dX11_then_161 (by decide) (fun c161 => ?_) (fun c161 => ?_)
              · refine x_aload (pc := 172) hC dX11_then_172 rfl ?_
                refine x_callV1 (As := []) (Bs := []) (pc := 174) hC (c_together E wn f2 p1.2.1) wX11_174_5 pX5_together (by assumption) rfl rfl (by exact Nat.le_of_ble_eq_true rfl) hR (by decide) (by decide) (by decide) rfl dX11_then_174 ?_
                refine x_ireturn hC hZ dX11_then_177 (by decide) (by decide) ?_
                refine ⟨congrArg (fun z => some (Value.int (iI z))) ?_, hnx123, rfl, rfl⟩
                unfold thenF
                rw [if_neg (by omega), if_neg (by omega), if_neg (by omega), if_pos (by omega), p14]
              · refine x_aload (pc := 164) hC dX11_then_164 rfl ?_
                refine x_callV1 (As := []) (Bs := []) (pc := 166) hC (c_greatest E wn f2 p1.2.1) wX11_171_5 pX5_greatest (by assumption) rfl rfl (by exact Nat.le_of_ble_eq_true rfl) hR (by decide) (by decide) (by decide) rfl dX11_then_166 ?_
                refine x_goto (tgt := 177) (pc := 169) hC dX11_then_169 (by decide) ?_
                refine x_ireturn hC hZ dX11_then_177 (by decide) (by decide) ?_
                refine ⟨congrArg (fun z => some (Value.int (iI z))) ?_, hnx123, rfl, rfl⟩
                unfold thenF
                rw [if_neg (by omega), if_neg (by omega), if_pos (by omega), p14]
            · refine x_bipush (pc := 111) hC dX11_then_111 (by decide +kernel) ?_
              refine x_ireturn hC hZ dX11_then_113 (by decide) (by decide) ?_
              refine ⟨congrArg (fun z => some (Value.int (iI z))) ?_, Nx.rf _, rfl, rfl⟩
              unfold thenF
              (repeat (first | rw [if_pos (by omega)] | rw [if_neg (by omega)]))
              all_goals (first | rfl | omega | assumption)
          · refine x_iconst (pc := 78) hC dX11_then_78 ?_
            refine x_goto (tgt := 83) (pc := 79) hC dX11_then_79 (by decide) ?_
            refine x_istore (L' := [_, _, _, _, _, _, _]) (pc := 83) hC dX11_then_83 rfl rfl ?_
            refine x_iload_n (pc := 85) hC dX11_then_85 rfl ?_
            refine x_if_ne (tgt := 101) (pc := 86) hC (by omega) dX11_then_86 (by decide) (fun c86 => ?_) (fun c86 => by (exfalso; omega))
            refine x_iload_n (pc := 101) hC dX11_then_101 rfl ?_
            refine x_iconst (pc := 102) hC dX11_then_102 ?_
            refine x_bipush (pc := 103) hC dX11_then_103 (by decide +kernel) ?_
            refine x_callS1 (As := [_, _, _]) (Bs := [_, _, _]) (pc := 105) hC (c_isIn E (by omega) (by omega) (by omega)) wX11_152 pX11_isIn rfl rfl (by exact Nat.le_of_ble_eq_true rfl) hR (by decide) (by decide) (by decide) rfl dX11_then_105 ?_
            refine x_ifB_ne (tgt := 114) (pc := 108) hC  dX11_then_108 (by decide) (fun c108 => ?_) (fun c108 => ?_)
            · refine x_aload_n (pc := 114) hC dX11_then_114 rfl ?_
              refine x_aload_n (pc := 115) hC dX11_then_115 rfl ?_
              refine x_getr (K := 0) (pc := 116) hC fX11_12_11 (by assumption) dX11_then_116 rfl rfl (by assumption) ?_
              refine x_callV1 (As := []) (Bs := []) (pc := 119) hC (c_onMask E hk hfs hfan) wX11_156_1 pX1_onMask (by assumption) rfl rfl (by exact Nat.le_of_ble_eq_true rfl) hR (by decide) (by decide) (by decide) rfl dX11_then_119 ?_
              refine x_iload_n (pc := 122) hC dX11_then_122 rfl ?_
              refine x_callV (As := [_, _]) (Bs := [_, _]) (pc := 123) hC (c_after E hw hz hpl (mask_in (by omega)) (n := n) (by omega) (by omega)) wX11_164_11 pX11_after (by assumption) rfl rfl (by exact Nat.le_of_ble_eq_true rfl) hR (by decide) (by decide) (by decide) rfl dX11_then_123 (fun r123 σ123 ρ123 ks123 q123 => ?_)
              obtain ⟨rfl, hnx123, hρ123, hks123, f2, f3⟩ := q123
              obtain rfl := hρ123.symm
              obtain rfl := hks123.symm
              have hpp := pass_play hpl rfl (m0F (σ 41)) n.toNat (by omega)
              rw [hpp.1] at f2
              rw [hpp.2] at f3
              obtain ⟨p1, p2, p3⟩ := play_pl hpl n.toNat (by omega)
              have p14 : playF z n.toNat 14 = z 14 := p3 14 (Or.inl (by decide))
              refine x_astore (L' := [_, _, _, _, _, _, _]) (pc := 126) hC dX11_then_126 rfl rfl ?_
              refine x_iload (pc := 128) hC dX11_then_128 rfl ?_
              refine x_if_eq (tgt := 144) (pc := 130) hC (by omega) dX11_then_130 (by decide) (fun c130 => ?_) (fun c130 => by (exfalso; omega))
              refine x_iload (pc := 144) hC dX11_then_144 rfl ?_
              refine x_if_eq (tgt := 160) (pc := 146) hC (by omega) dX11_then_146 (by decide) (fun c146 => by (exfalso; omega)) (fun c146 => ?_)
              refine x_aload (pc := 149) hC dX11_then_149 rfl ?_
              refine x_getr (K := 3) (pc := 151) hC fX11_168_5 (by assumption) dX11_then_151 rfl rfl (by assumption) ?_
              refine x_iload_n (pc := 154) hC dX11_then_154 rfl ?_
              refine x_bipush (pc := 155) hC dX11_then_155 (by decide +kernel) ?_
              refine x_isub (pc := 157) hC dX11_then_157 ?_
              refine x_iald (pc := 158) hC (by assumption) (by omega) dX11_then_158 ?_
              refine x_ireturn hC hZ dX11_then_159 (by decide) (by decide) ?_
              refine ⟨congrArg (fun z => some (Value.int (iI z))) ?_, hnx123, rfl, rfl⟩
              unfold thenF
              rw [if_neg (by omega), if_neg (by omega), if_neg (by omega), if_neg (by omega), if_neg (by omega), f3]
              exact playM_six hpl (m0_six _ _) _ (by omega) _ (by omega) (by omega)
            · refine x_bipush (pc := 111) hC dX11_then_111 (by decide +kernel) ?_
              refine x_ireturn hC hZ dX11_then_113 (by decide) (by decide) ?_
              refine ⟨congrArg (fun z => some (Value.int (iI z))) ?_, Nx.rf _, rfl, rfl⟩
              unfold thenF
              (repeat (first | rw [if_pos (by omega)] | rw [if_neg (by omega)]))
              all_goals (first | rfl | omega | assumption)
      · refine x_aload_n (pc := 26) hC dX11_then_26 rfl ?_
        refine x_getr (K := 0) (pc := 27) hC fX11_12_11 (by assumption) dX11_then_27 rfl rfl (by assumption) ?_
        refine x_getr (K := 2) (pc := 30) hC fX11_108_1 (by assumption) dX11_then_30 rfl rfl (by assumption) ?_
        refine x_iload_n (pc := 33) hC dX11_then_33 rfl ?_
        refine x_bipush (pc := 34) hC dX11_then_34 (by decide +kernel) ?_
        refine x_isub (pc := 36) hC dX11_then_36 ?_
        refine x_callV1 (As := [_]) (Bs := [_]) (pc := 37) hC (c_has E hs3 hsz hsit (by omega)) wX11_139_5 pX5_has (by assumption) rfl rfl (by exact Nat.le_of_ble_eq_true rfl) hR (by decide) (by decide) (by decide) rfl dX11_then_37 ?_
        refine x_ifB_eq (tgt := 47) (pc := 40) hC  dX11_then_40 (by decide) (fun c40 => ?_) (fun c40 => ?_)
        · refine x_iconst (pc := 47) hC dX11_then_47 ?_
          refine x_istore (L' := [_, _, _, _, _, _, _]) (pc := 48) hC dX11_then_48 rfl rfl ?_
          refine x_iload_n (pc := 50) hC dX11_then_50 rfl ?_
          refine x_bipush (pc := 51) hC dX11_then_51 (by decide +kernel) ?_
          refine x_bipush (pc := 53) hC dX11_then_53 (by decide +kernel) ?_
          refine x_callS1 (As := [_, _, _]) (Bs := [_, _, _]) (pc := 55) hC (c_isIn E (by omega) (by omega) (by omega)) wX11_152 pX11_isIn rfl rfl (by exact Nat.le_of_ble_eq_true rfl) hR (by decide) (by decide) (by decide) rfl dX11_then_55 ?_
          refine x_ifB_eq (tgt := 82) (pc := 58) hC  dX11_then_58 (by decide) (fun c58 => ?_) (fun c58 => ?_)
          · refine x_iconst (pc := 82) hC dX11_then_82 ?_
            refine x_istore (L' := [_, _, _, _, _, _, _]) (pc := 83) hC dX11_then_83 rfl rfl ?_
            refine x_iload_n (pc := 85) hC dX11_then_85 rfl ?_
            refine x_if_ne (tgt := 101) (pc := 86) hC (by omega) dX11_then_86 (by decide) (fun c86 => ?_) (fun c86 => by (exfalso; omega))
            refine x_iload_n (pc := 101) hC dX11_then_101 rfl ?_
            refine x_iconst (pc := 102) hC dX11_then_102 ?_
            refine x_bipush (pc := 103) hC dX11_then_103 (by decide +kernel) ?_
            refine x_callS1 (As := [_, _, _]) (Bs := [_, _, _]) (pc := 105) hC (c_isIn E (by omega) (by omega) (by omega)) wX11_152 pX11_isIn rfl rfl (by exact Nat.le_of_ble_eq_true rfl) hR (by decide) (by decide) (by decide) rfl dX11_then_105 ?_
            refine x_ifB_ne (tgt := 114) (pc := 108) hC  dX11_then_108 (by decide) (fun c108 => ?_) (fun c108 => ?_)
            · refine x_aload_n (pc := 114) hC dX11_then_114 rfl ?_
              refine x_aload_n (pc := 115) hC dX11_then_115 rfl ?_
              refine x_getr (K := 0) (pc := 116) hC fX11_12_11 (by assumption) dX11_then_116 rfl rfl (by assumption) ?_
              refine x_callV1 (As := []) (Bs := []) (pc := 119) hC (c_onMask E hk hfs hfan) wX11_156_1 pX1_onMask (by assumption) rfl rfl (by exact Nat.le_of_ble_eq_true rfl) hR (by decide) (by decide) (by decide) rfl dX11_then_119 ?_
              refine x_iload_n (pc := 122) hC dX11_then_122 rfl ?_
              refine x_callV (As := [_, _]) (Bs := [_, _]) (pc := 123) hC (c_after E hw hz hpl (mask_in (by omega)) (n := n) (by omega) (by omega)) wX11_164_11 pX11_after (by assumption) rfl rfl (by exact Nat.le_of_ble_eq_true rfl) hR (by decide) (by decide) (by decide) rfl dX11_then_123 (fun r123 σ123 ρ123 ks123 q123 => ?_)
              obtain ⟨rfl, hnx123, hρ123, hks123, f2, f3⟩ := q123
              obtain rfl := hρ123.symm
              obtain rfl := hks123.symm
              have hpp := pass_play hpl rfl (m0F (σ 41)) n.toNat (by omega)
              rw [hpp.1] at f2
              rw [hpp.2] at f3
              obtain ⟨p1, p2, p3⟩ := play_pl hpl n.toNat (by omega)
              have p14 : playF z n.toNat 14 = z 14 := p3 14 (Or.inl (by decide))
              refine x_astore (L' := [_, _, _, _, _, _, _]) (pc := 126) hC dX11_then_126 rfl rfl ?_
              refine x_iload (pc := 128) hC dX11_then_128 rfl ?_
              refine x_if_eq (tgt := 144) (pc := 130) hC (by omega) dX11_then_130 (by decide) (fun c130 => ?_) (fun c130 => by (exfalso; omega))
              refine x_iload (pc := 144) hC dX11_then_144 rfl ?_
              refine x_if_eq (tgt := 160) (pc := 146) hC (by omega) dX11_then_146 (by decide) (fun c146 => ?_) (fun c146 => by (exfalso; omega))
              refine x_iload_n (pc := 160) hC dX11_then_160 rfl ?_
              refine x_if_ne (tgt := 172) (pc := 161) hC (by omega) dX11_then_161 (by decide) (fun c161 => ?_) (fun c161 => ?_)
              · refine x_aload (pc := 172) hC dX11_then_172 rfl ?_
                refine x_callV1 (As := []) (Bs := []) (pc := 174) hC (c_together E wn f2 p1.2.1) wX11_174_5 pX5_together (by assumption) rfl rfl (by exact Nat.le_of_ble_eq_true rfl) hR (by decide) (by decide) (by decide) rfl dX11_then_174 ?_
                refine x_ireturn hC hZ dX11_then_177 (by decide) (by decide) ?_
                refine ⟨congrArg (fun z => some (Value.int (iI z))) ?_, hnx123, rfl, rfl⟩
                unfold thenF
                rw [if_neg (by omega), if_neg (by omega), if_neg (by omega), if_pos (by omega), p14]
              · refine x_aload (pc := 164) hC dX11_then_164 rfl ?_
                refine x_callV1 (As := []) (Bs := []) (pc := 166) hC (c_greatest E wn f2 p1.2.1) wX11_171_5 pX5_greatest (by assumption) rfl rfl (by exact Nat.le_of_ble_eq_true rfl) hR (by decide) (by decide) (by decide) rfl dX11_then_166 ?_
                refine x_goto (tgt := 177) (pc := 169) hC dX11_then_169 (by decide) ?_
                refine x_ireturn hC hZ dX11_then_177 (by decide) (by decide) ?_
                refine ⟨congrArg (fun z => some (Value.int (iI z))) ?_, hnx123, rfl, rfl⟩
                unfold thenF
                rw [if_neg (by omega), if_neg (by omega), if_pos (by omega), p14]
            · refine x_bipush (pc := 111) hC dX11_then_111 (by decide +kernel) ?_
              refine x_ireturn hC hZ dX11_then_113 (by decide) (by decide) ?_
              refine ⟨congrArg (fun z => some (Value.int (iI z))) ?_, Nx.rf _, rfl, rfl⟩
              unfold thenF
              (repeat (first | rw [if_pos (by omega)] | rw [if_neg (by omega)]))
              all_goals (first | rfl | omega | assumption)
          · refine x_aload_n (pc := 61) hC dX11_then_61 rfl ?_
            refine x_getr (K := 0) (pc := 62) hC fX11_12_11 (by assumption) dX11_then_62 rfl rfl (by assumption) ?_
            refine x_getr (K := 2) (pc := 65) hC fX11_108_1 (by assumption) dX11_then_65 rfl rfl (by assumption) ?_
            refine x_iload_n (pc := 68) hC dX11_then_68 rfl ?_
            refine x_bipush (pc := 69) hC dX11_then_69 (by decide +kernel) ?_
            refine x_isub (pc := 71) hC dX11_then_71 ?_
            refine x_callV1 (As := [_]) (Bs := [_]) (pc := 72) hC (c_has E hs3 hsz hsit (by omega)) wX11_139_5 pX5_has (by assumption) rfl rfl (by exact Nat.le_of_ble_eq_true rfl) hR (by decide) (by decide) (by decide) rfl dX11_then_72 ?_
            refine x_ifB_eq (tgt := 82) (pc := 75) hC  dX11_then_75 (by decide) (fun c75 => ?_) (fun c75 => ?_)
            · refine x_iconst (pc := 82) hC dX11_then_82 ?_
              refine x_istore (L' := [_, _, _, _, _, _, _]) (pc := 83) hC dX11_then_83 rfl rfl ?_
              refine x_iload_n (pc := 85) hC dX11_then_85 rfl ?_
              refine x_if_ne (tgt := 101) (pc := 86) hC (by omega) dX11_then_86 (by decide) (fun c86 => ?_) (fun c86 => by (exfalso; omega))
              refine x_iload_n (pc := 101) hC dX11_then_101 rfl ?_
              refine x_iconst (pc := 102) hC dX11_then_102 ?_
              refine x_bipush (pc := 103) hC dX11_then_103 (by decide +kernel) ?_
              refine x_callS1 (As := [_, _, _]) (Bs := [_, _, _]) (pc := 105) hC (c_isIn E (by omega) (by omega) (by omega)) wX11_152 pX11_isIn rfl rfl (by exact Nat.le_of_ble_eq_true rfl) hR (by decide) (by decide) (by decide) rfl dX11_then_105 ?_
              refine x_ifB_ne (tgt := 114) (pc := 108) hC  dX11_then_108 (by decide) (fun c108 => ?_) (fun c108 => ?_)
              · refine x_aload_n (pc := 114) hC dX11_then_114 rfl ?_
                refine x_aload_n (pc := 115) hC dX11_then_115 rfl ?_
                refine x_getr (K := 0) (pc := 116) hC fX11_12_11 (by assumption) dX11_then_116 rfl rfl (by assumption) ?_
                refine x_callV1 (As := []) (Bs := []) (pc := 119) hC (c_onMask E hk hfs hfan) wX11_156_1 pX1_onMask (by assumption) rfl rfl (by exact Nat.le_of_ble_eq_true rfl) hR (by decide) (by decide) (by decide) rfl dX11_then_119 ?_
                refine x_iload_n (pc := 122) hC dX11_then_122 rfl ?_
                refine x_callV (As := [_, _]) (Bs := [_, _]) (pc := 123) hC (c_after E hw hz hpl (mask_in (by omega)) (n := n) (by omega) (by omega)) wX11_164_11 pX11_after (by assumption) rfl rfl (by exact Nat.le_of_ble_eq_true rfl) hR (by decide) (by decide) (by decide) rfl dX11_then_123 (fun r123 σ123 ρ123 ks123 q123 => ?_)
                obtain ⟨rfl, hnx123, hρ123, hks123, f2, f3⟩ := q123
                obtain rfl := hρ123.symm
                obtain rfl := hks123.symm
                have hpp := pass_play hpl rfl (m0F (σ 41)) n.toNat (by omega)
                rw [hpp.1] at f2
                rw [hpp.2] at f3
                obtain ⟨p1, p2, p3⟩ := play_pl hpl n.toNat (by omega)
                have p14 : playF z n.toNat 14 = z 14 := p3 14 (Or.inl (by decide))
                refine x_astore (L' := [_, _, _, _, _, _, _]) (pc := 126) hC dX11_then_126 rfl rfl ?_
                refine x_iload (pc := 128) hC dX11_then_128 rfl ?_
                refine x_if_eq (tgt := 144) (pc := 130) hC (by omega) dX11_then_130 (by decide) (fun c130 => ?_) (fun c130 => by (exfalso; omega))
                refine x_iload (pc := 144) hC dX11_then_144 rfl ?_
                refine x_if_eq (tgt := 160) (pc := 146) hC (by omega) dX11_then_146 (by decide) (fun c146 => ?_) (fun c146 => by (exfalso; omega))
                refine x_iload_n (pc := 160) hC dX11_then_160 rfl ?_
                refine x_if_ne (tgt := 172) (pc := 161) hC (by omega) dX11_then_161 (by decide) (fun c161 => ?_) (fun c161 => ?_)
                · refine x_aload (pc := 172) hC dX11_then_172 rfl ?_
                  refine x_callV1 (As := []) (Bs := []) (pc := 174) hC (c_together E wn f2 p1.2.1) wX11_174_5 pX5_together (by assumption) rfl rfl (by exact Nat.le_of_ble_eq_true rfl) hR (by decide) (by decide) (by decide) rfl dX11_then_174 ?_
                  refine x_ireturn hC hZ dX11_then_177 (by decide) (by decide) ?_
                  refine ⟨congrArg (fun z => some (Value.int (iI z))) ?_, hnx123, rfl, rfl⟩
                  unfold thenF
                  rw [if_neg (by omega), if_neg (by omega), if_neg (by omega), if_pos (by omega), p14]
                · refine x_aload (pc := 164) hC dX11_then_164 rfl ?_
                  refine x_callV1 (As := []) (Bs := []) (pc := 166) hC (c_greatest E wn f2 p1.2.1) wX11_171_5 pX5_greatest (by assumption) rfl rfl (by exact Nat.le_of_ble_eq_true rfl) hR (by decide) (by decide) (by decide) rfl dX11_then_166 ?_
                  refine x_goto (tgt := 177) (pc := 169) hC dX11_then_169 (by decide) ?_
                  refine x_ireturn hC hZ dX11_then_177 (by decide) (by decide) ?_
                  refine ⟨congrArg (fun z => some (Value.int (iI z))) ?_, hnx123, rfl, rfl⟩
                  unfold thenF
                  rw [if_neg (by omega), if_neg (by omega), if_pos (by omega), p14]
              · refine x_bipush (pc := 111) hC dX11_then_111 (by decide +kernel) ?_
                refine x_ireturn hC hZ dX11_then_113 (by decide) (by decide) ?_
                refine ⟨congrArg (fun z => some (Value.int (iI z))) ?_, Nx.rf _, rfl, rfl⟩
                unfold thenF
                (repeat (first | rw [if_pos (by omega)] | rw [if_neg (by omega)]))
                all_goals (first | rfl | omega | assumption)
            · refine x_iconst (pc := 78) hC dX11_then_78 ?_
              refine x_goto (tgt := 83) (pc := 79) hC dX11_then_79 (by decide) ?_
              refine x_istore (L' := [_, _, _, _, _, _, _]) (pc := 83) hC dX11_then_83 rfl rfl ?_
              refine x_iload_n (pc := 85) hC dX11_then_85 rfl ?_
              refine x_if_ne (tgt := 101) (pc := 86) hC (by omega) dX11_then_86 (by decide) (fun c86 => ?_) (fun c86 => by (exfalso; omega))
              refine x_iload_n (pc := 101) hC dX11_then_101 rfl ?_
              refine x_iconst (pc := 102) hC dX11_then_102 ?_
              refine x_bipush (pc := 103) hC dX11_then_103 (by decide +kernel) ?_
              refine x_callS1 (As := [_, _, _]) (Bs := [_, _, _]) (pc := 105) hC (c_isIn E (by omega) (by omega) (by omega)) wX11_152 pX11_isIn rfl rfl (by exact Nat.le_of_ble_eq_true rfl) hR (by decide) (by decide) (by decide) rfl dX11_then_105 ?_
              refine x_ifB_ne (tgt := 114) (pc := 108) hC  dX11_then_108 (by decide) (fun c108 => ?_) (fun c108 => ?_)
              · refine x_aload_n (pc := 114) hC dX11_then_114 rfl ?_
                refine x_aload_n (pc := 115) hC dX11_then_115 rfl ?_
                refine x_getr (K := 0) (pc := 116) hC fX11_12_11 (by assumption) dX11_then_116 rfl rfl (by assumption) ?_
                refine x_callV1 (As := []) (Bs := []) (pc := 119) hC (c_onMask E hk hfs hfan) wX11_156_1 pX1_onMask (by assumption) rfl rfl (by exact Nat.le_of_ble_eq_true rfl) hR (by decide) (by decide) (by decide) rfl dX11_then_119 ?_
                refine x_iload_n (pc := 122) hC dX11_then_122 rfl ?_
                refine x_callV (As := [_, _]) (Bs := [_, _]) (pc := 123) hC (c_after E hw hz hpl (mask_in (by omega)) (n := n) (by omega) (by omega)) wX11_164_11 pX11_after (by assumption) rfl rfl (by exact Nat.le_of_ble_eq_true rfl) hR (by decide) (by decide) (by decide) rfl dX11_then_123 (fun r123 σ123 ρ123 ks123 q123 => ?_)
                obtain ⟨rfl, hnx123, hρ123, hks123, f2, f3⟩ := q123
                obtain rfl := hρ123.symm
                obtain rfl := hks123.symm
                have hpp := pass_play hpl rfl (m0F (σ 41)) n.toNat (by omega)
                rw [hpp.1] at f2
                rw [hpp.2] at f3
                obtain ⟨p1, p2, p3⟩ := play_pl hpl n.toNat (by omega)
                have p14 : playF z n.toNat 14 = z 14 := p3 14 (Or.inl (by decide))
                refine x_astore (L' := [_, _, _, _, _, _, _]) (pc := 126) hC dX11_then_126 rfl rfl ?_
                refine x_iload (pc := 128) hC dX11_then_128 rfl ?_
                refine x_if_eq (tgt := 144) (pc := 130) hC (by omega) dX11_then_130 (by decide) (fun c130 => ?_) (fun c130 => by (exfalso; omega))
                refine x_iload (pc := 144) hC dX11_then_144 rfl ?_
                refine x_if_eq (tgt := 160) (pc := 146) hC (by omega) dX11_then_146 (by decide) (fun c146 => by (exfalso; omega)) (fun c146 => ?_)
                refine x_aload (pc := 149) hC dX11_then_149 rfl ?_
                refine x_getr (K := 3) (pc := 151) hC fX11_168_5 (by assumption) dX11_then_151 rfl rfl (by assumption) ?_
                refine x_iload_n (pc := 154) hC dX11_then_154 rfl ?_
                refine x_bipush (pc := 155) hC dX11_then_155 (by decide +kernel) ?_
                refine x_isub (pc := 157) hC dX11_then_157 ?_
                refine x_iald (pc := 158) hC (by assumption) (by omega) dX11_then_158 ?_
                refine x_ireturn hC hZ dX11_then_159 (by decide) (by decide) ?_
                refine ⟨congrArg (fun z => some (Value.int (iI z))) ?_, hnx123, rfl, rfl⟩
                unfold thenF
                rw [if_neg (by omega), if_neg (by omega), if_neg (by omega), if_neg (by omega), if_neg (by omega), f3]
                exact playM_six hpl (m0_six _ _) _ (by omega) _ (by omega) (by omega)
              · refine x_bipush (pc := 111) hC dX11_then_111 (by decide +kernel) ?_
                refine x_ireturn hC hZ dX11_then_113 (by decide) (by decide) ?_
                refine ⟨congrArg (fun z => some (Value.int (iI z))) ?_, Nx.rf _, rfl, rfl⟩
                unfold thenF
                (repeat (first | rw [if_pos (by omega)] | rw [if_neg (by omega)]))
                all_goals (first | rfl | omega | assumption)
        · refine x_iconst (pc := 43) hC dX11_then_43 ?_
          refine x_goto (tgt := 48) (pc := 44) hC dX11_then_44 (by decide) ?_
          refine x_istore (L' := [_, _, _, _, _, _, _]) (pc := 48) hC dX11_then_48 rfl rfl ?_
          refine x_iload_n (pc := 50) hC dX11_then_50 rfl ?_
          refine x_bipush (pc := 51) hC dX11_then_51 (by decide +kernel) ?_
          refine x_bipush (pc := 53) hC dX11_then_53 (by decide +kernel) ?_
          refine x_callS1 (As := [_, _, _]) (Bs := [_, _, _]) (pc := 55) hC (c_isIn E (by omega) (by omega) (by omega)) wX11_152 pX11_isIn rfl rfl (by exact Nat.le_of_ble_eq_true rfl) hR (by decide) (by decide) (by decide) rfl dX11_then_55 ?_
          refine x_ifB_eq (tgt := 82) (pc := 58) hC  dX11_then_58 (by decide) (fun c58 => ?_) (fun c58 => ?_)
          · refine x_iconst (pc := 82) hC dX11_then_82 ?_
            refine x_istore (L' := [_, _, _, _, _, _, _]) (pc := 83) hC dX11_then_83 rfl rfl ?_
            refine x_iload_n (pc := 85) hC dX11_then_85 rfl ?_
            refine x_if_ne (tgt := 101) (pc := 86) hC (by omega) dX11_then_86 (by decide) (fun c86 => ?_) (fun c86 => by (exfalso; omega))
            refine x_iload_n (pc := 101) hC dX11_then_101 rfl ?_
            refine x_iconst (pc := 102) hC dX11_then_102 ?_
            refine x_bipush (pc := 103) hC dX11_then_103 (by decide +kernel) ?_
            refine x_callS1 (As := [_, _, _]) (Bs := [_, _, _]) (pc := 105) hC (c_isIn E (by omega) (by omega) (by omega)) wX11_152 pX11_isIn rfl rfl (by exact Nat.le_of_ble_eq_true rfl) hR (by decide) (by decide) (by decide) rfl dX11_then_105 ?_
            refine x_ifB_ne (tgt := 114) (pc := 108) hC  dX11_then_108 (by decide) (fun c108 => ?_) (fun c108 => ?_)
            · refine x_aload_n (pc := 114) hC dX11_then_114 rfl ?_
              refine x_aload_n (pc := 115) hC dX11_then_115 rfl ?_
              refine x_getr (K := 0) (pc := 116) hC fX11_12_11 (by assumption) dX11_then_116 rfl rfl (by assumption) ?_
              refine x_callV1 (As := []) (Bs := []) (pc := 119) hC (c_onMask E hk hfs hfan) wX11_156_1 pX1_onMask (by assumption) rfl rfl (by exact Nat.le_of_ble_eq_true rfl) hR (by decide) (by decide) (by decide) rfl dX11_then_119 ?_
              refine x_iload_n (pc := 122) hC dX11_then_122 rfl ?_
              refine x_callV (As := [_, _]) (Bs := [_, _]) (pc := 123) hC (c_after E hw hz hpl (mask_in (by omega)) (n := n) (by omega) (by omega)) wX11_164_11 pX11_after (by assumption) rfl rfl (by exact Nat.le_of_ble_eq_true rfl) hR (by decide) (by decide) (by decide) rfl dX11_then_123 (fun r123 σ123 ρ123 ks123 q123 => ?_)
              obtain ⟨rfl, hnx123, hρ123, hks123, f2, f3⟩ := q123
              obtain rfl := hρ123.symm
              obtain rfl := hks123.symm
              have hpp := pass_play hpl rfl (m0F (σ 41)) n.toNat (by omega)
              rw [hpp.1] at f2
              rw [hpp.2] at f3
              obtain ⟨p1, p2, p3⟩ := play_pl hpl n.toNat (by omega)
              have p14 : playF z n.toNat 14 = z 14 := p3 14 (Or.inl (by decide))
              refine x_astore (L' := [_, _, _, _, _, _, _]) (pc := 126) hC dX11_then_126 rfl rfl ?_
              refine x_iload (pc := 128) hC dX11_then_128 rfl ?_
              refine x_if_eq (tgt := 144) (pc := 130) hC (by omega) dX11_then_130 (by decide) (fun c130 => by (exfalso; omega)) (fun c130 => ?_)
              refine x_aload (pc := 133) hC dX11_then_133 rfl ?_
              refine x_getr (K := 1) (pc := 135) hC fX11_133_5 (by assumption) dX11_then_135 rfl rfl (by assumption) ?_
              refine x_iload_n (pc := 138) hC dX11_then_138 rfl ?_
              refine x_bipush (pc := 139) hC dX11_then_139 (by decide +kernel) ?_
              refine x_isub (pc := 141) hC dX11_then_141 ?_
              refine x_iald (pc := 142) hC (by assumption) (by omega) dX11_then_142 ?_
              refine x_ireturn hC hZ dX11_then_143 (by decide) (by decide) ?_
              refine ⟨congrArg (fun z => some (Value.int (iI z))) ?_, hnx123, rfl, rfl⟩
              unfold thenF
              rw [if_neg (by omega), if_neg (by omega), if_neg (by omega), if_neg (by omega), if_pos (by omega), show 1 + w - 10 = 1 + (w - 10) by omega]
              exact (f2.2 (w - 10) (by omega) (by omega)).2.1
            · refine x_bipush (pc := 111) hC dX11_then_111 (by decide +kernel) ?_
              refine x_ireturn hC hZ dX11_then_113 (by decide) (by decide) ?_
              refine ⟨congrArg (fun z => some (Value.int (iI z))) ?_, Nx.rf _, rfl, rfl⟩
              unfold thenF
              (repeat (first | rw [if_pos (by omega)] | rw [if_neg (by omega)]))
              all_goals (first | rfl | omega | assumption)
          · refine x_aload_n (pc := 61) hC dX11_then_61 rfl ?_
            refine x_getr (K := 0) (pc := 62) hC fX11_12_11 (by assumption) dX11_then_62 rfl rfl (by assumption) ?_
            refine x_getr (K := 2) (pc := 65) hC fX11_108_1 (by assumption) dX11_then_65 rfl rfl (by assumption) ?_
            refine x_iload_n (pc := 68) hC dX11_then_68 rfl ?_
            refine x_bipush (pc := 69) hC dX11_then_69 (by decide +kernel) ?_
            refine x_isub (pc := 71) hC dX11_then_71 ?_
            refine x_callV1 (As := [_]) (Bs := [_]) (pc := 72) hC (c_has E hs3 hsz hsit (by omega)) wX11_139_5 pX5_has (by assumption) rfl rfl (by exact Nat.le_of_ble_eq_true rfl) hR (by decide) (by decide) (by decide) rfl dX11_then_72 ?_
            refine x_ifB_eq (tgt := 82) (pc := 75) hC  dX11_then_75 (by decide) (fun c75 => ?_) (fun c75 => ?_)
            · refine x_iconst (pc := 82) hC dX11_then_82 ?_
              refine x_istore (L' := [_, _, _, _, _, _, _]) (pc := 83) hC dX11_then_83 rfl rfl ?_
              refine x_iload_n (pc := 85) hC dX11_then_85 rfl ?_
              refine x_if_ne (tgt := 101) (pc := 86) hC (by omega) dX11_then_86 (by decide) (fun c86 => ?_) (fun c86 => by (exfalso; omega))
              refine x_iload_n (pc := 101) hC dX11_then_101 rfl ?_
              refine x_iconst (pc := 102) hC dX11_then_102 ?_
              refine x_bipush (pc := 103) hC dX11_then_103 (by decide +kernel) ?_
              refine x_callS1 (As := [_, _, _]) (Bs := [_, _, _]) (pc := 105) hC (c_isIn E (by omega) (by omega) (by omega)) wX11_152 pX11_isIn rfl rfl (by exact Nat.le_of_ble_eq_true rfl) hR (by decide) (by decide) (by decide) rfl dX11_then_105 ?_
              refine x_ifB_ne (tgt := 114) (pc := 108) hC  dX11_then_108 (by decide) (fun c108 => ?_) (fun c108 => ?_)
              · refine x_aload_n (pc := 114) hC dX11_then_114 rfl ?_
                refine x_aload_n (pc := 115) hC dX11_then_115 rfl ?_
                refine x_getr (K := 0) (pc := 116) hC fX11_12_11 (by assumption) dX11_then_116 rfl rfl (by assumption) ?_
                refine x_callV1 (As := []) (Bs := []) (pc := 119) hC (c_onMask E hk hfs hfan) wX11_156_1 pX1_onMask (by assumption) rfl rfl (by exact Nat.le_of_ble_eq_true rfl) hR (by decide) (by decide) (by decide) rfl dX11_then_119 ?_
                refine x_iload_n (pc := 122) hC dX11_then_122 rfl ?_
                refine x_callV (As := [_, _]) (Bs := [_, _]) (pc := 123) hC (c_after E hw hz hpl (mask_in (by omega)) (n := n) (by omega) (by omega)) wX11_164_11 pX11_after (by assumption) rfl rfl (by exact Nat.le_of_ble_eq_true rfl) hR (by decide) (by decide) (by decide) rfl dX11_then_123 (fun r123 σ123 ρ123 ks123 q123 => ?_)
                obtain ⟨rfl, hnx123, hρ123, hks123, f2, f3⟩ := q123
                obtain rfl := hρ123.symm
                obtain rfl := hks123.symm
                have hpp := pass_play hpl rfl (m0F (σ 41)) n.toNat (by omega)
                rw [hpp.1] at f2
                rw [hpp.2] at f3
                obtain ⟨p1, p2, p3⟩ := play_pl hpl n.toNat (by omega)
                have p14 : playF z n.toNat 14 = z 14 := p3 14 (Or.inl (by decide))
                refine x_astore (L' := [_, _, _, _, _, _, _]) (pc := 126) hC dX11_then_126 rfl rfl ?_
                refine x_iload (pc := 128) hC dX11_then_128 rfl ?_
                refine x_if_eq (tgt := 144) (pc := 130) hC (by omega) dX11_then_130 (by decide) (fun c130 => by (exfalso; omega)) (fun c130 => ?_)
                refine x_aload (pc := 133) hC dX11_then_133 rfl ?_
                refine x_getr (K := 1) (pc := 135) hC fX11_133_5 (by assumption) dX11_then_135 rfl rfl (by assumption) ?_
                refine x_iload_n (pc := 138) hC dX11_then_138 rfl ?_
                refine x_bipush (pc := 139) hC dX11_then_139 (by decide +kernel) ?_
                refine x_isub (pc := 141) hC dX11_then_141 ?_
                refine x_iald (pc := 142) hC (by assumption) (by omega) dX11_then_142 ?_
                refine x_ireturn hC hZ dX11_then_143 (by decide) (by decide) ?_
                refine ⟨congrArg (fun z => some (Value.int (iI z))) ?_, hnx123, rfl, rfl⟩
                unfold thenF
                rw [if_neg (by omega), if_neg (by omega), if_neg (by omega), if_neg (by omega), if_pos (by omega), show 1 + w - 10 = 1 + (w - 10) by omega]
                exact (f2.2 (w - 10) (by omega) (by omega)).2.1
              · refine x_bipush (pc := 111) hC dX11_then_111 (by decide +kernel) ?_
                refine x_ireturn hC hZ dX11_then_113 (by decide) (by decide) ?_
                refine ⟨congrArg (fun z => some (Value.int (iI z))) ?_, Nx.rf _, rfl, rfl⟩
                unfold thenF
                (repeat (first | rw [if_pos (by omega)] | rw [if_neg (by omega)]))
                all_goals (first | rfl | omega | assumption)
            · refine x_iconst (pc := 78) hC dX11_then_78 ?_
              refine x_goto (tgt := 83) (pc := 79) hC dX11_then_79 (by decide) ?_
              refine x_istore (L' := [_, _, _, _, _, _, _]) (pc := 83) hC dX11_then_83 rfl rfl ?_
              refine x_iload_n (pc := 85) hC dX11_then_85 rfl ?_
              refine x_if_ne (tgt := 101) (pc := 86) hC (by omega) dX11_then_86 (by decide) (fun c86 => ?_) (fun c86 => by (exfalso; omega))
              refine x_iload_n (pc := 101) hC dX11_then_101 rfl ?_
              refine x_iconst (pc := 102) hC dX11_then_102 ?_
              refine x_bipush (pc := 103) hC dX11_then_103 (by decide +kernel) ?_
              refine x_callS1 (As := [_, _, _]) (Bs := [_, _, _]) (pc := 105) hC (c_isIn E (by omega) (by omega) (by omega)) wX11_152 pX11_isIn rfl rfl (by exact Nat.le_of_ble_eq_true rfl) hR (by decide) (by decide) (by decide) rfl dX11_then_105 ?_
              refine x_ifB_ne (tgt := 114) (pc := 108) hC  dX11_then_108 (by decide) (fun c108 => ?_) (fun c108 => ?_)
              · refine x_aload_n (pc := 114) hC dX11_then_114 rfl ?_
                refine x_aload_n (pc := 115) hC dX11_then_115 rfl ?_
                refine x_getr (K := 0) (pc := 116) hC fX11_12_11 (by assumption) dX11_then_116 rfl rfl (by assumption) ?_
                refine x_callV1 (As := []) (Bs := []) (pc := 119) hC (c_onMask E hk hfs hfan) wX11_156_1 pX1_onMask (by assumption) rfl rfl (by exact Nat.le_of_ble_eq_true rfl) hR (by decide) (by decide) (by decide) rfl dX11_then_119 ?_
                refine x_iload_n (pc := 122) hC dX11_then_122 rfl ?_
                refine x_callV (As := [_, _]) (Bs := [_, _]) (pc := 123) hC (c_after E hw hz hpl (mask_in (by omega)) (n := n) (by omega) (by omega)) wX11_164_11 pX11_after (by assumption) rfl rfl (by exact Nat.le_of_ble_eq_true rfl) hR (by decide) (by decide) (by decide) rfl dX11_then_123 (fun r123 σ123 ρ123 ks123 q123 => ?_)
                obtain ⟨rfl, hnx123, hρ123, hks123, f2, f3⟩ := q123
                obtain rfl := hρ123.symm
                obtain rfl := hks123.symm
                have hpp := pass_play hpl rfl (m0F (σ 41)) n.toNat (by omega)
                rw [hpp.1] at f2
                rw [hpp.2] at f3
                obtain ⟨p1, p2, p3⟩ := play_pl hpl n.toNat (by omega)
                have p14 : playF z n.toNat 14 = z 14 := p3 14 (Or.inl (by decide))
                refine x_astore (L' := [_, _, _, _, _, _, _]) (pc := 126) hC dX11_then_126 rfl rfl ?_
                refine x_iload (pc := 128) hC dX11_then_128 rfl ?_
                refine x_if_eq (tgt := 144) (pc := 130) hC (by omega) dX11_then_130 (by decide) (fun c130 => by (exfalso; omega)) (fun c130 => ?_)
                refine x_aload (pc := 133) hC dX11_then_133 rfl ?_
                refine x_getr (K := 1) (pc := 135) hC fX11_133_5 (by assumption) dX11_then_135 rfl rfl (by assumption) ?_
                refine x_iload_n (pc := 138) hC dX11_then_138 rfl ?_
                refine x_bipush (pc := 139) hC dX11_then_139 (by decide +kernel) ?_
                refine x_isub (pc := 141) hC dX11_then_141 ?_
                refine x_iald (pc := 142) hC (by assumption) (by omega) dX11_then_142 ?_
                refine x_ireturn hC hZ dX11_then_143 (by decide) (by decide) ?_
                refine ⟨congrArg (fun z => some (Value.int (iI z))) ?_, hnx123, rfl, rfl⟩
                unfold thenF
                rw [if_neg (by omega), if_neg (by omega), if_neg (by omega), if_neg (by omega), if_pos (by omega), show 1 + w - 10 = 1 + (w - 10) by omega]
                exact (f2.2 (w - 10) (by omega) (by omega)).2.1
              · refine x_bipush (pc := 111) hC dX11_then_111 (by decide +kernel) ?_
                refine x_ireturn hC hZ dX11_then_113 (by decide) (by decide) ?_
                refine ⟨congrArg (fun z => some (Value.int (iI z))) ?_, Nx.rf _, rfl, rfl⟩
                unfold thenF
                (repeat (first | rw [if_pos (by omega)] | rw [if_neg (by omega)]))
                all_goals (first | rfl | omega | assumption)

set_option maxHeartbeats 4000000 in
set_option maxRecDepth 100000 in
theorem c_meets (E : xE) {σ : xM} {ρ : xR} {ks : xKs} (hw : WK ks ρ) {z : zS} (hz : HZ σ ρ ks 1 z) (hpl : PlOk z) {f f2 n : Int} (hf0 : rg f) (hf20 : rg f2) (hn0 : rg n) (ht : z 0 + 100 < 900000) : Sp E yX11_meets kX11_meets 3 0 0 [.ref 0, .int (iI f), .int (iI f2), .int (iI n)] σ ρ ks (fun r σ' ρ' ks' => r = some (.int (iI (meetsA z f f2 n))) ∧ Nx σ σ' ∧ ρ' = ρ ∧ ks' = ks) := by
  obtain ⟨w0, w43, ⟨wr0, wr1, wr3, wr4, wr5⟩, wh, wk, wn, wt⟩ := id hw
  have hk := wh.hk
  obtain ⟨k1, k2, r0, r2, hs3⟩ := id hk
  have hfs := hz.fans
  have hsz := hz.sit
  obtain ⟨⟨hz1, -⟩, -, ⟨rq, hrq, hrq2, hrm⟩, hz4, ⟨hz6, -⟩, hz7, hz8, ⟨hz10, -⟩, ⟨hz12, -⟩, ⟨hz14, -⟩⟩ := id hz
  have hfan := hpl.1
  have hsit := hpl.2.1
  have h13 := hpl.1.1
  have h14 := hpl.2.1.1
  have hz00 := hpl.2.2.2
  obtain ⟨n0, ⟨n1, n2, n3, n4, n5⟩, m0, m1, m2, m3, m4⟩ := id wn
  refine x_enter (own := RX11) (L := [_, _, _, _, _, _]) (by decide +kernel) rfl (by exact Nat.le_of_ble_eq_true rfl) rfl (fun p e R s m args below meth c Z hZ hC hR hin => ?_)
  by_cases hf : 0 ≤ f ∧ f ≤ z 13 - 1
  · obtain ⟨y, hy, hfa⟩ := hfs.2 f (by omega) (by omega)
    obtain ⟨hyk, hfz, htz⟩ := id hfa
    have hci := kci_fam (z (22 + f))
    obtain ⟨a0, a1, a2, a3, a4, a5, a6⟩ := id hfz
    have hfo := hfan.2 f (by omega) (by omega)
    obtain ⟨b1, b2, b3, b4, b5, b6⟩ := id hfo
    have hf4 : 0 ≤ f ∧ f < 4 := ⟨by omega, by omega⟩
    by_cases hf2 : 0 ≤ f2 ∧ f2 ≤ z 13 - 1
    · obtain ⟨y2, hy2, hfa2⟩ := hfs.2 f2 (by omega) (by omega)
      have hyk2 := hfa2.1
      refine x_aload_n (pc := 0) hC dX11_meets_0 rfl ?_
      refine x_getr (K := 0) (pc := 1) hC fX11_12_11 (by assumption) dX11_meets_1 rfl rfl (by assumption) ?_
      refine x_iload_n (pc := 4) hC dX11_meets_4 rfl ?_
      refine x_callV1 (As := [_]) (Bs := [_]) (pc := 5) hC (c_fanOf E hk hfs hfan (f := f) ⟨by omega, by omega⟩ hy) wX11_81_1 pX1_fanOf (by assumption) rfl rfl (by exact Nat.le_of_ble_eq_true rfl) hR (by decide) (by decide) (by decide) rfl dX11_meets_5 ?_
      refine x_astore (L' := [_, _, _, _, _, _]) (pc := 8) hC dX11_meets_8 rfl rfl ?_
      refine x_aload_n (pc := 10) hC dX11_meets_10 rfl ?_
      refine x_getr (K := 0) (pc := 11) hC fX11_12_11 (by assumption) dX11_meets_11 rfl rfl (by assumption) ?_
      refine x_iload_n (pc := 14) hC dX11_meets_14 rfl ?_
      refine x_callV1 (As := [_]) (Bs := [_]) (pc := 15) hC (c_fanOf E hk hfs hfan (f := f2) ⟨by omega, by omega⟩ hy2) wX11_81_1 pX1_fanOf (by assumption) rfl rfl (by exact Nat.le_of_ble_eq_true rfl) hR (by decide) (by decide) (by decide) rfl dX11_meets_15 ?_
      refine x_astore (L' := [_, _, _, _, _, _]) (pc := 18) hC dX11_meets_18 rfl rfl ?_
      refine x_aload (pc := 20) hC dX11_meets_20 rfl ?_
      refine x_ifnull_r (pc := 22) hC dX11_meets_22 ?_
      refine x_aload (pc := 25) hC dX11_meets_25 rfl ?_
      refine x_ifnonnull_r (tgt := 32) (pc := 27) hC dX11_meets_27 (by decide) ?_
      refine x_iload_n (pc := 32) hC dX11_meets_32 rfl ?_
      refine x_iload_n (pc := 33) hC dX11_meets_33 rfl ?_
      refine x_icmp_eq (tgt := 47) (pc := 34) hC (by omega) (by omega) dX11_meets_34 (by decide) (fun c34 => ?_) (fun c34 => ?_)
      · refine x_bipush (pc := 47) hC dX11_meets_47 (by decide +kernel) ?_
        refine x_ireturn hC hZ dX11_meets_49 (by decide) (by decide) ?_
        refine ⟨congrArg (fun z => some (Value.int (iI z))) ?_, Nx.rf _, rfl, rfl⟩
        unfold meetsA
        (repeat (first | rw [if_pos (by omega)] | rw [if_neg (by omega)]))
        all_goals (first | rfl | omega | assumption)
      · refine x_iload_n (pc := 37) hC dX11_meets_37 rfl ?_
        refine x_iconst (pc := 38) hC dX11_meets_38 ?_
        refine x_bipush (pc := 39) hC dX11_meets_39 (by decide +kernel) ?_
        refine x_callS1 (As := [_, _, _]) (Bs := [_, _, _]) (pc := 41) hC (c_isIn E (by omega) (by omega) (by omega)) wX11_152 pX11_isIn rfl rfl (by exact Nat.le_of_ble_eq_true rfl) hR (by decide) (by decide) (by decide) rfl dX11_meets_41 ?_
        refine x_ifB_ne (tgt := 50) (pc := 44) hC  dX11_meets_44 (by decide) (fun c44 => ?_) (fun c44 => ?_)
        · refine x_aload_n (pc := 50) hC dX11_meets_50 rfl ?_
          refine x_aload (pc := 51) hC dX11_meets_51 rfl ?_
          refine x_aload (pc := 53) hC dX11_meets_53 rfl ?_
          refine x_iload_n (pc := 55) hC dX11_meets_55 rfl ?_
          refine x_iconst (pc := 56) hC dX11_meets_56 ?_
          refine x_callV1 (As := [_, _, _, _]) (Bs := [_, _, _, _]) (pc := 57) hC (c_meetings E hw hz hpl hfa (by omega) hfa2 (by omega) (n := n) (l := 0) (by omega) (by omega)) wX11_198_11 pX11_meetings (by assumption) rfl rfl (by exact Nat.le_of_ble_eq_true rfl) hR (by decide) (by decide) (by decide) rfl dX11_meets_57 ?_
          refine x_ireturn hC hZ dX11_meets_60 (by decide) (by decide) ?_
          refine ⟨congrArg (fun z => some (Value.int (iI z))) ?_, Nx.rf _, rfl, rfl⟩
          unfold meetsA
          (repeat (first | rw [if_pos (by omega)] | rw [if_neg (by omega)]))
          all_goals (first | rfl | omega | assumption)
        · refine x_bipush (pc := 47) hC dX11_meets_47 (by decide +kernel) ?_
          refine x_ireturn hC hZ dX11_meets_49 (by decide) (by decide) ?_
          refine ⟨congrArg (fun z => some (Value.int (iI z))) ?_, Nx.rf _, rfl, rfl⟩
          unfold meetsA
          (repeat (first | rw [if_pos (by omega)] | rw [if_neg (by omega)]))
          all_goals (first | rfl | omega | assumption)
    · refine x_aload_n (pc := 0) hC dX11_meets_0 rfl ?_
      refine x_getr (K := 0) (pc := 1) hC fX11_12_11 (by assumption) dX11_meets_1 rfl rfl (by assumption) ?_
      refine x_iload_n (pc := 4) hC dX11_meets_4 rfl ?_
      refine x_callV1 (As := [_]) (Bs := [_]) (pc := 5) hC (c_fanOf E hk hfs hfan (f := f) ⟨by omega, by omega⟩ hy) wX11_81_1 pX1_fanOf (by assumption) rfl rfl (by exact Nat.le_of_ble_eq_true rfl) hR (by decide) (by decide) (by decide) rfl dX11_meets_5 ?_
      refine x_astore (L' := [_, _, _, _, _, _]) (pc := 8) hC dX11_meets_8 rfl rfl ?_
      refine x_aload_n (pc := 10) hC dX11_meets_10 rfl ?_
      refine x_getr (K := 0) (pc := 11) hC fX11_12_11 (by assumption) dX11_meets_11 rfl rfl (by assumption) ?_
      refine x_iload_n (pc := 14) hC dX11_meets_14 rfl ?_
      refine x_callV1 (As := [_]) (Bs := [_]) (pc := 15) hC (c_fanOfN E hk hfs hfan (f := f2) hf20 hf2) wX11_81_1 pX1_fanOf (by assumption) rfl rfl (by exact Nat.le_of_ble_eq_true rfl) hR (by decide) (by decide) (by decide) rfl dX11_meets_15 ?_
      refine x_astoreN (L' := [_, _, _, _, _, _]) (pc := 18) hC dX11_meets_18 rfl rfl ?_
      refine x_aload (pc := 20) hC dX11_meets_20 rfl ?_
      refine x_ifnull_r (pc := 22) hC dX11_meets_22 ?_
      refine x_aloadN (pc := 25) hC dX11_meets_25 rfl ?_
      refine x_ifnonnull_n (pc := 27) hC dX11_meets_27 ?_
      refine x_iconst (pc := 30) hC dX11_meets_30 ?_
      refine x_ireturn hC hZ dX11_meets_31 (by decide) (by decide) ?_
      refine ⟨congrArg (fun z => some (Value.int (iI z))) ?_, Nx.rf _, rfl, rfl⟩
      unfold meetsA
      (repeat (first | rw [if_pos (by omega)] | rw [if_neg (by omega)]))
      all_goals (first | rfl | omega | assumption)
  · by_cases hf2 : 0 ≤ f2 ∧ f2 ≤ z 13 - 1
    · obtain ⟨y2, hy2, hfa2⟩ := hfs.2 f2 (by omega) (by omega)
      refine x_aload_n (pc := 0) hC dX11_meets_0 rfl ?_
      refine x_getr (K := 0) (pc := 1) hC fX11_12_11 (by assumption) dX11_meets_1 rfl rfl (by assumption) ?_
      refine x_iload_n (pc := 4) hC dX11_meets_4 rfl ?_
      refine x_callV1 (As := [_]) (Bs := [_]) (pc := 5) hC (c_fanOfN E hk hfs hfan (f := f) hf0 hf) wX11_81_1 pX1_fanOf (by assumption) rfl rfl (by exact Nat.le_of_ble_eq_true rfl) hR (by decide) (by decide) (by decide) rfl dX11_meets_5 ?_
      refine x_astoreN (L' := [_, _, _, _, _, _]) (pc := 8) hC dX11_meets_8 rfl rfl ?_
      refine x_aload_n (pc := 10) hC dX11_meets_10 rfl ?_
      refine x_getr (K := 0) (pc := 11) hC fX11_12_11 (by assumption) dX11_meets_11 rfl rfl (by assumption) ?_
      refine x_iload_n (pc := 14) hC dX11_meets_14 rfl ?_
      refine x_callV1 (As := [_]) (Bs := [_]) (pc := 15) hC (c_fanOf E hk hfs hfan (f := f2) ⟨by omega, by omega⟩ hy2) wX11_81_1 pX1_fanOf (by assumption) rfl rfl (by exact Nat.le_of_ble_eq_true rfl) hR (by decide) (by decide) (by decide) rfl dX11_meets_15 ?_
      refine x_astore (L' := [_, _, _, _, _, _]) (pc := 18) hC dX11_meets_18 rfl rfl ?_
      refine x_aloadN (pc := 20) hC dX11_meets_20 rfl ?_
      refine x_ifnull_n (tgt := 30) (pc := 22) hC dX11_meets_22 (by decide) ?_
      refine x_iconst (pc := 30) hC dX11_meets_30 ?_
      refine x_ireturn hC hZ dX11_meets_31 (by decide) (by decide) ?_
      refine ⟨congrArg (fun z => some (Value.int (iI z))) ?_, Nx.rf _, rfl, rfl⟩
      unfold meetsA
      (repeat (first | rw [if_pos (by omega)] | rw [if_neg (by omega)]))
      all_goals (first | rfl | omega | assumption)
    · refine x_aload_n (pc := 0) hC dX11_meets_0 rfl ?_
      refine x_getr (K := 0) (pc := 1) hC fX11_12_11 (by assumption) dX11_meets_1 rfl rfl (by assumption) ?_
      refine x_iload_n (pc := 4) hC dX11_meets_4 rfl ?_
      refine x_callV1 (As := [_]) (Bs := [_]) (pc := 5) hC (c_fanOfN E hk hfs hfan (f := f) hf0 hf) wX11_81_1 pX1_fanOf (by assumption) rfl rfl (by exact Nat.le_of_ble_eq_true rfl) hR (by decide) (by decide) (by decide) rfl dX11_meets_5 ?_
      refine x_astoreN (L' := [_, _, _, _, _, _]) (pc := 8) hC dX11_meets_8 rfl rfl ?_
      refine x_aload_n (pc := 10) hC dX11_meets_10 rfl ?_
      refine x_getr (K := 0) (pc := 11) hC fX11_12_11 (by assumption) dX11_meets_11 rfl rfl (by assumption) ?_
      refine x_iload_n (pc := 14) hC dX11_meets_14 rfl ?_
      refine x_callV1 (As := [_]) (Bs := [_]) (pc := 15) hC (c_fanOfN E hk hfs hfan (f := f2) hf20 hf2) wX11_81_1 pX1_fanOf (by assumption) rfl rfl (by exact Nat.le_of_ble_eq_true rfl) hR (by decide) (by decide) (by decide) rfl dX11_meets_15 ?_
      refine x_astoreN (L' := [_, _, _, _, _, _]) (pc := 18) hC dX11_meets_18 rfl rfl ?_
      refine x_aloadN (pc := 20) hC dX11_meets_20 rfl ?_
      refine x_ifnull_n (tgt := 30) (pc := 22) hC dX11_meets_22 (by decide) ?_
      refine x_iconst (pc := 30) hC dX11_meets_30 ?_
      refine x_ireturn hC hZ dX11_meets_31 (by decide) (by decide) ?_
      refine ⟨congrArg (fun z => some (Value.int (iI z))) ?_, Nx.rf _, rfl, rfl⟩
      unfold meetsA
      (repeat (first | rw [if_pos (by omega)] | rw [if_neg (by omega)]))
      all_goals (first | rfl | omega | assumption)
