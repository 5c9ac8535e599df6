/-! THE LAW, its cases 24 to 27 -/
set_option maxHeartbeats 4000000 in
set_option maxRecDepth 100000 in
theorem lw_late {E : xE} {p : Program} {e : Env} {R : Room} {s : State} {m : MethodId} {args : Array Value} {below : List Frame} {meth : Method} {c : Code} {Z : State → Prop} (hC : XC E p R s m args meth c cL_law RL ret 4) (hR : xRm R 1312 600000 7302250) {b L : Nat} {xs : Nat → Int32} (hX : va_X b L xs s s.heap) (hbl : b < s.heap.size) (h62 : E.2.2.2.2.2 62 = b) (h0 : E.2.2.2.1 = s.heap.size) (hL : L ≤ 3072) {i : Int} (hi : 0 ≤ i ∧ i + 6 ≤ L) {kc ns : Nat} (hkc : kc ≤ 100000) (hns : ns ≤ 1000000) {σ : xM} {ρ : xR} {ks : xKs} {z : zS} (hz47 : σ 47 = z) (hLH : LH σ ρ ks z)
    (K : ∀ (σ' : xM) (ρ' : xR) (ks' : xKs) (z' : zS) (kc' ns' : Nat), kc' ≤ kc + 8 → ns' ≤ ns + 200 → σ' 47 = z' → LH σ' ρ' ks' z' → X E p e R s m args below meth c Z kc' ns' σ' ρ' ks' 1634 [some (.float 126), some (.ref 0), some (.ref 46), some (.int (iI i))] []) : X E p e R s m args below meth c Z kc ns σ ρ ks 1042 [some (.float 126), some (.ref 0), some (.ref 46), some (.int (iI i))] [] := by
  obtain ⟨a1, a2, a3, a4, a5, a6, a7, a8, a9⟩ := id hLH
  obtain ⟨hP, hCn, hSe, hRu, hBk, hTp, h20, h21, hz0, hout⟩ := id a5
  have hz0' := hP.2.2.2
  obtain ⟨n15, n16, n17, n18, n19⟩ := id hCn
  have k0 : ks[0]? = some (0, 11) := a4.1
  have k46 : ks[46]? = some (0, 12) := a2.1
  refine x_aload_n (pc := 1042) hC dL_law_1042 rfl ?_
  refine x_aloadS_n (pc := 1043) hC dL_law_1043 rfl ?_
  refine x_iload_n (pc := 1044) hC dL_law_1044 rfl ?_
  refine x_iconst (pc := 1045) hC dL_law_1045 ?_
  refine x_iadd (pc := 1046) hC dL_law_1046 ?_
  refine x_sld (pc := 1047) hC hX hbl h62 h0 (by omega) (by omega) dL_law_1047 ?_
  refine x_aloadS_n (pc := 1048) hC dL_law_1048 rfl ?_
  refine x_iload_n (pc := 1049) hC dL_law_1049 rfl ?_
  refine x_iconst (pc := 1050) hC dL_law_1050 ?_
  refine x_iadd (pc := 1051) hC dL_law_1051 ?_
  refine x_sld (pc := 1052) hC hX hbl h62 h0 (by omega) (by omega) dL_law_1052 ?_
  refine x_aloadS_n (pc := 1053) hC dL_law_1053 rfl ?_
  refine x_iload_n (pc := 1054) hC dL_law_1054 rfl ?_
  refine x_iconst (pc := 1055) hC dL_law_1055 ?_
  refine x_iadd (pc := 1056) hC dL_law_1056 ?_
  refine x_sld (pc := 1057) hC hX hbl h62 h0 (by omega) (by omega) dL_law_1057 ?_
  refine x_aloadS_n (pc := 1058) hC dL_law_1058 rfl ?_
  refine x_iload_n (pc := 1059) hC dL_law_1059 rfl ?_
  refine x_iconst (pc := 1060) hC dL_law_1060 ?_
  refine x_iadd (pc := 1061) hC dL_law_1061 ?_
  refine x_sld (pc := 1062) hC hX hbl h62 h0 (by omega) (by omega) dL_law_1062 ?_
  refine x_callV (As := [_, _, _, _]) (Bs := [_, _, _, _]) (pc := 1063) hC (c_late E a4 a6 hP (sc_rg xs (i + 1)) (sc_rg xs (i + 2)) (sc_rg xs (i + 3)) (sc_rg xs (i + 4)) (by omega)) wL_116_11 pX11_late (by assumption) rfl rfl (by exact Nat.le_of_ble_eq_true rfl) hR (by omega) (by decide) (by omega) rfl dL_law_1063 (fun r1063 σ1063 ρ1063 ks1063 q1063 => ?_)
  obtain ⟨rfl, nx, e1063, f1063⟩ := q1063
  obtain rfl := e1063.symm
  obtain rfl := f1063.symm
  have hH1 := hLH.nx nx
  have g47 : σ1063 47 = z := (nx 47 (by decide)).trans hz47
  obtain ⟨b1, b2, b3, b4, b5, b6, b7, b8, b9⟩ := id hH1
  refine x_aload_n (pc := 1066) hC dL_law_1066 rfl ?_
  refine x_aloadS_n (pc := 1067) hC dL_law_1067 rfl ?_
  refine x_iload_n (pc := 1068) hC dL_law_1068 rfl ?_
  refine x_iconst (pc := 1069) hC dL_law_1069 ?_
  refine x_iadd (pc := 1070) hC dL_law_1070 ?_
  refine x_sld (pc := 1071) hC hX hbl h62 h0 (by omega) (by omega) dL_law_1071 ?_
  refine x_aloadS_n (pc := 1072) hC dL_law_1072 rfl ?_
  refine x_iload_n (pc := 1073) hC dL_law_1073 rfl ?_
  refine x_iconst (pc := 1074) hC dL_law_1074 ?_
  refine x_iadd (pc := 1075) hC dL_law_1075 ?_
  refine x_sld (pc := 1076) hC hX hbl h62 h0 (by omega) (by omega) dL_law_1076 ?_
  refine x_aloadS_n (pc := 1077) hC dL_law_1077 rfl ?_
  refine x_iload_n (pc := 1078) hC dL_law_1078 rfl ?_
  refine x_iconst (pc := 1079) hC dL_law_1079 ?_
  refine x_iadd (pc := 1080) hC dL_law_1080 ?_
  refine x_sld (pc := 1081) hC hX hbl h62 h0 (by omega) (by omega) dL_law_1081 ?_
  refine x_aloadS_n (pc := 1082) hC dL_law_1082 rfl ?_
  refine x_iload_n (pc := 1083) hC dL_law_1083 rfl ?_
  refine x_iconst (pc := 1084) hC dL_law_1084 ?_
  refine x_iadd (pc := 1085) hC dL_law_1085 ?_
  refine x_sld (pc := 1086) hC hX hbl h62 h0 (by omega) (by omega) dL_law_1086 ?_
  refine x_callV1 (As := [_, _, _, _]) (Bs := [_, _, _, _]) (pc := 1087) hC (s_late E b2 b3 (sc_rg xs (i + 1)) (sc_rg xs (i + 2)) (sc_rg xs (i + 3)) (sc_rg xs (i + 4)) (by rw [g47]; exact hP)) wL_119_12 pX12_late (by assumption) rfl rfl (by exact Nat.le_of_ble_eq_true rfl) hR (by omega) (by decide) (by omega) rfl dL_law_1087 ?_
  rw [g47]
  refine x_same (tgt := 1634) (pc := 1090) hC dL_law_1090 (by decide) ?_
  exact K _ _ _ _ _ _ (by omega) (by omega) g47 hH1

set_option maxHeartbeats 4000000 in
set_option maxRecDepth 100000 in
theorem lw_period {E : xE} {p : Program} {e : Env} {R : Room} {s : State} {m : MethodId} {args : Array Value} {below : List Frame} {meth : Method} {c : Code} {Z : State → Prop} (hC : XC E p R s m args meth c cL_law RL ret 4) (hR : xRm R 1312 600000 7302250) {b L : Nat} {xs : Nat → Int32} (hX : va_X b L xs s s.heap) (hbl : b < s.heap.size) (h62 : E.2.2.2.2.2 62 = b) (h0 : E.2.2.2.1 = s.heap.size) (hL : L ≤ 3072) {i : Int} (hi : 0 ≤ i ∧ i + 6 ≤ L) {kc ns : Nat} (hkc : kc ≤ 100000) (hns : ns ≤ 1000000) {σ : xM} {ρ : xR} {ks : xKs} {z : zS} (hz47 : σ 47 = z) (hLH : LH σ ρ ks z)
    (K : ∀ (σ' : xM) (ρ' : xR) (ks' : xKs) (z' : zS) (kc' ns' : Nat), kc' ≤ kc + 8 → ns' ≤ ns + 200 → σ' 47 = z' → LH σ' ρ' ks' z' → X E p e R s m args below meth c Z kc' ns' σ' ρ' ks' 1634 [some (.float 126), some (.ref 0), some (.ref 46), some (.int (iI i))] []) : X E p e R s m args below meth c Z kc ns σ ρ ks 1095 [some (.float 126), some (.ref 0), some (.ref 46), some (.int (iI i))] [] := by
  obtain ⟨a1, a2, a3, a4, a5, a6, a7, a8, a9⟩ := id hLH
  obtain ⟨hP, hCn, hSe, hRu, hBk, hTp, h20, h21, hz0, hout⟩ := id a5
  have hz0' := hP.2.2.2
  obtain ⟨n15, n16, n17, n18, n19⟩ := id hCn
  have k0 : ks[0]? = some (0, 11) := a4.1
  have k46 : ks[46]? = some (0, 12) := a2.1
  refine x_aload_n (pc := 1095) hC dL_law_1095 rfl ?_
  refine x_aloadS_n (pc := 1096) hC dL_law_1096 rfl ?_
  refine x_iload_n (pc := 1097) hC dL_law_1097 rfl ?_
  refine x_iconst (pc := 1098) hC dL_law_1098 ?_
  refine x_iadd (pc := 1099) hC dL_law_1099 ?_
  refine x_sld (pc := 1100) hC hX hbl h62 h0 (by omega) (by omega) dL_law_1100 ?_
  refine x_callV (As := [_]) (Bs := [_]) (pc := 1101) hC (c_period E a4 a6 hP (sc_rg xs (i + 1))) wL_120_11 pX11_period (by assumption) rfl rfl (by exact Nat.le_of_ble_eq_true rfl) hR (by omega) (by decide) (by omega) rfl dL_law_1101 (fun r1101 σ1101 ρ1101 ks1101 q1101 => ?_)
  obtain ⟨rfl, nx, e1101, f1101⟩ := q1101
  obtain rfl := e1101.symm
  obtain rfl := f1101.symm
  have hH1 := hLH.nx nx
  have g47 : σ1101 47 = z := (nx 47 (by decide)).trans hz47
  obtain ⟨b1, b2, b3, b4, b5, b6, b7, b8, b9⟩ := id hH1
  refine x_aload_n (pc := 1104) hC dL_law_1104 rfl ?_
  refine x_aloadS_n (pc := 1105) hC dL_law_1105 rfl ?_
  refine x_iload_n (pc := 1106) hC dL_law_1106 rfl ?_
  refine x_iconst (pc := 1107) hC dL_law_1107 ?_
  refine x_iadd (pc := 1108) hC dL_law_1108 ?_
  refine x_sld (pc := 1109) hC hX hbl h62 h0 (by omega) (by omega) dL_law_1109 ?_
  refine x_callV (As := [_]) (Bs := [_]) (pc := 1110) hC (s_period E b2 b3 (sc_rg xs (i + 1)) (by rw [g47]; exact hP)) wL_123_12 pX12_period (by assumption) rfl rfl (by exact Nat.le_of_ble_eq_true rfl) hR (by omega) (by decide) (by omega) rfl dL_law_1110 (fun r1110 σ1110 ρ1110 ks1110 q1110 => ?_)
  obtain ⟨rfl, ak, e1110, f1110⟩ := q1110
  obtain rfl := e1110.symm
  obtain rfl := f1110.symm
  have hH2 := hH1.ask ak
  have g47b : σ1110 47 = z := (ak.1 47 (by decide) (by decide) (by decide) (by decide) (by decide) (by decide)).trans g47
  rw [g47]
  refine x_same (tgt := 1634) (pc := 1113) hC dL_law_1113 (by decide) ?_
  exact K _ _ _ _ _ _ (by omega) (by omega) g47b hH2

set_option maxHeartbeats 4000000 in
set_option maxRecDepth 100000 in
theorem lw_papers {E : xE} {p : Program} {e : Env} {R : Room} {s : State} {m : MethodId} {args : Array Value} {below : List Frame} {meth : Method} {c : Code} {Z : State → Prop} (hC : XC E p R s m args meth c cL_law RL ret 4) (hR : xRm R 1312 600000 7302250) {b L : Nat} {xs : Nat → Int32} (hX : va_X b L xs s s.heap) (hbl : b < s.heap.size) (h62 : E.2.2.2.2.2 62 = b) (h0 : E.2.2.2.1 = s.heap.size) (hL : L ≤ 3072) {i : Int} (hi : 0 ≤ i ∧ i + 6 ≤ L) {kc ns : Nat} (hkc : kc ≤ 100000) (hns : ns ≤ 1000000) {σ : xM} {ρ : xR} {ks : xKs} {z : zS} (hz47 : σ 47 = z) (hLH : LH σ ρ ks z)
    (K : ∀ (σ' : xM) (ρ' : xR) (ks' : xKs) (z' : zS) (kc' ns' : Nat), kc' ≤ kc + 8 → ns' ≤ ns + 200 → σ' 47 = z' → LH σ' ρ' ks' z' → X E p e R s m args below meth c Z kc' ns' σ' ρ' ks' 1634 [some (.float 126), some (.ref 0), some (.ref 46), some (.int (iI i))] []) : X E p e R s m args below meth c Z kc ns σ ρ ks 1118 [some (.float 126), some (.ref 0), some (.ref 46), some (.int (iI i))] [] := by
  obtain ⟨a1, a2, a3, a4, a5, a6, a7, a8, a9⟩ := id hLH
  obtain ⟨hP, hCn, hSe, hRu, hBk, hTp, h20, h21, hz0, hout⟩ := id a5
  have hz0' := hP.2.2.2
  obtain ⟨n15, n16, n17, n18, n19⟩ := id hCn
  have k0 : ks[0]? = some (0, 11) := a4.1
  have k46 : ks[46]? = some (0, 12) := a2.1
  refine x_aload_n (pc := 1118) hC dL_law_1118 rfl ?_
  refine x_aloadS_n (pc := 1119) hC dL_law_1119 rfl ?_
  refine x_iload_n (pc := 1120) hC dL_law_1120 rfl ?_
  refine x_iconst (pc := 1121) hC dL_law_1121 ?_
  refine x_iadd (pc := 1122) hC dL_law_1122 ?_
  refine x_sld (pc := 1123) hC hX hbl h62 h0 (by omega) (by omega) dL_law_1123 ?_
  refine x_callV (As := [_]) (Bs := [_]) (pc := 1124) hC (c_papers E a4 a6 hP (sc_rg xs (i + 1)) (by omega)) wL_124_11 pX11_papers (by assumption) rfl rfl (by exact Nat.le_of_ble_eq_true rfl) hR (by omega) (by decide) (by omega) rfl dL_law_1124 (fun r1124 σ1124 ρ1124 ks1124 q1124 => ?_)
  obtain ⟨rfl, nx, e1124, f1124⟩ := q1124
  obtain rfl := e1124.symm
  obtain rfl := f1124.symm
  have hH1 := hLH.nx nx
  have g47 : σ1124 47 = z := (nx 47 (by decide)).trans hz47
  obtain ⟨b1, b2, b3, b4, b5, b6, b7, b8, b9⟩ := id hH1
  refine x_aload_n (pc := 1127) hC dL_law_1127 rfl ?_
  refine x_aloadS_n (pc := 1128) hC dL_law_1128 rfl ?_
  refine x_iload_n (pc := 1129) hC dL_law_1129 rfl ?_
  refine x_iconst (pc := 1130) hC dL_law_1130 ?_
  refine x_iadd (pc := 1131) hC dL_law_1131 ?_
  refine x_sld (pc := 1132) hC hX hbl h62 h0 (by omega) (by omega) dL_law_1132 ?_
  refine x_callV1 (As := [_]) (Bs := [_]) (pc := 1133) hC (s_papers E b2 b3 (sc_rg xs (i + 1)) (by rw [g47]; exact hP)) wL_127_12 pX12_papers (by assumption) rfl rfl (by exact Nat.le_of_ble_eq_true rfl) hR (by omega) (by decide) (by omega) rfl dL_law_1133 ?_
  rw [g47]
  refine x_same (tgt := 1634) (pc := 1136) hC dL_law_1136 (by decide) ?_
  exact K _ _ _ _ _ _ (by omega) (by omega) g47 hH1

set_option maxHeartbeats 4000000 in
set_option maxRecDepth 100000 in
theorem lw_flown {E : xE} {p : Program} {e : Env} {R : Room} {s : State} {m : MethodId} {args : Array Value} {below : List Frame} {meth : Method} {c : Code} {Z : State → Prop} (hC : XC E p R s m args meth c cL_law RL ret 4) (hR : xRm R 1312 600000 7302250) {b L : Nat} {xs : Nat → Int32} (hX : va_X b L xs s s.heap) (hbl : b < s.heap.size) (h62 : E.2.2.2.2.2 62 = b) (h0 : E.2.2.2.1 = s.heap.size) (hL : L ≤ 3072) {i : Int} (hi : 0 ≤ i ∧ i + 6 ≤ L) {kc ns : Nat} (hkc : kc ≤ 100000) (hns : ns ≤ 1000000) {σ : xM} {ρ : xR} {ks : xKs} {z : zS} (hz47 : σ 47 = z) (hLH : LH σ ρ ks z)
    (K : ∀ (σ' : xM) (ρ' : xR) (ks' : xKs) (z' : zS) (kc' ns' : Nat), kc' ≤ kc + 8 → ns' ≤ ns + 200 → σ' 47 = z' → LH σ' ρ' ks' z' → X E p e R s m args below meth c Z kc' ns' σ' ρ' ks' 1634 [some (.float 126), some (.ref 0), some (.ref 46), some (.int (iI i))] []) : X E p e R s m args below meth c Z kc ns σ ρ ks 1141 [some (.float 126), some (.ref 0), some (.ref 46), some (.int (iI i))] [] := by
  obtain ⟨a1, a2, a3, a4, a5, a6, a7, a8, a9⟩ := id hLH
  obtain ⟨hP, hCn, hSe, hRu, hBk, hTp, h20, h21, hz0, hout⟩ := id a5
  have hz0' := hP.2.2.2
  obtain ⟨n15, n16, n17, n18, n19⟩ := id hCn
  have k0 : ks[0]? = some (0, 11) := a4.1
  have k46 : ks[46]? = some (0, 12) := a2.1
  refine x_aload_n (pc := 1141) hC dL_law_1141 rfl ?_
  refine x_aloadS_n (pc := 1142) hC dL_law_1142 rfl ?_
  refine x_iload_n (pc := 1143) hC dL_law_1143 rfl ?_
  refine x_iconst (pc := 1144) hC dL_law_1144 ?_
  refine x_iadd (pc := 1145) hC dL_law_1145 ?_
  refine x_sld (pc := 1146) hC hX hbl h62 h0 (by omega) (by omega) dL_law_1146 ?_
  refine x_callV (As := [_]) (Bs := [_]) (pc := 1147) hC (c_flown E a4 a6 hP hCn (sc_rg xs (i + 1))) wL_128_11 pX11_flown (by assumption) rfl rfl (by exact Nat.le_of_ble_eq_true rfl) hR (by omega) (by decide) (by omega) rfl dL_law_1147 (fun r1147 σ1147 ρ1147 ks1147 q1147 => ?_)
  obtain ⟨rfl, hz1, hx, e1147, f1147⟩ := q1147
  obtain rfl := e1147.symm
  obtain rfl := f1147.symm
  have hI1 : Inv (flownZ z (sc xs (i + 1))) := flown_inv a5 _
  have hH1 : LH σ1147 ρ ks (flownZ z (sc xs (i + 1))) := hLH.hx hx hz1 hI1 (flown_13 hP hCn _) (fun f f0 f1 => flown_22 hP hCn f0 f1 _)
  have g47 : σ1147 47 = z := (hLH.hx46 hx 47 (by decide) (by decide)).trans hz47
  obtain ⟨b1, b2, b3, b4, b5, b6, b7, b8, b9⟩ := id hH1
  refine x_aload_n (pc := 1150) hC dL_law_1150 rfl ?_
  refine x_aloadS_n (pc := 1151) hC dL_law_1151 rfl ?_
  refine x_iload_n (pc := 1152) hC dL_law_1152 rfl ?_
  refine x_iconst (pc := 1153) hC dL_law_1153 ?_
  refine x_iadd (pc := 1154) hC dL_law_1154 ?_
  refine x_sld (pc := 1155) hC hX hbl h62 h0 (by omega) (by omega) dL_law_1155 ?_
  refine x_callV1 (As := [_]) (Bs := [_]) (pc := 1156) hC (s_flown E b2 b3 (sc_rg xs (i + 1))) wL_131_12 pX12_flown (by assumption) rfl rfl (by exact Nat.le_of_ble_eq_true rfl) hR (by omega) (by decide) (by omega) rfl dL_law_1156 ?_
  rw [g47]
  refine x_same (tgt := 1634) (pc := 1159) hC dL_law_1159 (by decide) ?_
  exact K _ _ _ _ _ _ (by omega) (by omega) rfl hH1.swz
