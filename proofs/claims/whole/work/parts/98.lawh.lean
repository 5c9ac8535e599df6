/-! THE LAW, its cases 28 to 31 -/
set_option maxHeartbeats 4000000 in
set_option maxRecDepth 100000 in
theorem lw_which {E : xE} {p : Program} {e : Env} {R : Room} {s : State} {m : MethodId} {args : Array Value} {below : List Frame} {meth : Method} {c : Code} {Z : State → Prop} (hC : XC E p R s m args meth c cL_law RL ret 4) (hR : xRm R 1312 600000 7302250) {b L : Nat} {xs : Nat → Int32} (hX : va_X b L xs s s.heap) (hbl : b < s.heap.size) (h62 : E.2.2.2.2.2 62 = b) (h0 : E.2.2.2.1 = s.heap.size) (hL : L ≤ 3072) {i : Int} (hi : 0 ≤ i ∧ i + 6 ≤ L) {kc ns : Nat} (hkc : kc ≤ 100000) (hns : ns ≤ 1000000) {σ : xM} {ρ : xR} {ks : xKs} {z : zS} (hz47 : σ 47 = z) (hLH : LH σ ρ ks z)
    (K : ∀ (σ' : xM) (ρ' : xR) (ks' : xKs) (z' : zS) (kc' ns' : Nat), kc' ≤ kc + 8 → ns' ≤ ns + 200 → σ' 47 = z' → LH σ' ρ' ks' z' → X E p e R s m args below meth c Z kc' ns' σ' ρ' ks' 1634 [some (.float 126), some (.ref 0), some (.ref 46), some (.int (iI i))] []) : X E p e R s m args below meth c Z kc ns σ ρ ks 1164 [some (.float 126), some (.ref 0), some (.ref 46), some (.int (iI i))] [] := by
  obtain ⟨a1, a2, a3, a4, a5, a6, a7, a8, a9⟩ := id hLH
  obtain ⟨hP, hCn, hSe, hRu, hBk, hTp, h20, h21, hz0, hout⟩ := id a5
  have hz0' := hP.2.2.2
  obtain ⟨n15, n16, n17, n18, n19⟩ := id hCn
  have k0 : ks[0]? = some (0, 11) := a4.1
  have k46 : ks[46]? = some (0, 12) := a2.1
  refine x_aload_n (pc := 1164) hC dL_law_1164 rfl ?_
  refine x_aloadS_n (pc := 1165) hC dL_law_1165 rfl ?_
  refine x_iload_n (pc := 1166) hC dL_law_1166 rfl ?_
  refine x_iconst (pc := 1167) hC dL_law_1167 ?_
  refine x_iadd (pc := 1168) hC dL_law_1168 ?_
  refine x_sld (pc := 1169) hC hX hbl h62 h0 (by omega) (by omega) dL_law_1169 ?_
  refine x_callV (As := [_]) (Bs := [_]) (pc := 1170) hC (c_which E a4 a6 hP (sc_rg xs (i + 1)) (by omega) ⟨by omega, by omega⟩) wL_132_11 pX11_which (by assumption) rfl rfl (by exact Nat.le_of_ble_eq_true rfl) hR (by omega) (by decide) (by omega) rfl dL_law_1170 (fun r1170 σ1170 ρ1170 ks1170 q1170 => ?_)
  obtain ⟨rfl, nx, e1170, f1170⟩ := q1170
  obtain rfl := e1170.symm
  obtain rfl := f1170.symm
  have hH1 := hLH.nx nx
  have g47 : σ1170 47 = z := (nx 47 (by decide)).trans hz47
  obtain ⟨b1, b2, b3, b4, b5, b6, b7, b8, b9⟩ := id hH1
  refine x_aload_n (pc := 1173) hC dL_law_1173 rfl ?_
  refine x_aloadS_n (pc := 1174) hC dL_law_1174 rfl ?_
  refine x_iload_n (pc := 1175) hC dL_law_1175 rfl ?_
  refine x_iconst (pc := 1176) hC dL_law_1176 ?_
  refine x_iadd (pc := 1177) hC dL_law_1177 ?_
  refine x_sld (pc := 1178) hC hX hbl h62 h0 (by omega) (by omega) dL_law_1178 ?_
  refine x_callV1 (As := [_]) (Bs := [_]) (pc := 1179) hC (s_which E b2 b3 (sc_rg xs (i + 1)) (by rw [g47]; exact hP) (by rw [g47]; exact ⟨by omega, by omega⟩)) wL_135_12 pX12_which (by assumption) rfl rfl (by exact Nat.le_of_ble_eq_true rfl) hR (by omega) (by decide) (by omega) rfl dL_law_1179 ?_
  rw [g47]
  refine x_same (tgt := 1634) (pc := 1182) hC dL_law_1182 (by decide) ?_
  exact K _ _ _ _ _ _ (by omega) (by omega) g47 hH1

set_option maxHeartbeats 4000000 in
set_option maxRecDepth 100000 in
theorem lw_see {E : xE} {p : Program} {e : Env} {R : Room} {s : State} {m : MethodId} {args : Array Value} {below : List Frame} {meth : Method} {c : Code} {Z : State → Prop} (hC : XC E p R s m args meth c cL_law RL ret 4) (hR : xRm R 1312 600000 7302250) {b L : Nat} {xs : Nat → Int32} (hX : va_X b L xs s s.heap) (hbl : b < s.heap.size) (h62 : E.2.2.2.2.2 62 = b) (h0 : E.2.2.2.1 = s.heap.size) (hL : L ≤ 3072) {i : Int} (hi : 0 ≤ i ∧ i + 6 ≤ L) {kc ns : Nat} (hkc : kc ≤ 100000) (hns : ns ≤ 1000000) {σ : xM} {ρ : xR} {ks : xKs} {z : zS} (hz47 : σ 47 = z) (hLH : LH σ ρ ks z)
    (K : ∀ (σ' : xM) (ρ' : xR) (ks' : xKs) (z' : zS) (kc' ns' : Nat), kc' ≤ kc + 8 → ns' ≤ ns + 200 → σ' 47 = z' → LH σ' ρ' ks' z' → X E p e R s m args below meth c Z kc' ns' σ' ρ' ks' 1634 [some (.float 126), some (.ref 0), some (.ref 46), some (.int (iI i))] []) : X E p e R s m args below meth c Z kc ns σ ρ ks 1187 [some (.float 126), some (.ref 0), some (.ref 46), some (.int (iI i))] [] := by
  obtain ⟨a1, a2, a3, a4, a5, a6, a7, a8, a9⟩ := id hLH
  obtain ⟨hP, hCn, hSe, hRu, hBk, hTp, h20, h21, hz0, hout⟩ := id a5
  have hz0' := hP.2.2.2
  obtain ⟨n15, n16, n17, n18, n19⟩ := id hCn
  have k0 : ks[0]? = some (0, 11) := a4.1
  have k46 : ks[46]? = some (0, 12) := a2.1
  refine x_aload_n (pc := 1187) hC dL_law_1187 rfl ?_
  refine x_aloadS_n (pc := 1188) hC dL_law_1188 rfl ?_
  refine x_iload_n (pc := 1189) hC dL_law_1189 rfl ?_
  refine x_iconst (pc := 1190) hC dL_law_1190 ?_
  refine x_iadd (pc := 1191) hC dL_law_1191 ?_
  refine x_sld (pc := 1192) hC hX hbl h62 h0 (by omega) (by omega) dL_law_1192 ?_
  refine x_aloadS_n (pc := 1193) hC dL_law_1193 rfl ?_
  refine x_iload_n (pc := 1194) hC dL_law_1194 rfl ?_
  refine x_iconst (pc := 1195) hC dL_law_1195 ?_
  refine x_iadd (pc := 1196) hC dL_law_1196 ?_
  refine x_sld (pc := 1197) hC hX hbl h62 h0 (by omega) (by omega) dL_law_1197 ?_
  refine x_aloadS_n (pc := 1198) hC dL_law_1198 rfl ?_
  refine x_iload_n (pc := 1199) hC dL_law_1199 rfl ?_
  refine x_iconst (pc := 1200) hC dL_law_1200 ?_
  refine x_iadd (pc := 1201) hC dL_law_1201 ?_
  refine x_sld (pc := 1202) hC hX hbl h62 h0 (by omega) (by omega) dL_law_1202 ?_
  refine x_callV (As := [_, _, _]) (Bs := [_, _, _]) (pc := 1203) hC (c_see E a4 a6 hP hCn (sc_rg xs (i + 1)) (sc_rg xs (i + 2)) (sc_rg xs (i + 3))) wL_136_11 pX11_see (by assumption) rfl rfl (by exact Nat.le_of_ble_eq_true rfl) hR (by omega) (by decide) (by omega) rfl dL_law_1203 (fun r1203 σ1203 ρ1203 ks1203 q1203 => ?_)
  obtain ⟨rfl, hz1, hx, e1203, f1203⟩ := q1203
  obtain rfl := e1203.symm
  obtain rfl := f1203.symm
  have hI1 : Inv (seeZ z (sc xs (i + 1)) (sc xs (i + 2)) (sc xs (i + 3))) := see_inv a5 _ _ _
  have hH1 : LH σ1203 ρ ks (seeZ z (sc xs (i + 1)) (sc xs (i + 2)) (sc xs (i + 3))) := hLH.hx hx hz1 hI1 (see_13 hP hCn _ _ _) (fun f f0 f1 => see_22 hP hCn f0 f1 _ _ _)
  have g47 : σ1203 47 = z := (hLH.hx46 hx 47 (by decide) (by decide)).trans hz47
  obtain ⟨b1, b2, b3, b4, b5, b6, b7, b8, b9⟩ := id hH1
  refine x_aload_n (pc := 1206) hC dL_law_1206 rfl ?_
  refine x_aloadS_n (pc := 1207) hC dL_law_1207 rfl ?_
  refine x_iload_n (pc := 1208) hC dL_law_1208 rfl ?_
  refine x_iconst (pc := 1209) hC dL_law_1209 ?_
  refine x_iadd (pc := 1210) hC dL_law_1210 ?_
  refine x_sld (pc := 1211) hC hX hbl h62 h0 (by omega) (by omega) dL_law_1211 ?_
  refine x_aloadS_n (pc := 1212) hC dL_law_1212 rfl ?_
  refine x_iload_n (pc := 1213) hC dL_law_1213 rfl ?_
  refine x_iconst (pc := 1214) hC dL_law_1214 ?_
  refine x_iadd (pc := 1215) hC dL_law_1215 ?_
  refine x_sld (pc := 1216) hC hX hbl h62 h0 (by omega) (by omega) dL_law_1216 ?_
  refine x_aloadS_n (pc := 1217) hC dL_law_1217 rfl ?_
  refine x_iload_n (pc := 1218) hC dL_law_1218 rfl ?_
  refine x_iconst (pc := 1219) hC dL_law_1219 ?_
  refine x_iadd (pc := 1220) hC dL_law_1220 ?_
  refine x_sld (pc := 1221) hC hX hbl h62 h0 (by omega) (by omega) dL_law_1221 ?_
  refine x_callV1 (As := [_, _, _]) (Bs := [_, _, _]) (pc := 1222) hC (s_see E b2 b3 (sc_rg xs (i + 1)) (sc_rg xs (i + 2)) (sc_rg xs (i + 3)) (by rw [g47]; exact hP.2.1) (by rw [g47]; omega)) wL_139_12 pX12_see (by assumption) rfl rfl (by exact Nat.le_of_ble_eq_true rfl) hR (by omega) (by decide) (by omega) rfl dL_law_1222 ?_
  rw [g47]
  refine x_same (tgt := 1634) (pc := 1225) hC dL_law_1225 (by decide) ?_
  exact K _ _ _ _ _ _ (by omega) (by omega) rfl hH1.swz

set_option maxHeartbeats 4000000 in
set_option maxRecDepth 100000 in
theorem lw_sat {E : xE} {p : Program} {e : Env} {R : Room} {s : State} {m : MethodId} {args : Array Value} {below : List Frame} {meth : Method} {c : Code} {Z : State → Prop} (hC : XC E p R s m args meth c cL_law RL ret 4) (hR : xRm R 1312 600000 7302250) {b L : Nat} {xs : Nat → Int32} (hX : va_X b L xs s s.heap) (hbl : b < s.heap.size) (h62 : E.2.2.2.2.2 62 = b) (h0 : E.2.2.2.1 = s.heap.size) (hL : L ≤ 3072) {i : Int} (hi : 0 ≤ i ∧ i + 6 ≤ L) {kc ns : Nat} (hkc : kc ≤ 100000) (hns : ns ≤ 1000000) {σ : xM} {ρ : xR} {ks : xKs} {z : zS} (hz47 : σ 47 = z) (hLH : LH σ ρ ks z)
    (K : ∀ (σ' : xM) (ρ' : xR) (ks' : xKs) (z' : zS) (kc' ns' : Nat), kc' ≤ kc + 8 → ns' ≤ ns + 200 → σ' 47 = z' → LH σ' ρ' ks' z' → X E p e R s m args below meth c Z kc' ns' σ' ρ' ks' 1634 [some (.float 126), some (.ref 0), some (.ref 46), some (.int (iI i))] []) : X E p e R s m args below meth c Z kc ns σ ρ ks 1230 [some (.float 126), some (.ref 0), some (.ref 46), some (.int (iI i))] [] := by
  obtain ⟨a1, a2, a3, a4, a5, a6, a7, a8, a9⟩ := id hLH
  obtain ⟨hP, hCn, hSe, hRu, hBk, hTp, h20, h21, hz0, hout⟩ := id a5
  have hz0' := hP.2.2.2
  obtain ⟨n15, n16, n17, n18, n19⟩ := id hCn
  have k0 : ks[0]? = some (0, 11) := a4.1
  have k46 : ks[46]? = some (0, 12) := a2.1
  refine x_aload_n (pc := 1230) hC dL_law_1230 rfl ?_
  refine x_aloadS_n (pc := 1231) hC dL_law_1231 rfl ?_
  refine x_iload_n (pc := 1232) hC dL_law_1232 rfl ?_
  refine x_iconst (pc := 1233) hC dL_law_1233 ?_
  refine x_iadd (pc := 1234) hC dL_law_1234 ?_
  refine x_sld (pc := 1235) hC hX hbl h62 h0 (by omega) (by omega) dL_law_1235 ?_
  refine x_callV (As := [_]) (Bs := [_]) (pc := 1236) hC (c_sat E a4 a6 hP (sc_rg xs (i + 1)) hSe (by omega)) wL_140_11 pX11_sat (by assumption) rfl rfl (by exact Nat.le_of_ble_eq_true rfl) hR (by omega) (by decide) (by omega) rfl dL_law_1236 (fun r1236 σ1236 ρ1236 ks1236 q1236 => ?_)
  obtain ⟨rfl, nx, e1236, f1236⟩ := q1236
  obtain rfl := e1236.symm
  obtain rfl := f1236.symm
  have hH1 := hLH.nx nx
  have g47 : σ1236 47 = z := (nx 47 (by decide)).trans hz47
  obtain ⟨b1, b2, b3, b4, b5, b6, b7, b8, b9⟩ := id hH1
  refine x_aload_n (pc := 1239) hC dL_law_1239 rfl ?_
  refine x_aloadS_n (pc := 1240) hC dL_law_1240 rfl ?_
  refine x_iload_n (pc := 1241) hC dL_law_1241 rfl ?_
  refine x_iconst (pc := 1242) hC dL_law_1242 ?_
  refine x_iadd (pc := 1243) hC dL_law_1243 ?_
  refine x_sld (pc := 1244) hC hX hbl h62 h0 (by omega) (by omega) dL_law_1244 ?_
  refine x_callV (As := [_]) (Bs := [_]) (pc := 1245) hC (s_sat E b2 b3 (sc_rg xs (i + 1)) (by rw [g47]; exact hSe) (by rw [g47]; exact hP) (by rw [g47]; omega)) wL_143_12 pX12_sat (by assumption) rfl rfl (by exact Nat.le_of_ble_eq_true rfl) hR (by omega) (by decide) (by omega) rfl dL_law_1245 (fun r1245 σ1245 ρ1245 ks1245 q1245 => ?_)
  obtain ⟨rfl, ak, e1245, f1245⟩ := q1245
  obtain rfl := e1245.symm
  obtain rfl := f1245.symm
  have hH2 := hH1.ask ak
  have g47b : σ1245 47 = z := (ak.1 47 (by decide) (by decide) (by decide) (by decide) (by decide) (by decide)).trans g47
  rw [g47]
  refine x_same (tgt := 1634) (pc := 1248) hC dL_law_1248 (by decide) ?_
  exact K _ _ _ _ _ _ (by omega) (by omega) g47b hH2

set_option maxHeartbeats 4000000 in
set_option maxRecDepth 100000 in
theorem lw_odds {E : xE} {p : Program} {e : Env} {R : Room} {s : State} {m : MethodId} {args : Array Value} {below : List Frame} {meth : Method} {c : Code} {Z : State → Prop} (hC : XC E p R s m args meth c cL_law RL ret 4) (hR : xRm R 1312 600000 7302250) {b L : Nat} {xs : Nat → Int32} (hX : va_X b L xs s s.heap) (hbl : b < s.heap.size) (h62 : E.2.2.2.2.2 62 = b) (h0 : E.2.2.2.1 = s.heap.size) (hL : L ≤ 3072) {i : Int} (hi : 0 ≤ i ∧ i + 6 ≤ L) {kc ns : Nat} (hkc : kc ≤ 100000) (hns : ns ≤ 1000000) {σ : xM} {ρ : xR} {ks : xKs} {z : zS} (hz47 : σ 47 = z) (hLH : LH σ ρ ks z)
    (K : ∀ (σ' : xM) (ρ' : xR) (ks' : xKs) (z' : zS) (kc' ns' : Nat), kc' ≤ kc + 8 → ns' ≤ ns + 200 → σ' 47 = z' → LH σ' ρ' ks' z' → X E p e R s m args below meth c Z kc' ns' σ' ρ' ks' 1634 [some (.float 126), some (.ref 0), some (.ref 46), some (.int (iI i))] []) : X E p e R s m args below meth c Z kc ns σ ρ ks 1253 [some (.float 126), some (.ref 0), some (.ref 46), some (.int (iI i))] [] := by
  obtain ⟨a1, a2, a3, a4, a5, a6, a7, a8, a9⟩ := id hLH
  obtain ⟨hP, hCn, hSe, hRu, hBk, hTp, h20, h21, hz0, hout⟩ := id a5
  have hz0' := hP.2.2.2
  obtain ⟨n15, n16, n17, n18, n19⟩ := id hCn
  have k0 : ks[0]? = some (0, 11) := a4.1
  have k46 : ks[46]? = some (0, 12) := a2.1
  refine x_aload_n (pc := 1253) hC dL_law_1253 rfl ?_
  refine x_aloadS_n (pc := 1254) hC dL_law_1254 rfl ?_
  refine x_iload_n (pc := 1255) hC dL_law_1255 rfl ?_
  refine x_iconst (pc := 1256) hC dL_law_1256 ?_
  refine x_iadd (pc := 1257) hC dL_law_1257 ?_
  refine x_sld (pc := 1258) hC hX hbl h62 h0 (by omega) (by omega) dL_law_1258 ?_
  refine x_aloadS_n (pc := 1259) hC dL_law_1259 rfl ?_
  refine x_iload_n (pc := 1260) hC dL_law_1260 rfl ?_
  refine x_iconst (pc := 1261) hC dL_law_1261 ?_
  refine x_iadd (pc := 1262) hC dL_law_1262 ?_
  refine x_sld (pc := 1263) hC hX hbl h62 h0 (by omega) (by omega) dL_law_1263 ?_
  refine x_aloadS_n (pc := 1264) hC dL_law_1264 rfl ?_
  refine x_iload_n (pc := 1265) hC dL_law_1265 rfl ?_
  refine x_iconst (pc := 1266) hC dL_law_1266 ?_
  refine x_iadd (pc := 1267) hC dL_law_1267 ?_
  refine x_sld (pc := 1268) hC hX hbl h62 h0 (by omega) (by omega) dL_law_1268 ?_
  refine x_callV (As := [_, _, _]) (Bs := [_, _, _]) (pc := 1269) hC (c_odds E a4 a6 hP (sc_rg xs (i + 1)) (sc_rg xs (i + 2)) (sc_rg xs (i + 3))) wL_144_11 pX11_odds (by assumption) rfl rfl (by exact Nat.le_of_ble_eq_true rfl) hR (by omega) (by decide) (by omega) rfl dL_law_1269 (fun r1269 σ1269 ρ1269 ks1269 q1269 => ?_)
  obtain ⟨rfl, nx, e1269, f1269⟩ := q1269
  obtain rfl := e1269.symm
  obtain rfl := f1269.symm
  have hH1 := hLH.nx nx
  have g47 : σ1269 47 = z := (nx 47 (by decide)).trans hz47
  obtain ⟨b1, b2, b3, b4, b5, b6, b7, b8, b9⟩ := id hH1
  refine x_aload_n (pc := 1272) hC dL_law_1272 rfl ?_
  refine x_aloadS_n (pc := 1273) hC dL_law_1273 rfl ?_
  refine x_iload_n (pc := 1274) hC dL_law_1274 rfl ?_
  refine x_iconst (pc := 1275) hC dL_law_1275 ?_
  refine x_iadd (pc := 1276) hC dL_law_1276 ?_
  refine x_sld (pc := 1277) hC hX hbl h62 h0 (by omega) (by omega) dL_law_1277 ?_
  refine x_aloadS_n (pc := 1278) hC dL_law_1278 rfl ?_
  refine x_iload_n (pc := 1279) hC dL_law_1279 rfl ?_
  refine x_iconst (pc := 1280) hC dL_law_1280 ?_
  refine x_iadd (pc := 1281) hC dL_law_1281 ?_
  refine x_sld (pc := 1282) hC hX hbl h62 h0 (by omega) (by omega) dL_law_1282 ?_
  refine x_aloadS_n (pc := 1283) hC dL_law_1283 rfl ?_
  refine x_iload_n (pc := 1284) hC dL_law_1284 rfl ?_
  refine x_iconst (pc := 1285) hC dL_law_1285 ?_
  refine x_iadd (pc := 1286) hC dL_law_1286 ?_
  refine x_sld (pc := 1287) hC hX hbl h62 h0 (by omega) (by omega) dL_law_1287 ?_
  refine x_callV (As := [_, _, _]) (Bs := [_, _, _]) (pc := 1288) hC (s_odds E b2 b3 (sc_rg xs (i + 1)) (sc_rg xs (i + 2)) (sc_rg xs (i + 3)) (by rw [g47]; exact hP)) wL_148_12 pX12_odds (by assumption) rfl rfl (by exact Nat.le_of_ble_eq_true rfl) hR (by omega) (by decide) (by omega) rfl dL_law_1288 (fun r1288 σ1288 ρ1288 ks1288 q1288 => ?_)
  obtain ⟨rfl, ak, e1288, f1288⟩ := q1288
  obtain rfl := e1288.symm
  obtain rfl := f1288.symm
  have hH2 := hH1.ask ak
  have g47b : σ1288 47 = z := (ak.1 47 (by decide) (by decide) (by decide) (by decide) (by decide) (by decide)).trans g47
  rw [g47]
  refine x_sameL (pc := 1291) hC dL_law_1291 ?_
  refine x_if_eq (tgt := 1634) (pc := 1292) hC (by decide) dL_law_1292 (by decide) (fun _ => ?_) (fun h => absurd rfl h)
  exact K _ _ _ _ _ _ (by omega) (by omega) g47b hH2
