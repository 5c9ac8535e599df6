/-! THE LAW, its cases 32 to 35 -/
set_option maxHeartbeats 4000000 in
set_option maxRecDepth 100000 in
theorem lw_mean {E : xE} {p : Program} {e : Env} {R : Room} {s : State} {m : MethodId} {args : Array Value} {below : List Frame} {meth : Method} {c : Code} {Z : State → Prop} (hC : XC E p R s m args meth c cL_law RL ret 4) (hR : xRm R 1312 600000 7302250) {b L : Nat} {xs : Nat → Int32} (hX : va_X b L xs s s.heap) (hbl : b < s.heap.size) (h62 : E.2.2.2.2.2 62 = b) (h0 : E.2.2.2.1 = s.heap.size) (hL : L ≤ 3072) {i : Int} (hi : 0 ≤ i ∧ i + 6 ≤ L) {kc ns : Nat} (hkc : kc ≤ 100000) (hns : ns ≤ 1000000) {σ : xM} {ρ : xR} {ks : xKs} {z : zS} (hz47 : σ 47 = z) (hLH : LH σ ρ ks z)
    (K : ∀ (σ' : xM) (ρ' : xR) (ks' : xKs) (z' : zS) (kc' ns' : Nat), kc' ≤ kc + 8 → ns' ≤ ns + 200 → σ' 47 = z' → LH σ' ρ' ks' z' → X E p e R s m args below meth c Z kc' ns' σ' ρ' ks' 1634 [some (.float 126), some (.ref 0), some (.ref 46), some (.int (iI i))] []) : X E p e R s m args below meth c Z kc ns σ ρ ks 1297 [some (.float 126), some (.ref 0), some (.ref 46), some (.int (iI i))] [] := by
  obtain ⟨a1, a2, a3, a4, a5, a6, a7, a8, a9⟩ := id hLH
  obtain ⟨hP, hCn, hSe, hRu, hBk, hTp, h20, h21, hz0, hout⟩ := id a5
  have hz0' := hP.2.2.2
  obtain ⟨n15, n16, n17, n18, n19⟩ := id hCn
  have k0 : ks[0]? = some (0, 11) := a4.1
  have k46 : ks[46]? = some (0, 12) := a2.1
  refine x_aload_n (pc := 1297) hC dL_law_1297 rfl ?_
  refine x_aloadS_n (pc := 1298) hC dL_law_1298 rfl ?_
  refine x_iload_n (pc := 1299) hC dL_law_1299 rfl ?_
  refine x_iconst (pc := 1300) hC dL_law_1300 ?_
  refine x_iadd (pc := 1301) hC dL_law_1301 ?_
  refine x_sld (pc := 1302) hC hX hbl h62 h0 (by omega) (by omega) dL_law_1302 ?_
  refine x_aloadS_n (pc := 1303) hC dL_law_1303 rfl ?_
  refine x_iload_n (pc := 1304) hC dL_law_1304 rfl ?_
  refine x_iconst (pc := 1305) hC dL_law_1305 ?_
  refine x_iadd (pc := 1306) hC dL_law_1306 ?_
  refine x_sld (pc := 1307) hC hX hbl h62 h0 (by omega) (by omega) dL_law_1307 ?_
  refine x_aloadS_n (pc := 1308) hC dL_law_1308 rfl ?_
  refine x_iload_n (pc := 1309) hC dL_law_1309 rfl ?_
  refine x_iconst (pc := 1310) hC dL_law_1310 ?_
  refine x_iadd (pc := 1311) hC dL_law_1311 ?_
  refine x_sld (pc := 1312) hC hX hbl h62 h0 (by omega) (by omega) dL_law_1312 ?_
  refine x_callV (As := [_, _, _]) (Bs := [_, _, _]) (pc := 1313) hC (c_mean E a4 a6 hP (sc_rg xs (i + 1)) (sc_rg xs (i + 2)) (sc_rg xs (i + 3)) (by omega)) wL_149_11 pX11_mean (by assumption) rfl rfl (by exact Nat.le_of_ble_eq_true rfl) hR (by omega) (by decide) (by omega) rfl dL_law_1313 (fun r1313 σ1313 ρ1313 ks1313 q1313 => ?_)
  obtain ⟨rfl, nx, e1313, f1313⟩ := q1313
  obtain rfl := e1313.symm
  obtain rfl := f1313.symm
  have hH1 := hLH.nx nx
  have g47 : σ1313 47 = z := (nx 47 (by decide)).trans hz47
  obtain ⟨b1, b2, b3, b4, b5, b6, b7, b8, b9⟩ := id hH1
  refine x_aload_n (pc := 1316) hC dL_law_1316 rfl ?_
  refine x_aloadS_n (pc := 1317) hC dL_law_1317 rfl ?_
  refine x_iload_n (pc := 1318) hC dL_law_1318 rfl ?_
  refine x_iconst (pc := 1319) hC dL_law_1319 ?_
  refine x_iadd (pc := 1320) hC dL_law_1320 ?_
  refine x_sld (pc := 1321) hC hX hbl h62 h0 (by omega) (by omega) dL_law_1321 ?_
  refine x_aloadS_n (pc := 1322) hC dL_law_1322 rfl ?_
  refine x_iload_n (pc := 1323) hC dL_law_1323 rfl ?_
  refine x_iconst (pc := 1324) hC dL_law_1324 ?_
  refine x_iadd (pc := 1325) hC dL_law_1325 ?_
  refine x_sld (pc := 1326) hC hX hbl h62 h0 (by omega) (by omega) dL_law_1326 ?_
  refine x_aloadS_n (pc := 1327) hC dL_law_1327 rfl ?_
  refine x_iload_n (pc := 1328) hC dL_law_1328 rfl ?_
  refine x_iconst (pc := 1329) hC dL_law_1329 ?_
  refine x_iadd (pc := 1330) hC dL_law_1330 ?_
  refine x_sld (pc := 1331) hC hX hbl h62 h0 (by omega) (by omega) dL_law_1331 ?_
  refine x_callV (As := [_, _, _]) (Bs := [_, _, _]) (pc := 1332) hC (s_mean E b2 b3 (sc_rg xs (i + 1)) (sc_rg xs (i + 2)) (sc_rg xs (i + 3)) (by rw [g47]; exact hP)) wL_152_12 pX12_mean (by assumption) rfl rfl (by exact Nat.le_of_ble_eq_true rfl) hR (by omega) (by decide) (by omega) rfl dL_law_1332 (fun r1332 σ1332 ρ1332 ks1332 q1332 => ?_)
  obtain ⟨rfl, ak, e1332, f1332⟩ := q1332
  obtain rfl := e1332.symm
  obtain rfl := f1332.symm
  have hH2 := hH1.ask ak
  have g47b : σ1332 47 = z := (ak.1 47 (by decide) (by decide) (by decide) (by decide) (by decide) (by decide)).trans g47
  rw [g47]
  refine x_sameL (pc := 1335) hC dL_law_1335 ?_
  refine x_if_eq (tgt := 1634) (pc := 1336) hC (by decide) dL_law_1336 (by decide) (fun _ => ?_) (fun h => absurd rfl h)
  exact K _ _ _ _ _ _ (by omega) (by omega) g47b hH2

set_option maxHeartbeats 4000000 in
set_option maxRecDepth 100000 in
theorem lw_even {E : xE} {p : Program} {e : Env} {R : Room} {s : State} {m : MethodId} {args : Array Value} {below : List Frame} {meth : Method} {c : Code} {Z : State → Prop} (hC : XC E p R s m args meth c cL_law RL ret 4) (hR : xRm R 1312 600000 7302250) {b L : Nat} {xs : Nat → Int32} (hX : va_X b L xs s s.heap) (hbl : b < s.heap.size) (h62 : E.2.2.2.2.2 62 = b) (h0 : E.2.2.2.1 = s.heap.size) (hL : L ≤ 3072) {i : Int} (hi : 0 ≤ i ∧ i + 6 ≤ L) {kc ns : Nat} (hkc : kc ≤ 100000) (hns : ns ≤ 1000000) {σ : xM} {ρ : xR} {ks : xKs} {z : zS} (hz47 : σ 47 = z) (hLH : LH σ ρ ks z)
    (K : ∀ (σ' : xM) (ρ' : xR) (ks' : xKs) (z' : zS) (kc' ns' : Nat), kc' ≤ kc + 8 → ns' ≤ ns + 200 → σ' 47 = z' → LH σ' ρ' ks' z' → X E p e R s m args below meth c Z kc' ns' σ' ρ' ks' 1634 [some (.float 126), some (.ref 0), some (.ref 46), some (.int (iI i))] []) : X E p e R s m args below meth c Z kc ns σ ρ ks 1341 [some (.float 126), some (.ref 0), some (.ref 46), some (.int (iI i))] [] := by
  obtain ⟨a1, a2, a3, a4, a5, a6, a7, a8, a9⟩ := id hLH
  obtain ⟨hP, hCn, hSe, hRu, hBk, hTp, h20, h21, hz0, hout⟩ := id a5
  have hz0' := hP.2.2.2
  obtain ⟨n15, n16, n17, n18, n19⟩ := id hCn
  have k0 : ks[0]? = some (0, 11) := a4.1
  have k46 : ks[46]? = some (0, 12) := a2.1
  refine x_aload_n (pc := 1341) hC dL_law_1341 rfl ?_
  refine x_aloadS_n (pc := 1342) hC dL_law_1342 rfl ?_
  refine x_iload_n (pc := 1343) hC dL_law_1343 rfl ?_
  refine x_iconst (pc := 1344) hC dL_law_1344 ?_
  refine x_iadd (pc := 1345) hC dL_law_1345 ?_
  refine x_sld (pc := 1346) hC hX hbl h62 h0 (by omega) (by omega) dL_law_1346 ?_
  refine x_callV (As := [_]) (Bs := [_]) (pc := 1347) hC (c_even E a4 a6 hP (sc_rg xs (i + 1)) (by omega)) wL_153_11 pX11_even (by assumption) rfl rfl (by exact Nat.le_of_ble_eq_true rfl) hR (by omega) (by decide) (by omega) rfl dL_law_1347 (fun r1347 σ1347 ρ1347 ks1347 q1347 => ?_)
  obtain ⟨rfl, nx, e1347, f1347⟩ := q1347
  obtain rfl := e1347.symm
  obtain rfl := f1347.symm
  have hH1 := hLH.nx nx
  have g47 : σ1347 47 = z := (nx 47 (by decide)).trans hz47
  obtain ⟨b1, b2, b3, b4, b5, b6, b7, b8, b9⟩ := id hH1
  refine x_aload_n (pc := 1350) hC dL_law_1350 rfl ?_
  refine x_aloadS_n (pc := 1351) hC dL_law_1351 rfl ?_
  refine x_iload_n (pc := 1352) hC dL_law_1352 rfl ?_
  refine x_iconst (pc := 1353) hC dL_law_1353 ?_
  refine x_iadd (pc := 1354) hC dL_law_1354 ?_
  refine x_sld (pc := 1355) hC hX hbl h62 h0 (by omega) (by omega) dL_law_1355 ?_
  refine x_callV (As := [_]) (Bs := [_]) (pc := 1356) hC (s_even E b2 b3 (sc_rg xs (i + 1)) (by rw [g47]; exact hP) (by rw [g47]; omega)) wL_156_12 pX12_even (by assumption) rfl rfl (by exact Nat.le_of_ble_eq_true rfl) hR (by omega) (by decide) (by omega) rfl dL_law_1356 (fun r1356 σ1356 ρ1356 ks1356 q1356 => ?_)
  obtain ⟨rfl, ak, e1356, f1356⟩ := q1356
  obtain rfl := e1356.symm
  obtain rfl := f1356.symm
  have hH2 := hH1.ask ak
  have g47b : σ1356 47 = z := (ak.1 47 (by decide) (by decide) (by decide) (by decide) (by decide) (by decide)).trans g47
  rw [g47]
  refine x_same (tgt := 1634) (pc := 1359) hC dL_law_1359 (by decide) ?_
  exact K _ _ _ _ _ _ (by omega) (by omega) g47b hH2

set_option maxHeartbeats 4000000 in
set_option maxRecDepth 100000 in
theorem lw_rule {E : xE} {p : Program} {e : Env} {R : Room} {s : State} {m : MethodId} {args : Array Value} {below : List Frame} {meth : Method} {c : Code} {Z : State → Prop} (hC : XC E p R s m args meth c cL_law RL ret 4) (hR : xRm R 1312 600000 7302250) {b L : Nat} {xs : Nat → Int32} (hX : va_X b L xs s s.heap) (hbl : b < s.heap.size) (h62 : E.2.2.2.2.2 62 = b) (h0 : E.2.2.2.1 = s.heap.size) (hL : L ≤ 3072) {i : Int} (hi : 0 ≤ i ∧ i + 6 ≤ L) {kc ns : Nat} (hkc : kc ≤ 100000) (hns : ns ≤ 1000000) {σ : xM} {ρ : xR} {ks : xKs} {z : zS} (hz47 : σ 47 = z) (hLH : LH σ ρ ks z)
    (K : ∀ (σ' : xM) (ρ' : xR) (ks' : xKs) (z' : zS) (kc' ns' : Nat), kc' ≤ kc + 8 → ns' ≤ ns + 200 → σ' 47 = z' → LH σ' ρ' ks' z' → X E p e R s m args below meth c Z kc' ns' σ' ρ' ks' 1634 [some (.float 126), some (.ref 0), some (.ref 46), some (.int (iI i))] []) : X E p e R s m args below meth c Z kc ns σ ρ ks 1364 [some (.float 126), some (.ref 0), some (.ref 46), some (.int (iI i))] [] := by
  obtain ⟨a1, a2, a3, a4, a5, a6, a7, a8, a9⟩ := id hLH
  obtain ⟨hP, hCn, hSe, hRu, hBk, hTp, h20, h21, hz0, hout⟩ := id a5
  have hz0' := hP.2.2.2
  obtain ⟨n15, n16, n17, n18, n19⟩ := id hCn
  have k0 : ks[0]? = some (0, 11) := a4.1
  have k46 : ks[46]? = some (0, 12) := a2.1
  refine x_aload_n (pc := 1364) hC dL_law_1364 rfl ?_
  refine x_aloadS_n (pc := 1365) hC dL_law_1365 rfl ?_
  refine x_iload_n (pc := 1366) hC dL_law_1366 rfl ?_
  refine x_iconst (pc := 1367) hC dL_law_1367 ?_
  refine x_iadd (pc := 1368) hC dL_law_1368 ?_
  refine x_sld (pc := 1369) hC hX hbl h62 h0 (by omega) (by omega) dL_law_1369 ?_
  refine x_aloadS_n (pc := 1370) hC dL_law_1370 rfl ?_
  refine x_iload_n (pc := 1371) hC dL_law_1371 rfl ?_
  refine x_iconst (pc := 1372) hC dL_law_1372 ?_
  refine x_iadd (pc := 1373) hC dL_law_1373 ?_
  refine x_sld (pc := 1374) hC hX hbl h62 h0 (by omega) (by omega) dL_law_1374 ?_
  refine x_callV (As := [_, _]) (Bs := [_, _]) (pc := 1375) hC (c_rule E a4 a6 hP hCn (sc_rg xs (i + 1)) (sc_rg xs (i + 2))) wL_157_11 pX11_rule (by assumption) rfl rfl (by exact Nat.le_of_ble_eq_true rfl) hR (by omega) (by decide) (by omega) rfl dL_law_1375 (fun r1375 σ1375 ρ1375 ks1375 q1375 => ?_)
  obtain ⟨rfl, hz1, hx, e1375, f1375⟩ := q1375
  obtain rfl := e1375.symm
  obtain rfl := f1375.symm
  have hI1 : Inv (ruleZ z (sc xs (i + 1)) (sc xs (i + 2))) := rule_inv a5 _ _
  have hH1 : LH σ1375 ρ ks (ruleZ z (sc xs (i + 1)) (sc xs (i + 2))) := hLH.hx hx hz1 hI1 (rule_13 hP hCn _ _) (fun f f0 f1 => rule_22 hP hCn f0 f1 _ _)
  have g47 : σ1375 47 = z := (hLH.hx46 hx 47 (by decide) (by decide)).trans hz47
  obtain ⟨b1, b2, b3, b4, b5, b6, b7, b8, b9⟩ := id hH1
  refine x_aload_n (pc := 1378) hC dL_law_1378 rfl ?_
  refine x_aloadS_n (pc := 1379) hC dL_law_1379 rfl ?_
  refine x_iload_n (pc := 1380) hC dL_law_1380 rfl ?_
  refine x_iconst (pc := 1381) hC dL_law_1381 ?_
  refine x_iadd (pc := 1382) hC dL_law_1382 ?_
  refine x_sld (pc := 1383) hC hX hbl h62 h0 (by omega) (by omega) dL_law_1383 ?_
  refine x_aloadS_n (pc := 1384) hC dL_law_1384 rfl ?_
  refine x_iload_n (pc := 1385) hC dL_law_1385 rfl ?_
  refine x_iconst (pc := 1386) hC dL_law_1386 ?_
  refine x_iadd (pc := 1387) hC dL_law_1387 ?_
  refine x_sld (pc := 1388) hC hX hbl h62 h0 (by omega) (by omega) dL_law_1388 ?_
  refine x_callV1 (As := [_, _]) (Bs := [_, _]) (pc := 1389) hC (s_rule E b2 b3 (sc_rg xs (i + 1)) (sc_rg xs (i + 2)) (by rw [g47]; exact hP.1) (by rw [g47]; omega)) wL_160_12 pX12_rule (by assumption) rfl rfl (by exact Nat.le_of_ble_eq_true rfl) hR (by omega) (by decide) (by omega) rfl dL_law_1389 ?_
  rw [g47]
  refine x_same (tgt := 1634) (pc := 1392) hC dL_law_1392 (by decide) ?_
  exact K _ _ _ _ _ _ (by omega) (by omega) rfl hH1.swz

set_option maxHeartbeats 4000000 in
set_option maxRecDepth 100000 in
theorem lw_ruled {E : xE} {p : Program} {e : Env} {R : Room} {s : State} {m : MethodId} {args : Array Value} {below : List Frame} {meth : Method} {c : Code} {Z : State → Prop} (hC : XC E p R s m args meth c cL_law RL ret 4) (hR : xRm R 1312 600000 7302250) {b L : Nat} {xs : Nat → Int32} (hX : va_X b L xs s s.heap) (hbl : b < s.heap.size) (h62 : E.2.2.2.2.2 62 = b) (h0 : E.2.2.2.1 = s.heap.size) (hL : L ≤ 3072) {i : Int} (hi : 0 ≤ i ∧ i + 6 ≤ L) {kc ns : Nat} (hkc : kc ≤ 100000) (hns : ns ≤ 1000000) {σ : xM} {ρ : xR} {ks : xKs} {z : zS} (hz47 : σ 47 = z) (hLH : LH σ ρ ks z)
    (K : ∀ (σ' : xM) (ρ' : xR) (ks' : xKs) (z' : zS) (kc' ns' : Nat), kc' ≤ kc + 8 → ns' ≤ ns + 200 → σ' 47 = z' → LH σ' ρ' ks' z' → X E p e R s m args below meth c Z kc' ns' σ' ρ' ks' 1634 [some (.float 126), some (.ref 0), some (.ref 46), some (.int (iI i))] []) : X E p e R s m args below meth c Z kc ns σ ρ ks 1397 [some (.float 126), some (.ref 0), some (.ref 46), some (.int (iI i))] [] := by
  obtain ⟨a1, a2, a3, a4, a5, a6, a7, a8, a9⟩ := id hLH
  obtain ⟨hP, hCn, hSe, hRu, hBk, hTp, h20, h21, hz0, hout⟩ := id a5
  have hz0' := hP.2.2.2
  obtain ⟨n15, n16, n17, n18, n19⟩ := id hCn
  have k0 : ks[0]? = some (0, 11) := a4.1
  have k46 : ks[46]? = some (0, 12) := a2.1
  refine x_aload_n (pc := 1397) hC dL_law_1397 rfl ?_
  refine x_aloadS_n (pc := 1398) hC dL_law_1398 rfl ?_
  refine x_iload_n (pc := 1399) hC dL_law_1399 rfl ?_
  refine x_iconst (pc := 1400) hC dL_law_1400 ?_
  refine x_iadd (pc := 1401) hC dL_law_1401 ?_
  refine x_sld (pc := 1402) hC hX hbl h62 h0 (by omega) (by omega) dL_law_1402 ?_
  refine x_aloadS_n (pc := 1403) hC dL_law_1403 rfl ?_
  refine x_iload_n (pc := 1404) hC dL_law_1404 rfl ?_
  refine x_iconst (pc := 1405) hC dL_law_1405 ?_
  refine x_iadd (pc := 1406) hC dL_law_1406 ?_
  refine x_sld (pc := 1407) hC hX hbl h62 h0 (by omega) (by omega) dL_law_1407 ?_
  refine x_callV (As := [_, _]) (Bs := [_, _]) (pc := 1408) hC (c_ruled E a4 a6 hP (sc_rg xs (i + 1)) (sc_rg xs (i + 2)) hRu (by omega)) wL_161_11 pX11_ruled (by assumption) rfl rfl (by exact Nat.le_of_ble_eq_true rfl) hR (by omega) (by decide) (by omega) rfl dL_law_1408 (fun r1408 σ1408 ρ1408 ks1408 q1408 => ?_)
  obtain ⟨rfl, nx, e1408, f1408⟩ := q1408
  obtain rfl := e1408.symm
  obtain rfl := f1408.symm
  have hH1 := hLH.nx nx
  have g47 : σ1408 47 = z := (nx 47 (by decide)).trans hz47
  obtain ⟨b1, b2, b3, b4, b5, b6, b7, b8, b9⟩ := id hH1
  refine x_aload_n (pc := 1411) hC dL_law_1411 rfl ?_
  refine x_aloadS_n (pc := 1412) hC dL_law_1412 rfl ?_
  refine x_iload_n (pc := 1413) hC dL_law_1413 rfl ?_
  refine x_iconst (pc := 1414) hC dL_law_1414 ?_
  refine x_iadd (pc := 1415) hC dL_law_1415 ?_
  refine x_sld (pc := 1416) hC hX hbl h62 h0 (by omega) (by omega) dL_law_1416 ?_
  refine x_aloadS_n (pc := 1417) hC dL_law_1417 rfl ?_
  refine x_iload_n (pc := 1418) hC dL_law_1418 rfl ?_
  refine x_iconst (pc := 1419) hC dL_law_1419 ?_
  refine x_iadd (pc := 1420) hC dL_law_1420 ?_
  refine x_sld (pc := 1421) hC hX hbl h62 h0 (by omega) (by omega) dL_law_1421 ?_
  refine x_callV (As := [_, _]) (Bs := [_, _]) (pc := 1422) hC (s_ruled E b2 b3 (sc_rg xs (i + 1)) (sc_rg xs (i + 2)) (by rw [g47]; exact hRu) (by rw [g47]; exact hP) (by rw [g47]; omega)) wL_164_12 pX12_ruled (by assumption) rfl rfl (by exact Nat.le_of_ble_eq_true rfl) hR (by omega) (by decide) (by omega) rfl dL_law_1422 (fun r1422 σ1422 ρ1422 ks1422 q1422 => ?_)
  obtain ⟨rfl, ak, e1422, f1422⟩ := q1422
  obtain rfl := e1422.symm
  obtain rfl := f1422.symm
  have hH2 := hH1.ask ak
  have g47b : σ1422 47 = z := (ak.1 47 (by decide) (by decide) (by decide) (by decide) (by decide) (by decide)).trans g47
  rw [g47]
  refine x_same (tgt := 1634) (pc := 1425) hC dL_law_1425 (by decide) ?_
  exact K _ _ _ _ _ _ (by omega) (by omega) g47b hH2
