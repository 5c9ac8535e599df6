/-! THE LAW, its cases 36 to 39 -/
set_option maxHeartbeats 4000000 in
set_option maxRecDepth 100000 in
theorem lw_book {E : xE} {p : Program} {e : Env} {R : Room} {s : State} {m : MethodId} {args : Array Value} {below : List Frame} {meth : Method} {c : Code} {Z : State → Prop} (hC : XC E p R s m args meth c cL_law RL ret 4) (hR : xRm R 1312 600000 7302250) {b L : Nat} {xs : Nat → Int32} (hX : va_X b L xs s s.heap) (hbl : b < s.heap.size) (h62 : E.2.2.2.2.2 62 = b) (h0 : E.2.2.2.1 = s.heap.size) (hL : L ≤ 3072) {i : Int} (hi : 0 ≤ i ∧ i + 6 ≤ L) {kc ns : Nat} (hkc : kc ≤ 100000) (hns : ns ≤ 1000000) {σ : xM} {ρ : xR} {ks : xKs} {z : zS} (hz47 : σ 47 = z) (hLH : LH σ ρ ks z)
    (K : ∀ (σ' : xM) (ρ' : xR) (ks' : xKs) (z' : zS) (kc' ns' : Nat), kc' ≤ kc + 8 → ns' ≤ ns + 200 → σ' 47 = z' → LH σ' ρ' ks' z' → X E p e R s m args below meth c Z kc' ns' σ' ρ' ks' 1634 [some (.float 126), some (.ref 0), some (.ref 46), some (.int (iI i))] []) : X E p e R s m args below meth c Z kc ns σ ρ ks 1430 [some (.float 126), some (.ref 0), some (.ref 46), some (.int (iI i))] [] := by
  obtain ⟨a1, a2, a3, a4, a5, a6, a7, a8, a9⟩ := id hLH
  obtain ⟨hP, hCn, hSe, hRu, hBk, hTp, h20, h21, hz0, hout⟩ := id a5
  have hz0' := hP.2.2.2
  obtain ⟨n15, n16, n17, n18, n19⟩ := id hCn
  have k0 : ks[0]? = some (0, 11) := a4.1
  have k46 : ks[46]? = some (0, 12) := a2.1
  refine x_aload_n (pc := 1430) hC dL_law_1430 rfl ?_
  refine x_aloadS_n (pc := 1431) hC dL_law_1431 rfl ?_
  refine x_iload_n (pc := 1432) hC dL_law_1432 rfl ?_
  refine x_iconst (pc := 1433) hC dL_law_1433 ?_
  refine x_iadd (pc := 1434) hC dL_law_1434 ?_
  refine x_sld (pc := 1435) hC hX hbl h62 h0 (by omega) (by omega) dL_law_1435 ?_
  refine x_aloadS_n (pc := 1436) hC dL_law_1436 rfl ?_
  refine x_iload_n (pc := 1437) hC dL_law_1437 rfl ?_
  refine x_iconst (pc := 1438) hC dL_law_1438 ?_
  refine x_iadd (pc := 1439) hC dL_law_1439 ?_
  refine x_sld (pc := 1440) hC hX hbl h62 h0 (by omega) (by omega) dL_law_1440 ?_
  refine x_aloadS_n (pc := 1441) hC dL_law_1441 rfl ?_
  refine x_iload_n (pc := 1442) hC dL_law_1442 rfl ?_
  refine x_iconst (pc := 1443) hC dL_law_1443 ?_
  refine x_iadd (pc := 1444) hC dL_law_1444 ?_
  refine x_sld (pc := 1445) hC hX hbl h62 h0 (by omega) (by omega) dL_law_1445 ?_
  refine x_callV (As := [_, _, _]) (Bs := [_, _, _]) (pc := 1446) hC (c_book E a4 a6 hP hCn (sc_rg xs (i + 1)) (sc_rg xs (i + 2)) (sc_rg xs (i + 3))) wL_165_11 pX11_book (by assumption) rfl rfl (by exact Nat.le_of_ble_eq_true rfl) hR (by omega) (by decide) (by omega) rfl dL_law_1446 (fun r1446 σ1446 ρ1446 ks1446 q1446 => ?_)
  obtain ⟨rfl, hz1, hx, e1446, f1446⟩ := q1446
  obtain rfl := e1446.symm
  obtain rfl := f1446.symm
  have hI1 : Inv (bookZ z (sc xs (i + 1)) (sc xs (i + 2)) (sc xs (i + 3))) := book_inv a5 _ _ _
  have hH1 : LH σ1446 ρ ks (bookZ z (sc xs (i + 1)) (sc xs (i + 2)) (sc xs (i + 3))) := hLH.hx hx hz1 hI1 (book_13 hP hCn _ _ _) (fun f f0 f1 => book_22 hP hCn f0 f1 _ _ _)
  have g47 : σ1446 47 = z := (hLH.hx46 hx 47 (by decide) (by decide)).trans hz47
  obtain ⟨b1, b2, b3, b4, b5, b6, b7, b8, b9⟩ := id hH1
  refine x_aload_n (pc := 1449) hC dL_law_1449 rfl ?_
  refine x_aloadS_n (pc := 1450) hC dL_law_1450 rfl ?_
  refine x_iload_n (pc := 1451) hC dL_law_1451 rfl ?_
  refine x_iconst (pc := 1452) hC dL_law_1452 ?_
  refine x_iadd (pc := 1453) hC dL_law_1453 ?_
  refine x_sld (pc := 1454) hC hX hbl h62 h0 (by omega) (by omega) dL_law_1454 ?_
  refine x_aloadS_n (pc := 1455) hC dL_law_1455 rfl ?_
  refine x_iload_n (pc := 1456) hC dL_law_1456 rfl ?_
  refine x_iconst (pc := 1457) hC dL_law_1457 ?_
  refine x_iadd (pc := 1458) hC dL_law_1458 ?_
  refine x_sld (pc := 1459) hC hX hbl h62 h0 (by omega) (by omega) dL_law_1459 ?_
  refine x_aloadS_n (pc := 1460) hC dL_law_1460 rfl ?_
  refine x_iload_n (pc := 1461) hC dL_law_1461 rfl ?_
  refine x_iconst (pc := 1462) hC dL_law_1462 ?_
  refine x_iadd (pc := 1463) hC dL_law_1463 ?_
  refine x_sld (pc := 1464) hC hX hbl h62 h0 (by omega) (by omega) dL_law_1464 ?_
  refine x_callV1 (As := [_, _, _]) (Bs := [_, _, _]) (pc := 1465) hC (s_book E b2 b3 (sc_rg xs (i + 1)) (sc_rg xs (i + 2)) (sc_rg xs (i + 3)) (by rw [g47]; exact hP.1) (by rw [g47]; omega)) wL_168_12 pX12_book (by assumption) rfl rfl (by exact Nat.le_of_ble_eq_true rfl) hR (by omega) (by decide) (by omega) rfl dL_law_1465 ?_
  rw [g47]
  refine x_same (tgt := 1634) (pc := 1468) hC dL_law_1468 (by decide) ?_
  exact K _ _ _ _ _ _ (by omega) (by omega) rfl hH1.swz

set_option maxHeartbeats 4000000 in
set_option maxRecDepth 100000 in
theorem lw_looked {E : xE} {p : Program} {e : Env} {R : Room} {s : State} {m : MethodId} {args : Array Value} {below : List Frame} {meth : Method} {c : Code} {Z : State → Prop} (hC : XC E p R s m args meth c cL_law RL ret 4) (hR : xRm R 1312 600000 7302250) {b L : Nat} {xs : Nat → Int32} (hX : va_X b L xs s s.heap) (hbl : b < s.heap.size) (h62 : E.2.2.2.2.2 62 = b) (h0 : E.2.2.2.1 = s.heap.size) (hL : L ≤ 3072) {i : Int} (hi : 0 ≤ i ∧ i + 6 ≤ L) {kc ns : Nat} (hkc : kc ≤ 100000) (hns : ns ≤ 1000000) {σ : xM} {ρ : xR} {ks : xKs} {z : zS} (hz47 : σ 47 = z) (hLH : LH σ ρ ks z)
    (K : ∀ (σ' : xM) (ρ' : xR) (ks' : xKs) (z' : zS) (kc' ns' : Nat), kc' ≤ kc + 8 → ns' ≤ ns + 200 → σ' 47 = z' → LH σ' ρ' ks' z' → X E p e R s m args below meth c Z kc' ns' σ' ρ' ks' 1634 [some (.float 126), some (.ref 0), some (.ref 46), some (.int (iI i))] []) : X E p e R s m args below meth c Z kc ns σ ρ ks 1473 [some (.float 126), some (.ref 0), some (.ref 46), some (.int (iI i))] [] := by
  obtain ⟨a1, a2, a3, a4, a5, a6, a7, a8, a9⟩ := id hLH
  obtain ⟨hP, hCn, hSe, hRu, hBk, hTp, h20, h21, hz0, hout⟩ := id a5
  have hz0' := hP.2.2.2
  obtain ⟨n15, n16, n17, n18, n19⟩ := id hCn
  have k0 : ks[0]? = some (0, 11) := a4.1
  have k46 : ks[46]? = some (0, 12) := a2.1
  refine x_aload_n (pc := 1473) hC dL_law_1473 rfl ?_
  refine x_callV (As := []) (Bs := []) (pc := 1474) hC (c_looked E a4 a6 hP hBk) wL_169_11 pX11_looked (by assumption) rfl rfl (by exact Nat.le_of_ble_eq_true rfl) hR (by omega) (by decide) (by omega) rfl dL_law_1474 (fun r1474 σ1474 ρ1474 ks1474 q1474 => ?_)
  obtain ⟨rfl, nx, e1474, f1474⟩ := q1474
  obtain rfl := e1474.symm
  obtain rfl := f1474.symm
  have hH1 := hLH.nx nx
  have g47 : σ1474 47 = z := (nx 47 (by decide)).trans hz47
  obtain ⟨b1, b2, b3, b4, b5, b6, b7, b8, b9⟩ := id hH1
  refine x_aload_n (pc := 1477) hC dL_law_1477 rfl ?_
  refine x_callV1 (As := []) (Bs := []) (pc := 1478) hC (s_looked E b2 b3 (by rw [g47]; exact hP.1) (by rw [g47]; exact hP.2.1) (by rw [g47]; exact hBk)) wL_172_12 pX12_looked (by assumption) rfl rfl (by exact Nat.le_of_ble_eq_true rfl) hR (by omega) (by decide) (by omega) rfl dL_law_1478 ?_
  rw [g47]
  refine x_same (tgt := 1634) (pc := 1481) hC dL_law_1481 (by decide) ?_
  exact K _ _ _ _ _ _ (by omega) (by omega) g47 hH1

set_option maxHeartbeats 4000000 in
set_option maxRecDepth 100000 in
theorem lw_act {E : xE} {p : Program} {e : Env} {R : Room} {s : State} {m : MethodId} {args : Array Value} {below : List Frame} {meth : Method} {c : Code} {Z : State → Prop} (hC : XC E p R s m args meth c cL_law RL ret 4) (hR : xRm R 1312 600000 7302250) {b L : Nat} {xs : Nat → Int32} (hX : va_X b L xs s s.heap) (hbl : b < s.heap.size) (h62 : E.2.2.2.2.2 62 = b) (h0 : E.2.2.2.1 = s.heap.size) (hL : L ≤ 3072) {i : Int} (hi : 0 ≤ i ∧ i + 6 ≤ L) {kc ns : Nat} (hkc : kc ≤ 100000) (hns : ns ≤ 1000000) {σ : xM} {ρ : xR} {ks : xKs} {z : zS} (hz47 : σ 47 = z) (hLH : LH σ ρ ks z)
    (K : ∀ (σ' : xM) (ρ' : xR) (ks' : xKs) (z' : zS) (kc' ns' : Nat), kc' ≤ kc + 8 → ns' ≤ ns + 200 → σ' 47 = z' → LH σ' ρ' ks' z' → X E p e R s m args below meth c Z kc' ns' σ' ρ' ks' 1634 [some (.float 126), some (.ref 0), some (.ref 46), some (.int (iI i))] []) : X E p e R s m args below meth c Z kc ns σ ρ ks 1486 [some (.float 126), some (.ref 0), some (.ref 46), some (.int (iI i))] [] := by
  obtain ⟨a1, a2, a3, a4, a5, a6, a7, a8, a9⟩ := id hLH
  obtain ⟨hP, hCn, hSe, hRu, hBk, hTp, h20, h21, hz0, hout⟩ := id a5
  have hz0' := hP.2.2.2
  obtain ⟨n15, n16, n17, n18, n19⟩ := id hCn
  have k0 : ks[0]? = some (0, 11) := a4.1
  have k46 : ks[46]? = some (0, 12) := a2.1
  refine x_aload_n (pc := 1486) hC dL_law_1486 rfl ?_
  refine x_aloadS_n (pc := 1487) hC dL_law_1487 rfl ?_
  refine x_iload_n (pc := 1488) hC dL_law_1488 rfl ?_
  refine x_iconst (pc := 1489) hC dL_law_1489 ?_
  refine x_iadd (pc := 1490) hC dL_law_1490 ?_
  refine x_sld (pc := 1491) hC hX hbl h62 h0 (by omega) (by omega) dL_law_1491 ?_
  refine x_aloadS_n (pc := 1492) hC dL_law_1492 rfl ?_
  refine x_iload_n (pc := 1493) hC dL_law_1493 rfl ?_
  refine x_iconst (pc := 1494) hC dL_law_1494 ?_
  refine x_iadd (pc := 1495) hC dL_law_1495 ?_
  refine x_sld (pc := 1496) hC hX hbl h62 h0 (by omega) (by omega) dL_law_1496 ?_
  refine x_aloadS_n (pc := 1497) hC dL_law_1497 rfl ?_
  refine x_iload_n (pc := 1498) hC dL_law_1498 rfl ?_
  refine x_iconst (pc := 1499) hC dL_law_1499 ?_
  refine x_iadd (pc := 1500) hC dL_law_1500 ?_
  refine x_sld (pc := 1501) hC hX hbl h62 h0 (by omega) (by omega) dL_law_1501 ?_
  refine x_callV (As := [_, _, _]) (Bs := [_, _, _]) (pc := 1502) hC (c_act E a4 a6 hP (sc_rg xs (i + 1)) (sc_rg xs (i + 2))) wL_173_11 pX11_act (by assumption) rfl rfl (by exact Nat.le_of_ble_eq_true rfl) hR (by omega) (by decide) (by omega) rfl dL_law_1502 (fun r1502 σ1502 ρ1502 ks1502 q1502 => ?_)
  obtain ⟨rfl, e1502, f1502, m1, m2, m3⟩ := q1502
  obtain rfl := e1502.symm
  obtain rfl := f1502.symm
  have g47 : σ1502 47 = z := (m1 47 (by decide) (by decide)).trans hz47
  have b2 := a2
  have b3 := a3
  refine x_aload_n (pc := 1505) hC dL_law_1505 rfl ?_
  refine x_aloadS_n (pc := 1506) hC dL_law_1506 rfl ?_
  refine x_iload_n (pc := 1507) hC dL_law_1507 rfl ?_
  refine x_iconst (pc := 1508) hC dL_law_1508 ?_
  refine x_iadd (pc := 1509) hC dL_law_1509 ?_
  refine x_sld (pc := 1510) hC hX hbl h62 h0 (by omega) (by omega) dL_law_1510 ?_
  refine x_aloadS_n (pc := 1511) hC dL_law_1511 rfl ?_
  refine x_iload_n (pc := 1512) hC dL_law_1512 rfl ?_
  refine x_iconst (pc := 1513) hC dL_law_1513 ?_
  refine x_iadd (pc := 1514) hC dL_law_1514 ?_
  refine x_sld (pc := 1515) hC hX hbl h62 h0 (by omega) (by omega) dL_law_1515 ?_
  refine x_aloadS_n (pc := 1516) hC dL_law_1516 rfl ?_
  refine x_iload_n (pc := 1517) hC dL_law_1517 rfl ?_
  refine x_iconst (pc := 1518) hC dL_law_1518 ?_
  refine x_iadd (pc := 1519) hC dL_law_1519 ?_
  refine x_sld (pc := 1520) hC hX hbl h62 h0 (by omega) (by omega) dL_law_1520 ?_
  refine x_callV (As := [_, _, _]) (Bs := [_, _, _]) (pc := 1521) hC (s_act E b2 b3 (sc_rg xs (i + 1)) (sc_rg xs (i + 2)) (by rw [g47]; exact hP.1)) wL_176_12 pX12_act (by assumption) rfl rfl (by exact Nat.le_of_ble_eq_true rfl) hR (by omega) (by decide) (by omega) rfl dL_law_1521 (fun r1521 σ1521 ρ1521 ks1521 q1521 => ?_)
  obtain ⟨rfl, e1521, f1521, n1, n2, n3, n4⟩ := q1521
  obtain rfl := e1521.symm
  obtain rfl := f1521.symm
  rw [g47] at n3 n4
  have hH2 := hLH.act (actT_l z _ _) m1 m2 m3 n1 n2 n3 n4
  have g47b : σ1521 47 = z := (n1 47 (by decide) (by decide)).trans g47
  rw [g47]
  refine x_same (tgt := 1634) (pc := 1524) hC dL_law_1524 (by decide) ?_
  exact K _ _ _ _ _ _ (by omega) (by omega) g47b hH2

set_option maxHeartbeats 4000000 in
set_option maxRecDepth 100000 in
theorem lw_trace {E : xE} {p : Program} {e : Env} {R : Room} {s : State} {m : MethodId} {args : Array Value} {below : List Frame} {meth : Method} {c : Code} {Z : State → Prop} (hC : XC E p R s m args meth c cL_law RL ret 4) (hR : xRm R 1312 600000 7302250) {b L : Nat} {xs : Nat → Int32} (hX : va_X b L xs s s.heap) (hbl : b < s.heap.size) (h62 : E.2.2.2.2.2 62 = b) (h0 : E.2.2.2.1 = s.heap.size) (hL : L ≤ 3072) {i : Int} (hi : 0 ≤ i ∧ i + 6 ≤ L) {kc ns : Nat} (hkc : kc ≤ 100000) (hns : ns ≤ 1000000) {σ : xM} {ρ : xR} {ks : xKs} {z : zS} (hz47 : σ 47 = z) (hLH : LH σ ρ ks z)
    (K : ∀ (σ' : xM) (ρ' : xR) (ks' : xKs) (z' : zS) (kc' ns' : Nat), kc' ≤ kc + 8 → ns' ≤ ns + 200 → σ' 47 = z' → LH σ' ρ' ks' z' → X E p e R s m args below meth c Z kc' ns' σ' ρ' ks' 1634 [some (.float 126), some (.ref 0), some (.ref 46), some (.int (iI i))] []) : X E p e R s m args below meth c Z kc ns σ ρ ks 1529 [some (.float 126), some (.ref 0), some (.ref 46), some (.int (iI i))] [] := by
  obtain ⟨a1, a2, a3, a4, a5, a6, a7, a8, a9⟩ := id hLH
  obtain ⟨hP, hCn, hSe, hRu, hBk, hTp, h20, h21, hz0, hout⟩ := id a5
  have hz0' := hP.2.2.2
  obtain ⟨n15, n16, n17, n18, n19⟩ := id hCn
  have k0 : ks[0]? = some (0, 11) := a4.1
  have k46 : ks[46]? = some (0, 12) := a2.1
  refine x_aload_n (pc := 1529) hC dL_law_1529 rfl ?_
  refine x_aloadS_n (pc := 1530) hC dL_law_1530 rfl ?_
  refine x_iload_n (pc := 1531) hC dL_law_1531 rfl ?_
  refine x_iconst (pc := 1532) hC dL_law_1532 ?_
  refine x_iadd (pc := 1533) hC dL_law_1533 ?_
  refine x_sld (pc := 1534) hC hX hbl h62 h0 (by omega) (by omega) dL_law_1534 ?_
  refine x_callV (As := [_]) (Bs := [_]) (pc := 1535) hC (c_trace E a4 a6 hP (sc_rg xs (i + 1)) a8.1 a8.2.1 a8.2.2) wL_177_11 pX11_trace (by assumption) rfl rfl (by exact Nat.le_of_ble_eq_true rfl) hR (by omega) (by decide) (by omega) rfl dL_law_1535 (fun r1535 σ1535 ρ1535 ks1535 q1535 => ?_)
  obtain ⟨rfl, nx, e1535, f1535⟩ := q1535
  obtain rfl := e1535.symm
  obtain rfl := f1535.symm
  have hH1 := hLH.nx nx
  have g47 : σ1535 47 = z := (nx 47 (by decide)).trans hz47
  obtain ⟨b1, b2, b3, b4, b5, b6, b7, b8, b9⟩ := id hH1
  refine x_aload_n (pc := 1538) hC dL_law_1538 rfl ?_
  refine x_aloadS_n (pc := 1539) hC dL_law_1539 rfl ?_
  refine x_iload_n (pc := 1540) hC dL_law_1540 rfl ?_
  refine x_iconst (pc := 1541) hC dL_law_1541 ?_
  refine x_iadd (pc := 1542) hC dL_law_1542 ?_
  refine x_sld (pc := 1543) hC hX hbl h62 h0 (by omega) (by omega) dL_law_1543 ?_
  refine x_callV1 (As := [_]) (Bs := [_]) (pc := 1544) hC (s_trace E b2 b3 (sc_rg xs (i + 1)) (by have := b8.2.1; omega)) wL_180_12 pX12_trace (by assumption) rfl rfl (by exact Nat.le_of_ble_eq_true rfl) hR (by omega) (by decide) (by omega) rfl dL_law_1544 ?_
  rw [nx 46 (by decide), nx 54 (by decide)]
  refine x_same (tgt := 1634) (pc := 1547) hC dL_law_1547 (by decide) ?_
  exact K _ _ _ _ _ _ (by omega) (by omega) g47 hH1
