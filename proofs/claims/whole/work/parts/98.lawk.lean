/-! THE LAW, its cases 40 to 43 -/
set_option maxHeartbeats 4000000 in
set_option maxRecDepth 100000 in
theorem lw_as {E : xE} {p : Program} {e : Env} {R : Room} {s : State} {m : MethodId} {args : Array Value} {below : List Frame} {meth : Method} {c : Code} {Z : State → Prop} (hC : XC E p R s m args meth c cL_law RL ret 4) (hR : xRm R 1312 600000 7302250) {b L : Nat} {xs : Nat → Int32} (hX : va_X b L xs s s.heap) (hbl : b < s.heap.size) (h62 : E.2.2.2.2.2 62 = b) (h0 : E.2.2.2.1 = s.heap.size) (hL : L ≤ 3072) {i : Int} (hi : 0 ≤ i ∧ i + 6 ≤ L) {kc ns : Nat} (hkc : kc ≤ 100000) (hns : ns ≤ 1000000) {σ : xM} {ρ : xR} {ks : xKs} {z : zS} (hz47 : σ 47 = z) (hLH : LH σ ρ ks z)
    (K : ∀ (σ' : xM) (ρ' : xR) (ks' : xKs) (z' : zS) (kc' ns' : Nat), kc' ≤ kc + 8 → ns' ≤ ns + 200 → σ' 47 = z' → LH σ' ρ' ks' z' → X E p e R s m args below meth c Z kc' ns' σ' ρ' ks' 1634 [some (.float 126), some (.ref 0), some (.ref 46), some (.int (iI i))] []) : X E p e R s m args below meth c Z kc ns σ ρ ks 1552 [some (.float 126), some (.ref 0), some (.ref 46), some (.int (iI i))] [] := by
  obtain ⟨a1, a2, a3, a4, a5, a6, a7, a8, a9⟩ := id hLH
  obtain ⟨hP, hCn, hSe, hRu, hBk, hTp, h20, h21, hz0, hout⟩ := id a5
  have hz0' := hP.2.2.2
  obtain ⟨n15, n16, n17, n18, n19⟩ := id hCn
  have k0 : ks[0]? = some (0, 11) := a4.1
  have k46 : ks[46]? = some (0, 12) := a2.1
  refine x_aload_n (pc := 1552) hC dL_law_1552 rfl ?_
  refine x_aloadS_n (pc := 1553) hC dL_law_1553 rfl ?_
  refine x_iload_n (pc := 1554) hC dL_law_1554 rfl ?_
  refine x_iconst (pc := 1555) hC dL_law_1555 ?_
  refine x_iadd (pc := 1556) hC dL_law_1556 ?_
  refine x_sld (pc := 1557) hC hX hbl h62 h0 (by omega) (by omega) dL_law_1557 ?_
  refine x_aloadS_n (pc := 1558) hC dL_law_1558 rfl ?_
  refine x_iload_n (pc := 1559) hC dL_law_1559 rfl ?_
  refine x_iconst (pc := 1560) hC dL_law_1560 ?_
  refine x_iadd (pc := 1561) hC dL_law_1561 ?_
  refine x_sld (pc := 1562) hC hX hbl h62 h0 (by omega) (by omega) dL_law_1562 ?_
  refine x_callV (As := [_, _]) (Bs := [_, _]) (pc := 1563) hC (c_as E a4 a6 hP (sc_rg xs (i + 1)) (sc_rg xs (i + 2))) wL_181_11 pX11_as (by assumption) rfl rfl (by exact Nat.le_of_ble_eq_true rfl) hR (by omega) (by decide) (by omega) rfl dL_law_1563 (fun r1563 σ1563 ρ1563 ks1563 q1563 => ?_)
  obtain ⟨rfl, nx, e1563, f1563⟩ := q1563
  obtain rfl := e1563.symm
  obtain rfl := f1563.symm
  have hH1 := hLH.nx nx
  have g47 : σ1563 47 = z := (nx 47 (by decide)).trans hz47
  obtain ⟨b1, b2, b3, b4, b5, b6, b7, b8, b9⟩ := id hH1
  refine x_aload_n (pc := 1566) hC dL_law_1566 rfl ?_
  refine x_aloadS_n (pc := 1567) hC dL_law_1567 rfl ?_
  refine x_iload_n (pc := 1568) hC dL_law_1568 rfl ?_
  refine x_iconst (pc := 1569) hC dL_law_1569 ?_
  refine x_iadd (pc := 1570) hC dL_law_1570 ?_
  refine x_sld (pc := 1571) hC hX hbl h62 h0 (by omega) (by omega) dL_law_1571 ?_
  refine x_aloadS_n (pc := 1572) hC dL_law_1572 rfl ?_
  refine x_iload_n (pc := 1573) hC dL_law_1573 rfl ?_
  refine x_iconst (pc := 1574) hC dL_law_1574 ?_
  refine x_iadd (pc := 1575) hC dL_law_1575 ?_
  refine x_sld (pc := 1576) hC hX hbl h62 h0 (by omega) (by omega) dL_law_1576 ?_
  refine x_callV1 (As := [_, _]) (Bs := [_, _]) (pc := 1577) hC (s_as E b2 b3 (sc_rg xs (i + 1)) (sc_rg xs (i + 2)) (by rw [g47]; exact hP.1)) wL_184_12 pX12_as (by assumption) rfl rfl (by exact Nat.le_of_ble_eq_true rfl) hR (by omega) (by decide) (by omega) rfl dL_law_1577 ?_
  rw [g47]
  refine x_same (tgt := 1634) (pc := 1580) hC dL_law_1580 (by decide) ?_
  exact K _ _ _ _ _ _ (by omega) (by omega) g47 hH1

set_option maxHeartbeats 4000000 in
set_option maxRecDepth 100000 in
theorem lw_image {E : xE} {p : Program} {e : Env} {R : Room} {s : State} {m : MethodId} {args : Array Value} {below : List Frame} {meth : Method} {c : Code} {Z : State → Prop} (hC : XC E p R s m args meth c cL_law RL ret 4) (hR : xRm R 1312 600000 7302250) {b L : Nat} {xs : Nat → Int32} (hX : va_X b L xs s s.heap) (hbl : b < s.heap.size) (h62 : E.2.2.2.2.2 62 = b) (h0 : E.2.2.2.1 = s.heap.size) (hL : L ≤ 3072) {i : Int} (hi : 0 ≤ i ∧ i + 6 ≤ L) {kc ns : Nat} (hkc : kc ≤ 100000) (hns : ns ≤ 1000000) {σ : xM} {ρ : xR} {ks : xKs} {z : zS} (hz47 : σ 47 = z) (hLH : LH σ ρ ks z)
    (K : ∀ (σ' : xM) (ρ' : xR) (ks' : xKs) (z' : zS) (kc' ns' : Nat), kc' ≤ kc + 8 → ns' ≤ ns + 200 → σ' 47 = z' → LH σ' ρ' ks' z' → X E p e R s m args below meth c Z kc' ns' σ' ρ' ks' 1634 [some (.float 126), some (.ref 0), some (.ref 46), some (.int (iI i))] []) : X E p e R s m args below meth c Z kc ns σ ρ ks 1585 [some (.float 126), some (.ref 0), some (.ref 46), some (.int (iI i))] [] := by
  obtain ⟨a1, a2, a3, a4, a5, a6, a7, a8, a9⟩ := id hLH
  obtain ⟨hP, hCn, hSe, hRu, hBk, hTp, h20, h21, hz0, hout⟩ := id a5
  have hz0' := hP.2.2.2
  obtain ⟨n15, n16, n17, n18, n19⟩ := id hCn
  have k0 : ks[0]? = some (0, 11) := a4.1
  have k46 : ks[46]? = some (0, 12) := a2.1
  refine x_aload_n (pc := 1585) hC dL_law_1585 rfl ?_
  refine x_callV (As := []) (Bs := []) (pc := 1586) hC (c_image E a4 a6 hP hCn a1) wL_185_11 pX11_image (by assumption) rfl rfl (by exact Nat.le_of_ble_eq_true rfl) hR (by omega) (by decide) (by omega) rfl dL_law_1586 (fun r1586 σ1586 ρ1586 ks1586 q1586 => ?_)
  obtain ⟨rfl, g1, g2, g3, g4, g5, g6, g7⟩ := q1586
  have hl1 := hLH.1
  have g47 : σ1586 47 = z := ((g6 47 (by omega) (by decide)).1).trans hz47
  have g48 : σ1586 48 = σ 48 := (g6 48 (by omega) (by decide)).1
  have b2 : MK ks1586 := by
    obtain ⟨x1, x2, x3, x4, x5, x6, x7, x8, x9⟩ := id a2
    refine ⟨?_, ?_, ?_, ?_, ?_, ?_, ?_, ?_, ?_⟩ <;> rw [g5.1 _ (by omega)] <;> assumption
  have b3 : MW ρ1586 := by unfold MW at *; rw [(g6 46 (by omega) (by decide)).2]; exact a3
  have k0' : ks1586[0]? = some (0, 11) := g3.1
  have k46' : ks1586[46]? = some (0, 12) := b2.1
  have hci : ci48 σ1586 943 = z := by rw [ci48_e (by rw [g47]; exact hout) (by rw [g48]; exact a9), g47]
  refine x_aload_n (pc := 1589) hC dL_law_1589 rfl ?_
  refine x_callV1 (As := []) (Bs := []) (pc := 1590) hC (s_image E b2 b3) wL_188_12 pX12_image (by assumption) rfl rfl (by exact Nat.le_of_ble_eq_true rfl) hR (by omega) (by decide) (by omega) rfl dL_law_1590 ?_
  rw [g47]
  refine x_same (tgt := 1634) (pc := 1593) hC dL_law_1593 (by decide) ?_
  have hH2 := hLH.img (σ2 := wr (sw σ1586 48 (ci48 σ1586 943)) 46 4 1) a5 g1 g2 g3 g4 g5 g6 g7 (fun p hp => by rw [wr_of _ (by omega), sw_ne _ (by omega)]) (wr_eq _ _ _ _) (by rw [wr_k _ _ _ (by decide), sw_ne _ (by decide)]) (by rw [wr_of _ (by decide), sw_eq]; exact hci) (by rw [wr_of _ (by decide), sw_ne _ (by decide)])
  exact K _ _ _ _ _ _ (by omega) (by omega) (by rw [wr_of _ (by decide), sw_ne _ (by decide)]; exact g47) hH2

set_option maxHeartbeats 4000000 in
set_option maxRecDepth 100000 in
theorem lw_undo {E : xE} {p : Program} {e : Env} {R : Room} {s : State} {m : MethodId} {args : Array Value} {below : List Frame} {meth : Method} {c : Code} {Z : State → Prop} (hC : XC E p R s m args meth c cL_law RL ret 4) (hR : xRm R 1312 600000 7302250) {b L : Nat} {xs : Nat → Int32} (hX : va_X b L xs s s.heap) (hbl : b < s.heap.size) (h62 : E.2.2.2.2.2 62 = b) (h0 : E.2.2.2.1 = s.heap.size) (hL : L ≤ 3072) {i : Int} (hi : 0 ≤ i ∧ i + 6 ≤ L) {kc ns : Nat} (hkc : kc ≤ 100000) (hns : ns ≤ 1000000) {σ : xM} {ρ : xR} {ks : xKs} {z : zS} (hz47 : σ 47 = z) (hLH : LH σ ρ ks z)
    (K : ∀ (σ' : xM) (ρ' : xR) (ks' : xKs) (z' : zS) (kc' ns' : Nat), kc' ≤ kc + 8 → ns' ≤ ns + 200 → σ' 47 = z' → LH σ' ρ' ks' z' → X E p e R s m args below meth c Z kc' ns' σ' ρ' ks' 1634 [some (.float 126), some (.ref 0), some (.ref 46), some (.int (iI i))] []) : X E p e R s m args below meth c Z kc ns σ ρ ks 1598 [some (.float 126), some (.ref 0), some (.ref 46), some (.int (iI i))] [] := by
  obtain ⟨a1, a2, a3, a4, a5, a6, a7, a8, a9⟩ := id hLH
  obtain ⟨hP, hCn, hSe, hRu, hBk, hTp, h20, h21, hz0, hout⟩ := id a5
  have hz0' := hP.2.2.2
  obtain ⟨n15, n16, n17, n18, n19⟩ := id hCn
  have k0 : ks[0]? = some (0, 11) := a4.1
  have k46 : ks[46]? = some (0, 12) := a2.1
  rcases id a7 with ⟨u1, u2⟩ | ⟨u1, u2, u3, u4, u5⟩
  · refine x_aload_n (pc := 1598) hC dL_law_1598 rfl ?_
    refine x_callV1 (As := []) (Bs := []) (pc := 1599) hC (c_undo0 E a4 u1) wL_189_11 pX11_undo (by assumption) rfl rfl (by exact Nat.le_of_ble_eq_true rfl) hR (by omega) (by decide) (by omega) rfl dL_law_1599 ?_
    refine x_aload_n (pc := 1602) hC dL_law_1602 rfl ?_
    refine x_callV1 (As := []) (Bs := []) (pc := 1603) hC (s_undo E a2 a3 (Or.inl u2)) wL_192_12 pX12_undo (by assumption) rfl rfl (by exact Nat.le_of_ble_eq_true rfl) hR (by omega) (by decide) (by omega) rfl dL_law_1603 ?_
    rw [if_pos u2, if_pos u2]
    refine x_same (tgt := 1634) (pc := 1606) hC dL_law_1606 (by decide) ?_
    exact K _ _ _ _ _ _ (by omega) (by omega) hz47 hLH
  · refine x_aload_n (pc := 1598) hC dL_law_1598 rfl ?_
    refine x_callV (As := []) (Bs := []) (pc := 1599) hC (c_undo E a4 u4 u3.1 u3.2.1 a1 u1) wL_189_11 pX11_undo (by assumption) rfl rfl (by exact Nat.le_of_ble_eq_true rfl) hR (by omega) (by decide) (by omega) rfl dL_law_1599 (fun r1599 σ1599 ρ1599 ks1599 q1599 => ?_)
    obtain ⟨rfl, g1, g2, g3, g4, g5, g6, g7⟩ := q1599
    have hl1 := hLH.1
    have g47 : σ1599 47 = z := ((g6 47 (by omega) (by decide)).1).trans hz47
    have g48 : σ1599 48 = σ 48 := (g6 48 (by omega) (by decide)).1
    have g46 : σ1599 46 = σ 46 := (g6 46 (by omega) (by decide)).1
    have b2 : MK ks1599 := by
      obtain ⟨x1, x2, x3, x4, x5, x6, x7, x8, x9⟩ := id a2
      refine ⟨?_, ?_, ?_, ?_, ?_, ?_, ?_, ?_, ?_⟩ <;> rw [g5.1 _ (by omega)] <;> assumption
    have b3 : MW ρ1599 := by unfold MW at *; rw [(g6 46 (by omega) (by decide)).2]; exact a3
    have k0' : ks1599[0]? = some (0, 11) := g3.1
    have k46' : ks1599[46]? = some (0, 12) := b2.1
    have u2' : σ1599 46 4 = 1 := by rw [g46]; exact u2
    have un : ¬ σ1599 46 4 = 0 := by rw [u2']; decide
    have hci : ci47 σ1599 943 = σ 48 := by rw [ci47_e (by rw [g47]; exact hout) (by rw [g48]; exact a9), g48]
    refine x_aload_n (pc := 1602) hC dL_law_1602 rfl ?_
    refine x_callV1 (As := []) (Bs := []) (pc := 1603) hC (s_undo E b2 b3 (Or.inr u2')) wL_192_12 pX12_undo (by assumption) rfl rfl (by exact Nat.le_of_ble_eq_true rfl) hR (by omega) (by decide) (by omega) rfl dL_law_1603 ?_
    rw [if_neg un, if_neg un, g48]
    refine x_same (tgt := 1634) (pc := 1606) hC dL_law_1606 (by decide) ?_
    have hH2 := hLH.img (σ2 := sw σ1599 47 (ci47 σ1599 943)) u3 g1 g2 g3 g4 g5 g6 g7 (fun p hp => sw_ne _ (by omega) _) (by rw [sw_ne _ (by decide)]; exact u2') (by rw [sw_ne _ (by decide)]) (by rw [sw_ne _ (by decide)]; exact g48) (sw_ne _ (by decide) _)
    exact K _ _ _ _ _ _ (by omega) (by omega) (by rw [sw_eq]; exact hci) hH2

set_option maxHeartbeats 4000000 in
set_option maxRecDepth 100000 in
theorem lw_count {E : xE} {p : Program} {e : Env} {R : Room} {s : State} {m : MethodId} {args : Array Value} {below : List Frame} {meth : Method} {c : Code} {Z : State → Prop} (hC : XC E p R s m args meth c cL_law RL ret 4) (hR : xRm R 1312 600000 7302250) {b L : Nat} {xs : Nat → Int32} (hX : va_X b L xs s s.heap) (hbl : b < s.heap.size) (h62 : E.2.2.2.2.2 62 = b) (h0 : E.2.2.2.1 = s.heap.size) (hL : L ≤ 3072) {i : Int} (hi : 0 ≤ i ∧ i + 6 ≤ L) {kc ns : Nat} (hkc : kc ≤ 100000) (hns : ns ≤ 1000000) {σ : xM} {ρ : xR} {ks : xKs} {z : zS} (hz47 : σ 47 = z) (hLH : LH σ ρ ks z)
    (K : ∀ (σ' : xM) (ρ' : xR) (ks' : xKs) (z' : zS) (kc' ns' : Nat), kc' ≤ kc + 8 → ns' ≤ ns + 200 → σ' 47 = z' → LH σ' ρ' ks' z' → X E p e R s m args below meth c Z kc' ns' σ' ρ' ks' 1634 [some (.float 126), some (.ref 0), some (.ref 46), some (.int (iI i))] []) : X E p e R s m args below meth c Z kc ns σ ρ ks 1611 [some (.float 126), some (.ref 0), some (.ref 46), some (.int (iI i))] [] := by
  obtain ⟨a1, a2, a3, a4, a5, a6, a7, a8, a9⟩ := id hLH
  obtain ⟨hP, hCn, hSe, hRu, hBk, hTp, h20, h21, hz0, hout⟩ := id a5
  have hz0' := hP.2.2.2
  obtain ⟨n15, n16, n17, n18, n19⟩ := id hCn
  have k0 : ks[0]? = some (0, 11) := a4.1
  have k46 : ks[46]? = some (0, 12) := a2.1
  refine x_aload_n (pc := 1611) hC dL_law_1611 rfl ?_
  refine x_aloadS_n (pc := 1612) hC dL_law_1612 rfl ?_
  refine x_iload_n (pc := 1613) hC dL_law_1613 rfl ?_
  refine x_iconst (pc := 1614) hC dL_law_1614 ?_
  refine x_iadd (pc := 1615) hC dL_law_1615 ?_
  refine x_sld (pc := 1616) hC hX hbl h62 h0 (by omega) (by omega) dL_law_1616 ?_
  refine x_callV (As := [_]) (Bs := [_]) (pc := 1617) hC (c_count E a4 a6 hP (sc_rg xs (i + 1)) a8.1) wL_193_11 pX11_count (by assumption) rfl rfl (by exact Nat.le_of_ble_eq_true rfl) hR (by omega) (by decide) (by omega) rfl dL_law_1617 (fun r1617 σ1617 ρ1617 ks1617 q1617 => ?_)
  obtain ⟨rfl, nx, e1617, f1617⟩ := q1617
  obtain rfl := e1617.symm
  obtain rfl := f1617.symm
  have hH1 := hLH.nx nx
  have g47 : σ1617 47 = z := (nx 47 (by decide)).trans hz47
  obtain ⟨b1, b2, b3, b4, b5, b6, b7, b8, b9⟩ := id hH1
  refine x_aload_n (pc := 1620) hC dL_law_1620 rfl ?_
  refine x_aloadS_n (pc := 1621) hC dL_law_1621 rfl ?_
  refine x_iload_n (pc := 1622) hC dL_law_1622 rfl ?_
  refine x_iconst (pc := 1623) hC dL_law_1623 ?_
  refine x_iadd (pc := 1624) hC dL_law_1624 ?_
  refine x_sld (pc := 1625) hC hX hbl h62 h0 (by omega) (by omega) dL_law_1625 ?_
  refine x_callV1 (As := [_]) (Bs := [_]) (pc := 1626) hC (s_count E b2 b3 (sc_rg xs (i + 1))) wL_196_12 pX12_count (by assumption) rfl rfl (by exact Nat.le_of_ble_eq_true rfl) hR (by omega) (by decide) (by omega) rfl dL_law_1626 ?_
  rw [g47, nx 46 (by decide)]
  refine x_same (tgt := 1634) (pc := 1629) hC dL_law_1629 (by decide) ?_
  exact K _ _ _ _ _ _ (by omega) (by omega) g47 hH1
