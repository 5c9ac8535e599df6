/-! THE LAW, its cases 8 to 11 -/
set_option maxHeartbeats 4000000 in
set_option maxRecDepth 100000 in
theorem lw_at {E : xE} {p : Program} {e : Env} {R : Room} {s : State} {m : MethodId} {args : Array Value} {below : List Frame} {meth : Method} {c : Code} {Z : State → Prop} (hC : XC E p R s m args meth c cL_law RL ret 4) (hR : xRm R 1312 600000 7302250) {b L : Nat} {xs : Nat → Int32} (hX : va_X b L xs s s.heap) (hbl : b < s.heap.size) (h62 : E.2.2.2.2.2 62 = b) (h0 : E.2.2.2.1 = s.heap.size) (hL : L ≤ 3072) {i : Int} (hi : 0 ≤ i ∧ i + 6 ≤ L) {kc ns : Nat} (hkc : kc ≤ 100000) (hns : ns ≤ 1000000) {σ : xM} {ρ : xR} {ks : xKs} {z : zS} (hz47 : σ 47 = z) (hLH : LH σ ρ ks z)
    (K : ∀ (σ' : xM) (ρ' : xR) (ks' : xKs) (z' : zS) (kc' ns' : Nat), kc' ≤ kc + 8 → ns' ≤ ns + 200 → σ' 47 = z' → LH σ' ρ' ks' z' → X E p e R s m args below meth c Z kc' ns' σ' ρ' ks' 1634 [some (.float 126), some (.ref 0), some (.ref 46), some (.int (iI i))] []) : X E p e R s m args below meth c Z kc ns σ ρ ks 534 [some (.float 126), some (.ref 0), some (.ref 46), some (.int (iI i))] [] := by
  obtain ⟨a1, a2, a3, a4, a5, a6, a7, a8, a9⟩ := id hLH
  obtain ⟨hP, hCn, hSe, hRu, hBk, hTp, h20, h21, hz0, hout⟩ := id a5
  have hz0' := hP.2.2.2
  obtain ⟨n15, n16, n17, n18, n19⟩ := id hCn
  have k0 : ks[0]? = some (0, 11) := a4.1
  have k46 : ks[46]? = some (0, 12) := a2.1
  refine x_aload_n (pc := 534) hC dL_law_534 rfl ?_
  refine x_aloadS_n (pc := 535) hC dL_law_535 rfl ?_
  refine x_iload_n (pc := 536) hC dL_law_536 rfl ?_
  refine x_iconst (pc := 537) hC dL_law_537 ?_
  refine x_iadd (pc := 538) hC dL_law_538 ?_
  refine x_sld (pc := 539) hC hX hbl h62 h0 (by omega) (by omega) dL_law_539 ?_
  refine x_aloadS_n (pc := 540) hC dL_law_540 rfl ?_
  refine x_iload_n (pc := 541) hC dL_law_541 rfl ?_
  refine x_iconst (pc := 542) hC dL_law_542 ?_
  refine x_iadd (pc := 543) hC dL_law_543 ?_
  refine x_sld (pc := 544) hC hX hbl h62 h0 (by omega) (by omega) dL_law_544 ?_
  refine x_callV (As := [_, _]) (Bs := [_, _]) (pc := 545) hC (c_at E a4 a6 hP (sc_rg xs (i + 1)) (sc_rg xs (i + 2)) (by omega)) wL_52_11 pX11_at (by assumption) rfl rfl (by exact Nat.le_of_ble_eq_true rfl) hR (by omega) (by decide) (by omega) rfl dL_law_545 (fun r545 σ545 ρ545 ks545 q545 => ?_)
  obtain ⟨rfl, nx, e545, f545⟩ := q545
  obtain rfl := e545.symm
  obtain rfl := f545.symm
  have hH1 := hLH.nx nx
  have g47 : σ545 47 = z := (nx 47 (by decide)).trans hz47
  obtain ⟨b1, b2, b3, b4, b5, b6, b7, b8, b9⟩ := id hH1
  refine x_aload_n (pc := 548) hC dL_law_548 rfl ?_
  refine x_aloadS_n (pc := 549) hC dL_law_549 rfl ?_
  refine x_iload_n (pc := 550) hC dL_law_550 rfl ?_
  refine x_iconst (pc := 551) hC dL_law_551 ?_
  refine x_iadd (pc := 552) hC dL_law_552 ?_
  refine x_sld (pc := 553) hC hX hbl h62 h0 (by omega) (by omega) dL_law_553 ?_
  refine x_aloadS_n (pc := 554) hC dL_law_554 rfl ?_
  refine x_iload_n (pc := 555) hC dL_law_555 rfl ?_
  refine x_iconst (pc := 556) hC dL_law_556 ?_
  refine x_iadd (pc := 557) hC dL_law_557 ?_
  refine x_sld (pc := 558) hC hX hbl h62 h0 (by omega) (by omega) dL_law_558 ?_
  refine x_callV1 (As := [_, _]) (Bs := [_, _]) (pc := 559) hC (s_at E b2 b3 (sc_rg xs (i + 1)) (sc_rg xs (i + 2)) (by rw [g47]; exact hP.1) (by rw [g47]; exact hP.2.1) (by rw [g47]; omega)) wL_55_12 pX12_at (by assumption) rfl rfl (by exact Nat.le_of_ble_eq_true rfl) hR (by omega) (by decide) (by omega) rfl dL_law_559 ?_
  rw [g47]
  refine x_same (tgt := 1634) (pc := 562) hC dL_law_562 (by decide) ?_
  exact K _ _ _ _ _ _ (by omega) (by omega) g47 hH1

set_option maxHeartbeats 4000000 in
set_option maxRecDepth 100000 in
theorem lw_move {E : xE} {p : Program} {e : Env} {R : Room} {s : State} {m : MethodId} {args : Array Value} {below : List Frame} {meth : Method} {c : Code} {Z : State → Prop} (hC : XC E p R s m args meth c cL_law RL ret 4) (hR : xRm R 1312 600000 7302250) {b L : Nat} {xs : Nat → Int32} (hX : va_X b L xs s s.heap) (hbl : b < s.heap.size) (h62 : E.2.2.2.2.2 62 = b) (h0 : E.2.2.2.1 = s.heap.size) (hL : L ≤ 3072) {i : Int} (hi : 0 ≤ i ∧ i + 6 ≤ L) {kc ns : Nat} (hkc : kc ≤ 100000) (hns : ns ≤ 1000000) {σ : xM} {ρ : xR} {ks : xKs} {z : zS} (hz47 : σ 47 = z) (hLH : LH σ ρ ks z)
    (K : ∀ (σ' : xM) (ρ' : xR) (ks' : xKs) (z' : zS) (kc' ns' : Nat), kc' ≤ kc + 8 → ns' ≤ ns + 200 → σ' 47 = z' → LH σ' ρ' ks' z' → X E p e R s m args below meth c Z kc' ns' σ' ρ' ks' 1634 [some (.float 126), some (.ref 0), some (.ref 46), some (.int (iI i))] []) : X E p e R s m args below meth c Z kc ns σ ρ ks 567 [some (.float 126), some (.ref 0), some (.ref 46), some (.int (iI i))] [] := by
  obtain ⟨a1, a2, a3, a4, a5, a6, a7, a8, a9⟩ := id hLH
  obtain ⟨hP, hCn, hSe, hRu, hBk, hTp, h20, h21, hz0, hout⟩ := id a5
  have hz0' := hP.2.2.2
  obtain ⟨n15, n16, n17, n18, n19⟩ := id hCn
  have k0 : ks[0]? = some (0, 11) := a4.1
  have k46 : ks[46]? = some (0, 12) := a2.1
  refine x_aload_n (pc := 567) hC dL_law_567 rfl ?_
  refine x_aloadS_n (pc := 568) hC dL_law_568 rfl ?_
  refine x_iload_n (pc := 569) hC dL_law_569 rfl ?_
  refine x_iconst (pc := 570) hC dL_law_570 ?_
  refine x_iadd (pc := 571) hC dL_law_571 ?_
  refine x_sld (pc := 572) hC hX hbl h62 h0 (by omega) (by omega) dL_law_572 ?_
  refine x_aloadS_n (pc := 573) hC dL_law_573 rfl ?_
  refine x_iload_n (pc := 574) hC dL_law_574 rfl ?_
  refine x_iconst (pc := 575) hC dL_law_575 ?_
  refine x_iadd (pc := 576) hC dL_law_576 ?_
  refine x_sld (pc := 577) hC hX hbl h62 h0 (by omega) (by omega) dL_law_577 ?_
  refine x_callV (As := [_, _]) (Bs := [_, _]) (pc := 578) hC (c_move E a4 a6 hP hCn (sc_rg xs (i + 1)) (sc_rg xs (i + 2))) wL_56_11 pX11_move (by assumption) rfl rfl (by exact Nat.le_of_ble_eq_true rfl) hR (by omega) (by decide) (by omega) rfl dL_law_578 (fun r578 σ578 ρ578 ks578 q578 => ?_)
  obtain ⟨rfl, hz1, hx, e578, f578⟩ := q578
  obtain rfl := e578.symm
  obtain rfl := f578.symm
  have hI1 : Inv (moveZ z (sc xs (i + 1)) (sc xs (i + 2))) := move_inv a5 _ _
  have hH1 : LH σ578 ρ ks (moveZ z (sc xs (i + 1)) (sc xs (i + 2))) := hLH.hx hx hz1 hI1 (move_13 hP hCn _ _) (fun f f0 f1 => move_22 hP hCn f0 f1 _ _)
  have g47 : σ578 47 = z := (hLH.hx46 hx 47 (by decide) (by decide)).trans hz47
  obtain ⟨b1, b2, b3, b4, b5, b6, b7, b8, b9⟩ := id hH1
  refine x_aload_n (pc := 581) hC dL_law_581 rfl ?_
  refine x_aloadS_n (pc := 582) hC dL_law_582 rfl ?_
  refine x_iload_n (pc := 583) hC dL_law_583 rfl ?_
  refine x_iconst (pc := 584) hC dL_law_584 ?_
  refine x_iadd (pc := 585) hC dL_law_585 ?_
  refine x_sld (pc := 586) hC hX hbl h62 h0 (by omega) (by omega) dL_law_586 ?_
  refine x_aloadS_n (pc := 587) hC dL_law_587 rfl ?_
  refine x_iload_n (pc := 588) hC dL_law_588 rfl ?_
  refine x_iconst (pc := 589) hC dL_law_589 ?_
  refine x_iadd (pc := 590) hC dL_law_590 ?_
  refine x_sld (pc := 591) hC hX hbl h62 h0 (by omega) (by omega) dL_law_591 ?_
  refine x_callV1 (As := [_, _]) (Bs := [_, _]) (pc := 592) hC (s_move E b2 b3 (sc_rg xs (i + 1)) (sc_rg xs (i + 2)) (by rw [g47]; exact hP.2.1)) wL_59_12 pX12_move (by assumption) rfl rfl (by exact Nat.le_of_ble_eq_true rfl) hR (by omega) (by decide) (by omega) rfl dL_law_592 ?_
  rw [g47]
  refine x_same (tgt := 1634) (pc := 595) hC dL_law_595 (by decide) ?_
  exact K _ _ _ _ _ _ (by omega) (by omega) rfl hH1.swz

set_option maxHeartbeats 4000000 in
set_option maxRecDepth 100000 in
theorem lw_heat {E : xE} {p : Program} {e : Env} {R : Room} {s : State} {m : MethodId} {args : Array Value} {below : List Frame} {meth : Method} {c : Code} {Z : State → Prop} (hC : XC E p R s m args meth c cL_law RL ret 4) (hR : xRm R 1312 600000 7302250) {b L : Nat} {xs : Nat → Int32} (hX : va_X b L xs s s.heap) (hbl : b < s.heap.size) (h62 : E.2.2.2.2.2 62 = b) (h0 : E.2.2.2.1 = s.heap.size) (hL : L ≤ 3072) {i : Int} (hi : 0 ≤ i ∧ i + 6 ≤ L) {kc ns : Nat} (hkc : kc ≤ 100000) (hns : ns ≤ 1000000) {σ : xM} {ρ : xR} {ks : xKs} {z : zS} (hz47 : σ 47 = z) (hLH : LH σ ρ ks z)
    (K : ∀ (σ' : xM) (ρ' : xR) (ks' : xKs) (z' : zS) (kc' ns' : Nat), kc' ≤ kc + 8 → ns' ≤ ns + 200 → σ' 47 = z' → LH σ' ρ' ks' z' → X E p e R s m args below meth c Z kc' ns' σ' ρ' ks' 1634 [some (.float 126), some (.ref 0), some (.ref 46), some (.int (iI i))] []) : X E p e R s m args below meth c Z kc ns σ ρ ks 600 [some (.float 126), some (.ref 0), some (.ref 46), some (.int (iI i))] [] := by
  obtain ⟨a1, a2, a3, a4, a5, a6, a7, a8, a9⟩ := id hLH
  obtain ⟨hP, hCn, hSe, hRu, hBk, hTp, h20, h21, hz0, hout⟩ := id a5
  have hz0' := hP.2.2.2
  obtain ⟨n15, n16, n17, n18, n19⟩ := id hCn
  have k0 : ks[0]? = some (0, 11) := a4.1
  have k46 : ks[46]? = some (0, 12) := a2.1
  refine x_aload_n (pc := 600) hC dL_law_600 rfl ?_
  refine x_aloadS_n (pc := 601) hC dL_law_601 rfl ?_
  refine x_iload_n (pc := 602) hC dL_law_602 rfl ?_
  refine x_iconst (pc := 603) hC dL_law_603 ?_
  refine x_iadd (pc := 604) hC dL_law_604 ?_
  refine x_sld (pc := 605) hC hX hbl h62 h0 (by omega) (by omega) dL_law_605 ?_
  refine x_aloadS_n (pc := 606) hC dL_law_606 rfl ?_
  refine x_iload_n (pc := 607) hC dL_law_607 rfl ?_
  refine x_iconst (pc := 608) hC dL_law_608 ?_
  refine x_iadd (pc := 609) hC dL_law_609 ?_
  refine x_sld (pc := 610) hC hX hbl h62 h0 (by omega) (by omega) dL_law_610 ?_
  refine x_callV (As := [_, _]) (Bs := [_, _]) (pc := 611) hC (c_heat E a4 a6 hP hCn (sc_rg xs (i + 1)) (sc_rg xs (i + 2))) wL_60_11 pX11_heat (by assumption) rfl rfl (by exact Nat.le_of_ble_eq_true rfl) hR (by omega) (by decide) (by omega) rfl dL_law_611 (fun r611 σ611 ρ611 ks611 q611 => ?_)
  obtain ⟨rfl, hz1, hx, e611, f611⟩ := q611
  obtain rfl := e611.symm
  obtain rfl := f611.symm
  have hI1 : Inv (heatZ z (sc xs (i + 1)) (sc xs (i + 2))) := heat_inv a5 _ _
  have hH1 : LH σ611 ρ ks (heatZ z (sc xs (i + 1)) (sc xs (i + 2))) := hLH.hx hx hz1 hI1 (heat_13 hP hCn _ _) (fun f f0 f1 => heat_22 hP hCn f0 f1 _ _)
  have g47 : σ611 47 = z := (hLH.hx46 hx 47 (by decide) (by decide)).trans hz47
  obtain ⟨b1, b2, b3, b4, b5, b6, b7, b8, b9⟩ := id hH1
  refine x_aload_n (pc := 614) hC dL_law_614 rfl ?_
  refine x_aloadS_n (pc := 615) hC dL_law_615 rfl ?_
  refine x_iload_n (pc := 616) hC dL_law_616 rfl ?_
  refine x_iconst (pc := 617) hC dL_law_617 ?_
  refine x_iadd (pc := 618) hC dL_law_618 ?_
  refine x_sld (pc := 619) hC hX hbl h62 h0 (by omega) (by omega) dL_law_619 ?_
  refine x_aloadS_n (pc := 620) hC dL_law_620 rfl ?_
  refine x_iload_n (pc := 621) hC dL_law_621 rfl ?_
  refine x_iconst (pc := 622) hC dL_law_622 ?_
  refine x_iadd (pc := 623) hC dL_law_623 ?_
  refine x_sld (pc := 624) hC hX hbl h62 h0 (by omega) (by omega) dL_law_624 ?_
  refine x_callV1 (As := [_, _]) (Bs := [_, _]) (pc := 625) hC (s_heat E b2 b3 (sc_rg xs (i + 1)) (sc_rg xs (i + 2)) (by rw [g47]; exact hP.2.1)) wL_63_12 pX12_heat (by assumption) rfl rfl (by exact Nat.le_of_ble_eq_true rfl) hR (by omega) (by decide) (by omega) rfl dL_law_625 ?_
  rw [g47]
  refine x_same (tgt := 1634) (pc := 628) hC dL_law_628 (by decide) ?_
  exact K _ _ _ _ _ _ (by omega) (by omega) rfl hH1.swz

set_option maxHeartbeats 4000000 in
set_option maxRecDepth 100000 in
theorem lw_told {E : xE} {p : Program} {e : Env} {R : Room} {s : State} {m : MethodId} {args : Array Value} {below : List Frame} {meth : Method} {c : Code} {Z : State → Prop} (hC : XC E p R s m args meth c cL_law RL ret 4) (hR : xRm R 1312 600000 7302250) {b L : Nat} {xs : Nat → Int32} (hX : va_X b L xs s s.heap) (hbl : b < s.heap.size) (h62 : E.2.2.2.2.2 62 = b) (h0 : E.2.2.2.1 = s.heap.size) (hL : L ≤ 3072) {i : Int} (hi : 0 ≤ i ∧ i + 6 ≤ L) {kc ns : Nat} (hkc : kc ≤ 100000) (hns : ns ≤ 1000000) {σ : xM} {ρ : xR} {ks : xKs} {z : zS} (hz47 : σ 47 = z) (hLH : LH σ ρ ks z)
    (K : ∀ (σ' : xM) (ρ' : xR) (ks' : xKs) (z' : zS) (kc' ns' : Nat), kc' ≤ kc + 8 → ns' ≤ ns + 200 → σ' 47 = z' → LH σ' ρ' ks' z' → X E p e R s m args below meth c Z kc' ns' σ' ρ' ks' 1634 [some (.float 126), some (.ref 0), some (.ref 46), some (.int (iI i))] []) : X E p e R s m args below meth c Z kc ns σ ρ ks 633 [some (.float 126), some (.ref 0), some (.ref 46), some (.int (iI i))] [] := by
  obtain ⟨a1, a2, a3, a4, a5, a6, a7, a8, a9⟩ := id hLH
  obtain ⟨hP, hCn, hSe, hRu, hBk, hTp, h20, h21, hz0, hout⟩ := id a5
  have hz0' := hP.2.2.2
  obtain ⟨n15, n16, n17, n18, n19⟩ := id hCn
  have k0 : ks[0]? = some (0, 11) := a4.1
  have k46 : ks[46]? = some (0, 12) := a2.1
  refine x_aload_n (pc := 633) hC dL_law_633 rfl ?_
  refine x_aloadS_n (pc := 634) hC dL_law_634 rfl ?_
  refine x_iload_n (pc := 635) hC dL_law_635 rfl ?_
  refine x_iconst (pc := 636) hC dL_law_636 ?_
  refine x_iadd (pc := 637) hC dL_law_637 ?_
  refine x_sld (pc := 638) hC hX hbl h62 h0 (by omega) (by omega) dL_law_638 ?_
  refine x_callV (As := [_]) (Bs := [_]) (pc := 639) hC (c_told E a4 a6 hP (sc_rg xs (i + 1))) wL_64_11 pX11_told (by assumption) rfl rfl (by exact Nat.le_of_ble_eq_true rfl) hR (by omega) (by decide) (by omega) rfl dL_law_639 (fun r639 σ639 ρ639 ks639 q639 => ?_)
  obtain ⟨rfl, nx, e639, f639⟩ := q639
  obtain rfl := e639.symm
  obtain rfl := f639.symm
  have hH1 := hLH.nx nx
  have g47 : σ639 47 = z := (nx 47 (by decide)).trans hz47
  obtain ⟨b1, b2, b3, b4, b5, b6, b7, b8, b9⟩ := id hH1
  refine x_aload_n (pc := 642) hC dL_law_642 rfl ?_
  refine x_aloadS_n (pc := 643) hC dL_law_643 rfl ?_
  refine x_iload_n (pc := 644) hC dL_law_644 rfl ?_
  refine x_iconst (pc := 645) hC dL_law_645 ?_
  refine x_iadd (pc := 646) hC dL_law_646 ?_
  refine x_sld (pc := 647) hC hX hbl h62 h0 (by omega) (by omega) dL_law_647 ?_
  refine x_callV1 (As := [_]) (Bs := [_]) (pc := 648) hC (s_told E b2 b3 (sc_rg xs (i + 1)) (by rw [g47]; exact hP.2.2.1)) wL_67_12 pX12_told (by assumption) rfl rfl (by exact Nat.le_of_ble_eq_true rfl) hR (by omega) (by decide) (by omega) rfl dL_law_648 ?_
  rw [g47]
  refine x_same (tgt := 1634) (pc := 651) hC dL_law_651 (by decide) ?_
  exact K _ _ _ _ _ _ (by omega) (by omega) g47 hH1
