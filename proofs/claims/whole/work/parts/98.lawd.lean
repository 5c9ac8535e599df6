/-! THE LAW, its cases 12 to 15 -/
set_option maxHeartbeats 4000000 in
set_option maxRecDepth 100000 in
theorem lw_go {E : xE} {p : Program} {e : Env} {R : Room} {s : State} {m : MethodId} {args : Array Value} {below : List Frame} {meth : Method} {c : Code} {Z : State → Prop} (hC : XC E p R s m args meth c cL_law RL ret 4) (hR : xRm R 1312 600000 7302250) {b L : Nat} {xs : Nat → Int32} (hX : va_X b L xs s s.heap) (hbl : b < s.heap.size) (h62 : E.2.2.2.2.2 62 = b) (h0 : E.2.2.2.1 = s.heap.size) (hL : L ≤ 3072) {i : Int} (hi : 0 ≤ i ∧ i + 6 ≤ L) {kc ns : Nat} (hkc : kc ≤ 100000) (hns : ns ≤ 1000000) {σ : xM} {ρ : xR} {ks : xKs} {z : zS} (hz47 : σ 47 = z) (hLH : LH σ ρ ks z)
    (K : ∀ (σ' : xM) (ρ' : xR) (ks' : xKs) (z' : zS) (kc' ns' : Nat), kc' ≤ kc + 8 → ns' ≤ ns + 200 → σ' 47 = z' → LH σ' ρ' ks' z' → X E p e R s m args below meth c Z kc' ns' σ' ρ' ks' 1634 [some (.float 126), some (.ref 0), some (.ref 46), some (.int (iI i))] []) : X E p e R s m args below meth c Z kc ns σ ρ ks 656 [some (.float 126), some (.ref 0), some (.ref 46), some (.int (iI i))] [] := by
  obtain ⟨a1, a2, a3, a4, a5, a6, a7, a8, a9⟩ := id hLH
  obtain ⟨hP, hCn, hSe, hRu, hBk, hTp, h20, h21, hz0, hout⟩ := id a5
  have hz0' := hP.2.2.2
  obtain ⟨n15, n16, n17, n18, n19⟩ := id hCn
  have k0 : ks[0]? = some (0, 11) := a4.1
  have k46 : ks[46]? = some (0, 12) := a2.1
  refine x_aload_n (pc := 656) hC dL_law_656 rfl ?_
  refine x_aloadS_n (pc := 657) hC dL_law_657 rfl ?_
  refine x_iload_n (pc := 658) hC dL_law_658 rfl ?_
  refine x_iconst (pc := 659) hC dL_law_659 ?_
  refine x_iadd (pc := 660) hC dL_law_660 ?_
  refine x_sld (pc := 661) hC hX hbl h62 h0 (by omega) (by omega) dL_law_661 ?_
  refine x_callV (As := [_]) (Bs := [_]) (pc := 662) hC (c_go E a4 a6 hP hCn (sc_rg xs (i + 1)) (by omega)) wL_68_11 pX11_go (by assumption) rfl rfl (by exact Nat.le_of_ble_eq_true rfl) hR (by omega) (by decide) (by omega) rfl dL_law_662 (fun r662 σ662 ρ662 ks662 q662 => ?_)
  obtain ⟨rfl, hz1, hx, e662, f662⟩ := q662
  obtain rfl := e662.symm
  obtain rfl := f662.symm
  have hI1 : Inv (goZ z (sc xs (i + 1))) := go_inv a5 _
  have hH1 : LH σ662 ρ ks (goZ z (sc xs (i + 1))) := hLH.hx hx hz1 hI1 (go_13 hP hCn _) (fun f f0 f1 => go_22 hP hCn f0 f1 _)
  have g47 : σ662 47 = z := (hLH.hx46 hx 47 (by decide) (by decide)).trans hz47
  obtain ⟨b1, b2, b3, b4, b5, b6, b7, b8, b9⟩ := id hH1
  refine x_aload_n (pc := 665) hC dL_law_665 rfl ?_
  refine x_aloadS_n (pc := 666) hC dL_law_666 rfl ?_
  refine x_iload_n (pc := 667) hC dL_law_667 rfl ?_
  refine x_iconst (pc := 668) hC dL_law_668 ?_
  refine x_iadd (pc := 669) hC dL_law_669 ?_
  refine x_sld (pc := 670) hC hX hbl h62 h0 (by omega) (by omega) dL_law_670 ?_
  refine x_callV (As := [_]) (Bs := [_]) (pc := 671) hC (s_go E b2 b3 (sc_rg xs (i + 1)) (by rw [g47]; exact hP)) wL_71_12 pX12_go (by assumption) rfl rfl (by exact Nat.le_of_ble_eq_true rfl) hR (by omega) (by decide) (by omega) rfl dL_law_671 (fun r671 σ671 ρ671 ks671 q671 => ?_)
  obtain ⟨rfl, e671, f671, sk, z671⟩ := q671
  obtain rfl := e671.symm
  obtain rfl := f671.symm
  rw [g47] at z671
  rw [g47]
  refine x_same (tgt := 1634) (pc := 674) hC dL_law_674 (by decide) ?_
  exact K _ _ _ _ _ _ (by omega) (by omega) z671 (hH1.ref (fun p hp => sk.1 p (by omega) (by omega) (by omega) (by omega) (by omega)) (sk.2 4 (by decide) (by decide)) (sk.2 17 (by decide) (by decide)) (sk.1 48 (by decide) (by decide) (by decide) (by decide) (by decide)) (sk.1 54 (by decide) (by decide) (by decide) (by decide) (by decide)))

set_option maxHeartbeats 4000000 in
set_option maxRecDepth 100000 in
theorem lw_is {E : xE} {p : Program} {e : Env} {R : Room} {s : State} {m : MethodId} {args : Array Value} {below : List Frame} {meth : Method} {c : Code} {Z : State → Prop} (hC : XC E p R s m args meth c cL_law RL ret 4) (hR : xRm R 1312 600000 7302250) {b L : Nat} {xs : Nat → Int32} (hX : va_X b L xs s s.heap) (hbl : b < s.heap.size) (h62 : E.2.2.2.2.2 62 = b) (h0 : E.2.2.2.1 = s.heap.size) (hL : L ≤ 3072) {i : Int} (hi : 0 ≤ i ∧ i + 6 ≤ L) {kc ns : Nat} (hkc : kc ≤ 100000) (hns : ns ≤ 1000000) {σ : xM} {ρ : xR} {ks : xKs} {z : zS} (hz47 : σ 47 = z) (hLH : LH σ ρ ks z)
    (K : ∀ (σ' : xM) (ρ' : xR) (ks' : xKs) (z' : zS) (kc' ns' : Nat), kc' ≤ kc + 8 → ns' ≤ ns + 200 → σ' 47 = z' → LH σ' ρ' ks' z' → X E p e R s m args below meth c Z kc' ns' σ' ρ' ks' 1634 [some (.float 126), some (.ref 0), some (.ref 46), some (.int (iI i))] []) : X E p e R s m args below meth c Z kc ns σ ρ ks 679 [some (.float 126), some (.ref 0), some (.ref 46), some (.int (iI i))] [] := by
  obtain ⟨a1, a2, a3, a4, a5, a6, a7, a8, a9⟩ := id hLH
  obtain ⟨hP, hCn, hSe, hRu, hBk, hTp, h20, h21, hz0, hout⟩ := id a5
  have hz0' := hP.2.2.2
  obtain ⟨n15, n16, n17, n18, n19⟩ := id hCn
  have k0 : ks[0]? = some (0, 11) := a4.1
  have k46 : ks[46]? = some (0, 12) := a2.1
  refine x_aload_n (pc := 679) hC dL_law_679 rfl ?_
  refine x_aloadS_n (pc := 680) hC dL_law_680 rfl ?_
  refine x_iload_n (pc := 681) hC dL_law_681 rfl ?_
  refine x_iconst (pc := 682) hC dL_law_682 ?_
  refine x_iadd (pc := 683) hC dL_law_683 ?_
  refine x_sld (pc := 684) hC hX hbl h62 h0 (by omega) (by omega) dL_law_684 ?_
  refine x_aloadS_n (pc := 685) hC dL_law_685 rfl ?_
  refine x_iload_n (pc := 686) hC dL_law_686 rfl ?_
  refine x_iconst (pc := 687) hC dL_law_687 ?_
  refine x_iadd (pc := 688) hC dL_law_688 ?_
  refine x_sld (pc := 689) hC hX hbl h62 h0 (by omega) (by omega) dL_law_689 ?_
  refine x_callV (As := [_, _]) (Bs := [_, _]) (pc := 690) hC (c_is E a4 a6 hP (sc_rg xs (i + 1)) (sc_rg xs (i + 2))) wL_72_11 pX11_is (by assumption) rfl rfl (by exact Nat.le_of_ble_eq_true rfl) hR (by omega) (by decide) (by omega) rfl dL_law_690 (fun r690 σ690 ρ690 ks690 q690 => ?_)
  obtain ⟨rfl, nx, e690, f690⟩ := q690
  obtain rfl := e690.symm
  obtain rfl := f690.symm
  have hH1 := hLH.nx nx
  have g47 : σ690 47 = z := (nx 47 (by decide)).trans hz47
  obtain ⟨b1, b2, b3, b4, b5, b6, b7, b8, b9⟩ := id hH1
  refine x_aload_n (pc := 693) hC dL_law_693 rfl ?_
  refine x_aloadS_n (pc := 694) hC dL_law_694 rfl ?_
  refine x_iload_n (pc := 695) hC dL_law_695 rfl ?_
  refine x_iconst (pc := 696) hC dL_law_696 ?_
  refine x_iadd (pc := 697) hC dL_law_697 ?_
  refine x_sld (pc := 698) hC hX hbl h62 h0 (by omega) (by omega) dL_law_698 ?_
  refine x_aloadS_n (pc := 699) hC dL_law_699 rfl ?_
  refine x_iload_n (pc := 700) hC dL_law_700 rfl ?_
  refine x_iconst (pc := 701) hC dL_law_701 ?_
  refine x_iadd (pc := 702) hC dL_law_702 ?_
  refine x_sld (pc := 703) hC hX hbl h62 h0 (by omega) (by omega) dL_law_703 ?_
  refine x_callV1 (As := [_, _]) (Bs := [_, _]) (pc := 704) hC (s_is E b2 b3 (sc_rg xs (i + 1)) (sc_rg xs (i + 2)) (by rw [g47]; exact hP.1) (by rw [g47]; exact hP.2.1)) wL_75_12 pX12_is (by assumption) rfl rfl (by exact Nat.le_of_ble_eq_true rfl) hR (by omega) (by decide) (by omega) rfl dL_law_704 ?_
  rw [g47]
  refine x_same (tgt := 1634) (pc := 707) hC dL_law_707 (by decide) ?_
  exact K _ _ _ _ _ _ (by omega) (by omega) g47 hH1

set_option maxHeartbeats 4000000 in
set_option maxRecDepth 100000 in
theorem lw_then {E : xE} {p : Program} {e : Env} {R : Room} {s : State} {m : MethodId} {args : Array Value} {below : List Frame} {meth : Method} {c : Code} {Z : State → Prop} (hC : XC E p R s m args meth c cL_law RL ret 4) (hR : xRm R 1312 600000 7302250) {b L : Nat} {xs : Nat → Int32} (hX : va_X b L xs s s.heap) (hbl : b < s.heap.size) (h62 : E.2.2.2.2.2 62 = b) (h0 : E.2.2.2.1 = s.heap.size) (hL : L ≤ 3072) {i : Int} (hi : 0 ≤ i ∧ i + 6 ≤ L) {kc ns : Nat} (hkc : kc ≤ 100000) (hns : ns ≤ 1000000) {σ : xM} {ρ : xR} {ks : xKs} {z : zS} (hz47 : σ 47 = z) (hLH : LH σ ρ ks z)
    (K : ∀ (σ' : xM) (ρ' : xR) (ks' : xKs) (z' : zS) (kc' ns' : Nat), kc' ≤ kc + 8 → ns' ≤ ns + 200 → σ' 47 = z' → LH σ' ρ' ks' z' → X E p e R s m args below meth c Z kc' ns' σ' ρ' ks' 1634 [some (.float 126), some (.ref 0), some (.ref 46), some (.int (iI i))] []) : X E p e R s m args below meth c Z kc ns σ ρ ks 712 [some (.float 126), some (.ref 0), some (.ref 46), some (.int (iI i))] [] := by
  obtain ⟨a1, a2, a3, a4, a5, a6, a7, a8, a9⟩ := id hLH
  obtain ⟨hP, hCn, hSe, hRu, hBk, hTp, h20, h21, hz0, hout⟩ := id a5
  have hz0' := hP.2.2.2
  obtain ⟨n15, n16, n17, n18, n19⟩ := id hCn
  have k0 : ks[0]? = some (0, 11) := a4.1
  have k46 : ks[46]? = some (0, 12) := a2.1
  refine x_aload_n (pc := 712) hC dL_law_712 rfl ?_
  refine x_aloadS_n (pc := 713) hC dL_law_713 rfl ?_
  refine x_iload_n (pc := 714) hC dL_law_714 rfl ?_
  refine x_iconst (pc := 715) hC dL_law_715 ?_
  refine x_iadd (pc := 716) hC dL_law_716 ?_
  refine x_sld (pc := 717) hC hX hbl h62 h0 (by omega) (by omega) dL_law_717 ?_
  refine x_aloadS_n (pc := 718) hC dL_law_718 rfl ?_
  refine x_iload_n (pc := 719) hC dL_law_719 rfl ?_
  refine x_iconst (pc := 720) hC dL_law_720 ?_
  refine x_iadd (pc := 721) hC dL_law_721 ?_
  refine x_sld (pc := 722) hC hX hbl h62 h0 (by omega) (by omega) dL_law_722 ?_
  refine x_callV (As := [_, _]) (Bs := [_, _]) (pc := 723) hC (c_then E a4 a6 hP (σ 52) (sc_rg xs (i + 1)) (sc_rg xs (i + 2)) (by omega)) wL_76_11 pX11_then (by assumption) rfl rfl (by exact Nat.le_of_ble_eq_true rfl) hR (by omega) (by decide) (by omega) rfl dL_law_723 (fun r723 σ723 ρ723 ks723 q723 => ?_)
  obtain ⟨rfl, nx, e723, f723⟩ := q723
  obtain rfl := e723.symm
  obtain rfl := f723.symm
  have hH1 := hLH.nx nx
  have g47 : σ723 47 = z := (nx 47 (by decide)).trans hz47
  obtain ⟨b1, b2, b3, b4, b5, b6, b7, b8, b9⟩ := id hH1
  have g52 : σ723 52 = σ 52 := nx 52 (by decide)
  refine x_aload_n (pc := 726) hC dL_law_726 rfl ?_
  refine x_aloadS_n (pc := 727) hC dL_law_727 rfl ?_
  refine x_iload_n (pc := 728) hC dL_law_728 rfl ?_
  refine x_iconst (pc := 729) hC dL_law_729 ?_
  refine x_iadd (pc := 730) hC dL_law_730 ?_
  refine x_sld (pc := 731) hC hX hbl h62 h0 (by omega) (by omega) dL_law_731 ?_
  refine x_aloadS_n (pc := 732) hC dL_law_732 rfl ?_
  refine x_iload_n (pc := 733) hC dL_law_733 rfl ?_
  refine x_iconst (pc := 734) hC dL_law_734 ?_
  refine x_iadd (pc := 735) hC dL_law_735 ?_
  refine x_sld (pc := 736) hC hX hbl h62 h0 (by omega) (by omega) dL_law_736 ?_
  refine x_callV (As := [_, _]) (Bs := [_, _]) (pc := 737) hC (s_then E b2 b3 (by rw [g47]; exact hP) (sc_rg xs (i + 1)) (sc_rg xs (i + 2)) (by rw [g47]; omega)) wL_79_12 pX12_then (by assumption) rfl rfl (by exact Nat.le_of_ble_eq_true rfl) hR (by omega) (by decide) (by omega) rfl dL_law_737 (fun r737 σ737 ρ737 ks737 q737 => ?_)
  obtain ⟨rfl, ak, e737, f737⟩ := q737
  obtain rfl := e737.symm
  obtain rfl := f737.symm
  have hH2 := hH1.ask ak
  have g47b : σ737 47 = z := (ak.1 47 (by decide) (by decide) (by decide) (by decide) (by decide) (by decide)).trans g47
  rw [g47, g52]
  refine x_same (tgt := 1634) (pc := 740) hC dL_law_740 (by decide) ?_
  exact K _ _ _ _ _ _ (by omega) (by omega) g47b hH2

set_option maxHeartbeats 4000000 in
set_option maxRecDepth 100000 in
theorem lw_hottest {E : xE} {p : Program} {e : Env} {R : Room} {s : State} {m : MethodId} {args : Array Value} {below : List Frame} {meth : Method} {c : Code} {Z : State → Prop} (hC : XC E p R s m args meth c cL_law RL ret 4) (hR : xRm R 1312 600000 7302250) {b L : Nat} {xs : Nat → Int32} (hX : va_X b L xs s s.heap) (hbl : b < s.heap.size) (h62 : E.2.2.2.2.2 62 = b) (h0 : E.2.2.2.1 = s.heap.size) (hL : L ≤ 3072) {i : Int} (hi : 0 ≤ i ∧ i + 6 ≤ L) {kc ns : Nat} (hkc : kc ≤ 100000) (hns : ns ≤ 1000000) {σ : xM} {ρ : xR} {ks : xKs} {z : zS} (hz47 : σ 47 = z) (hLH : LH σ ρ ks z)
    (K : ∀ (σ' : xM) (ρ' : xR) (ks' : xKs) (z' : zS) (kc' ns' : Nat), kc' ≤ kc + 8 → ns' ≤ ns + 200 → σ' 47 = z' → LH σ' ρ' ks' z' → X E p e R s m args below meth c Z kc' ns' σ' ρ' ks' 1634 [some (.float 126), some (.ref 0), some (.ref 46), some (.int (iI i))] []) : X E p e R s m args below meth c Z kc ns σ ρ ks 745 [some (.float 126), some (.ref 0), some (.ref 46), some (.int (iI i))] [] := by
  obtain ⟨a1, a2, a3, a4, a5, a6, a7, a8, a9⟩ := id hLH
  obtain ⟨hP, hCn, hSe, hRu, hBk, hTp, h20, h21, hz0, hout⟩ := id a5
  have hz0' := hP.2.2.2
  obtain ⟨n15, n16, n17, n18, n19⟩ := id hCn
  have k0 : ks[0]? = some (0, 11) := a4.1
  have k46 : ks[46]? = some (0, 12) := a2.1
  refine x_aload_n (pc := 745) hC dL_law_745 rfl ?_
  refine x_aloadS_n (pc := 746) hC dL_law_746 rfl ?_
  refine x_iload_n (pc := 747) hC dL_law_747 rfl ?_
  refine x_iconst (pc := 748) hC dL_law_748 ?_
  refine x_iadd (pc := 749) hC dL_law_749 ?_
  refine x_sld (pc := 750) hC hX hbl h62 h0 (by omega) (by omega) dL_law_750 ?_
  refine x_callV (As := [_]) (Bs := [_]) (pc := 751) hC (c_hottest E a4 a6 hP (sc_rg xs (i + 1)) (by omega)) wL_80_11 pX11_hottest (by assumption) rfl rfl (by exact Nat.le_of_ble_eq_true rfl) hR (by omega) (by decide) (by omega) rfl dL_law_751 (fun r751 σ751 ρ751 ks751 q751 => ?_)
  obtain ⟨rfl, nx, e751, f751⟩ := q751
  obtain rfl := e751.symm
  obtain rfl := f751.symm
  have hH1 := hLH.nx nx
  have g47 : σ751 47 = z := (nx 47 (by decide)).trans hz47
  obtain ⟨b1, b2, b3, b4, b5, b6, b7, b8, b9⟩ := id hH1
  refine x_aload_n (pc := 754) hC dL_law_754 rfl ?_
  refine x_aloadS_n (pc := 755) hC dL_law_755 rfl ?_
  refine x_iload_n (pc := 756) hC dL_law_756 rfl ?_
  refine x_iconst (pc := 757) hC dL_law_757 ?_
  refine x_iadd (pc := 758) hC dL_law_758 ?_
  refine x_sld (pc := 759) hC hX hbl h62 h0 (by omega) (by omega) dL_law_759 ?_
  refine x_callV (As := [_]) (Bs := [_]) (pc := 760) hC (s_hottest E b2 b3 (sc_rg xs (i + 1)) (by rw [g47]; exact hP) (by rw [g47]; omega)) wL_83_12 pX12_hottest (by assumption) rfl rfl (by exact Nat.le_of_ble_eq_true rfl) hR (by omega) (by decide) (by omega) rfl dL_law_760 (fun r760 σ760 ρ760 ks760 q760 => ?_)
  obtain ⟨rfl, ak, e760, f760⟩ := q760
  obtain rfl := e760.symm
  obtain rfl := f760.symm
  have hH2 := hH1.ask ak
  have g47b : σ760 47 = z := (ak.1 47 (by decide) (by decide) (by decide) (by decide) (by decide) (by decide)).trans g47
  rw [g47]
  refine x_same (tgt := 1634) (pc := 763) hC dL_law_763 (by decide) ?_
  exact K _ _ _ _ _ _ (by omega) (by omega) g47b hH2
