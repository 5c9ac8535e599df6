/-! THE LAW, its cases 16 to 19 -/
set_option maxHeartbeats 4000000 in
set_option maxRecDepth 100000 in
theorem lw_tooHot {E : xE} {p : Program} {e : Env} {R : Room} {s : State} {m : MethodId} {args : Array Value} {below : List Frame} {meth : Method} {c : Code} {Z : State → Prop} (hC : XC E p R s m args meth c cL_law RL ret 4) (hR : xRm R 1312 600000 7302250) {b L : Nat} {xs : Nat → Int32} (hX : va_X b L xs s s.heap) (hbl : b < s.heap.size) (h62 : E.2.2.2.2.2 62 = b) (h0 : E.2.2.2.1 = s.heap.size) (hL : L ≤ 3072) {i : Int} (hi : 0 ≤ i ∧ i + 6 ≤ L) {kc ns : Nat} (hkc : kc ≤ 100000) (hns : ns ≤ 1000000) {σ : xM} {ρ : xR} {ks : xKs} {z : zS} (hz47 : σ 47 = z) (hLH : LH σ ρ ks z)
    (K : ∀ (σ' : xM) (ρ' : xR) (ks' : xKs) (z' : zS) (kc' ns' : Nat), kc' ≤ kc + 8 → ns' ≤ ns + 200 → σ' 47 = z' → LH σ' ρ' ks' z' → X E p e R s m args below meth c Z kc' ns' σ' ρ' ks' 1634 [some (.float 126), some (.ref 0), some (.ref 46), some (.int (iI i))] []) : X E p e R s m args below meth c Z kc ns σ ρ ks 768 [some (.float 126), some (.ref 0), some (.ref 46), some (.int (iI i))] [] := by
  obtain ⟨a1, a2, a3, a4, a5, a6, a7, a8, a9⟩ := id hLH
  obtain ⟨hP, hCn, hSe, hRu, hBk, hTp, h20, h21, hz0, hout⟩ := id a5
  have hz0' := hP.2.2.2
  obtain ⟨n15, n16, n17, n18, n19⟩ := id hCn
  have k0 : ks[0]? = some (0, 11) := a4.1
  have k46 : ks[46]? = some (0, 12) := a2.1
  refine x_aload_n (pc := 768) hC dL_law_768 rfl ?_
  refine x_aloadS_n (pc := 769) hC dL_law_769 rfl ?_
  refine x_iload_n (pc := 770) hC dL_law_770 rfl ?_
  refine x_iconst (pc := 771) hC dL_law_771 ?_
  refine x_iadd (pc := 772) hC dL_law_772 ?_
  refine x_sld (pc := 773) hC hX hbl h62 h0 (by omega) (by omega) dL_law_773 ?_
  refine x_callV (As := [_]) (Bs := [_]) (pc := 774) hC (c_tooHot E a4 a6 hP (sc_rg xs (i + 1)) (by omega)) wL_84_11 pX11_tooHot (by assumption) rfl rfl (by exact Nat.le_of_ble_eq_true rfl) hR (by omega) (by decide) (by omega) rfl dL_law_774 (fun r774 σ774 ρ774 ks774 q774 => ?_)
  obtain ⟨rfl, nx, e774, f774⟩ := q774
  obtain rfl := e774.symm
  obtain rfl := f774.symm
  have hH1 := hLH.nx nx
  have g47 : σ774 47 = z := (nx 47 (by decide)).trans hz47
  obtain ⟨b1, b2, b3, b4, b5, b6, b7, b8, b9⟩ := id hH1
  refine x_aload_n (pc := 777) hC dL_law_777 rfl ?_
  refine x_aloadS_n (pc := 778) hC dL_law_778 rfl ?_
  refine x_iload_n (pc := 779) hC dL_law_779 rfl ?_
  refine x_iconst (pc := 780) hC dL_law_780 ?_
  refine x_iadd (pc := 781) hC dL_law_781 ?_
  refine x_sld (pc := 782) hC hX hbl h62 h0 (by omega) (by omega) dL_law_782 ?_
  refine x_callV (As := [_]) (Bs := [_]) (pc := 783) hC (s_tooHot E b2 b3 (sc_rg xs (i + 1)) (by rw [g47]; exact hP) (by rw [g47]; omega)) wL_87_12 pX12_tooHot (by assumption) rfl rfl (by exact Nat.le_of_ble_eq_true rfl) hR (by omega) (by decide) (by omega) rfl dL_law_783 (fun r783 σ783 ρ783 ks783 q783 => ?_)
  obtain ⟨rfl, ak, e783, f783⟩ := q783
  obtain rfl := e783.symm
  obtain rfl := f783.symm
  have hH2 := hH1.ask ak
  have g47b : σ783 47 = z := (ak.1 47 (by decide) (by decide) (by decide) (by decide) (by decide) (by decide)).trans g47
  rw [g47]
  refine x_same (tgt := 1634) (pc := 786) hC dL_law_786 (by decide) ?_
  exact K _ _ _ _ _ _ (by omega) (by omega) g47b hH2

set_option maxHeartbeats 4000000 in
set_option maxRecDepth 100000 in
theorem lw_set {E : xE} {p : Program} {e : Env} {R : Room} {s : State} {m : MethodId} {args : Array Value} {below : List Frame} {meth : Method} {c : Code} {Z : State → Prop} (hC : XC E p R s m args meth c cL_law RL ret 4) (hR : xRm R 1312 600000 7302250) {b L : Nat} {xs : Nat → Int32} (hX : va_X b L xs s s.heap) (hbl : b < s.heap.size) (h62 : E.2.2.2.2.2 62 = b) (h0 : E.2.2.2.1 = s.heap.size) (hL : L ≤ 3072) {i : Int} (hi : 0 ≤ i ∧ i + 6 ≤ L) {kc ns : Nat} (hkc : kc ≤ 100000) (hns : ns ≤ 1000000) {σ : xM} {ρ : xR} {ks : xKs} {z : zS} (hz47 : σ 47 = z) (hLH : LH σ ρ ks z)
    (K : ∀ (σ' : xM) (ρ' : xR) (ks' : xKs) (z' : zS) (kc' ns' : Nat), kc' ≤ kc + 8 → ns' ≤ ns + 200 → σ' 47 = z' → LH σ' ρ' ks' z' → X E p e R s m args below meth c Z kc' ns' σ' ρ' ks' 1634 [some (.float 126), some (.ref 0), some (.ref 46), some (.int (iI i))] []) : X E p e R s m args below meth c Z kc ns σ ρ ks 791 [some (.float 126), some (.ref 0), some (.ref 46), some (.int (iI i))] [] := by
  obtain ⟨a1, a2, a3, a4, a5, a6, a7, a8, a9⟩ := id hLH
  obtain ⟨hP, hCn, hSe, hRu, hBk, hTp, h20, h21, hz0, hout⟩ := id a5
  have hz0' := hP.2.2.2
  obtain ⟨n15, n16, n17, n18, n19⟩ := id hCn
  have k0 : ks[0]? = some (0, 11) := a4.1
  have k46 : ks[46]? = some (0, 12) := a2.1
  refine x_aload_n (pc := 791) hC dL_law_791 rfl ?_
  refine x_aloadS_n (pc := 792) hC dL_law_792 rfl ?_
  refine x_iload_n (pc := 793) hC dL_law_793 rfl ?_
  refine x_iconst (pc := 794) hC dL_law_794 ?_
  refine x_iadd (pc := 795) hC dL_law_795 ?_
  refine x_sld (pc := 796) hC hX hbl h62 h0 (by omega) (by omega) dL_law_796 ?_
  refine x_aloadS_n (pc := 797) hC dL_law_797 rfl ?_
  refine x_iload_n (pc := 798) hC dL_law_798 rfl ?_
  refine x_iconst (pc := 799) hC dL_law_799 ?_
  refine x_iadd (pc := 800) hC dL_law_800 ?_
  refine x_sld (pc := 801) hC hX hbl h62 h0 (by omega) (by omega) dL_law_801 ?_
  refine x_aloadS_n (pc := 802) hC dL_law_802 rfl ?_
  refine x_iload_n (pc := 803) hC dL_law_803 rfl ?_
  refine x_iconst (pc := 804) hC dL_law_804 ?_
  refine x_iadd (pc := 805) hC dL_law_805 ?_
  refine x_sld (pc := 806) hC hX hbl h62 h0 (by omega) (by omega) dL_law_806 ?_
  refine x_callV (As := [_, _, _]) (Bs := [_, _, _]) (pc := 807) hC (c_set E a4 a6 hP (sc_rg xs (i + 1)) (sc_rg xs (i + 2)) (sc_rg xs (i + 3)) (by omega)) wL_88_11 pX11_set (by assumption) rfl rfl (by exact Nat.le_of_ble_eq_true rfl) hR (by omega) (by decide) (by omega) rfl dL_law_807 (fun r807 σ807 ρ807 ks807 q807 => ?_)
  obtain ⟨rfl, nx, e807, f807⟩ := q807
  obtain rfl := e807.symm
  obtain rfl := f807.symm
  have hH1 := hLH.nx nx
  have g47 : σ807 47 = z := (nx 47 (by decide)).trans hz47
  obtain ⟨b1, b2, b3, b4, b5, b6, b7, b8, b9⟩ := id hH1
  refine x_aload_n (pc := 810) hC dL_law_810 rfl ?_
  refine x_aloadS_n (pc := 811) hC dL_law_811 rfl ?_
  refine x_iload_n (pc := 812) hC dL_law_812 rfl ?_
  refine x_iconst (pc := 813) hC dL_law_813 ?_
  refine x_iadd (pc := 814) hC dL_law_814 ?_
  refine x_sld (pc := 815) hC hX hbl h62 h0 (by omega) (by omega) dL_law_815 ?_
  refine x_aloadS_n (pc := 816) hC dL_law_816 rfl ?_
  refine x_iload_n (pc := 817) hC dL_law_817 rfl ?_
  refine x_iconst (pc := 818) hC dL_law_818 ?_
  refine x_iadd (pc := 819) hC dL_law_819 ?_
  refine x_sld (pc := 820) hC hX hbl h62 h0 (by omega) (by omega) dL_law_820 ?_
  refine x_aloadS_n (pc := 821) hC dL_law_821 rfl ?_
  refine x_iload_n (pc := 822) hC dL_law_822 rfl ?_
  refine x_iconst (pc := 823) hC dL_law_823 ?_
  refine x_iadd (pc := 824) hC dL_law_824 ?_
  refine x_sld (pc := 825) hC hX hbl h62 h0 (by omega) (by omega) dL_law_825 ?_
  refine x_callV (As := [_, _, _]) (Bs := [_, _, _]) (pc := 826) hC (s_set E b2 b3 (sc_rg xs (i + 1)) (sc_rg xs (i + 2)) (sc_rg xs (i + 3)) (by rw [g47]; exact hP) (by rw [g47]; omega)) wL_91_12 pX12_set (by assumption) rfl rfl (by exact Nat.le_of_ble_eq_true rfl) hR (by omega) (by decide) (by omega) rfl dL_law_826 (fun r826 σ826 ρ826 ks826 q826 => ?_)
  obtain ⟨rfl, ak, e826, f826⟩ := q826
  obtain rfl := e826.symm
  obtain rfl := f826.symm
  have hH2 := hH1.ask ak
  have g47b : σ826 47 = z := (ak.1 47 (by decide) (by decide) (by decide) (by decide) (by decide) (by decide)).trans g47
  rw [g47]
  refine x_same (tgt := 1634) (pc := 829) hC dL_law_829 (by decide) ?_
  exact K _ _ _ _ _ _ (by omega) (by omega) g47b hH2

set_option maxHeartbeats 4000000 in
set_option maxRecDepth 100000 in
theorem lw_paced {E : xE} {p : Program} {e : Env} {R : Room} {s : State} {m : MethodId} {args : Array Value} {below : List Frame} {meth : Method} {c : Code} {Z : State → Prop} (hC : XC E p R s m args meth c cL_law RL ret 4) (hR : xRm R 1312 600000 7302250) {b L : Nat} {xs : Nat → Int32} (hX : va_X b L xs s s.heap) (hbl : b < s.heap.size) (h62 : E.2.2.2.2.2 62 = b) (h0 : E.2.2.2.1 = s.heap.size) (hL : L ≤ 3072) {i : Int} (hi : 0 ≤ i ∧ i + 6 ≤ L) {kc ns : Nat} (hkc : kc ≤ 100000) (hns : ns ≤ 1000000) {σ : xM} {ρ : xR} {ks : xKs} {z : zS} (hz47 : σ 47 = z) (hLH : LH σ ρ ks z)
    (K : ∀ (σ' : xM) (ρ' : xR) (ks' : xKs) (z' : zS) (kc' ns' : Nat), kc' ≤ kc + 8 → ns' ≤ ns + 200 → σ' 47 = z' → LH σ' ρ' ks' z' → X E p e R s m args below meth c Z kc' ns' σ' ρ' ks' 1634 [some (.float 126), some (.ref 0), some (.ref 46), some (.int (iI i))] []) : X E p e R s m args below meth c Z kc ns σ ρ ks 834 [some (.float 126), some (.ref 0), some (.ref 46), some (.int (iI i))] [] := by
  obtain ⟨a1, a2, a3, a4, a5, a6, a7, a8, a9⟩ := id hLH
  obtain ⟨hP, hCn, hSe, hRu, hBk, hTp, h20, h21, hz0, hout⟩ := id a5
  have hz0' := hP.2.2.2
  obtain ⟨n15, n16, n17, n18, n19⟩ := id hCn
  have k0 : ks[0]? = some (0, 11) := a4.1
  have k46 : ks[46]? = some (0, 12) := a2.1
  refine x_aload_n (pc := 834) hC dL_law_834 rfl ?_
  refine x_aloadS_n (pc := 835) hC dL_law_835 rfl ?_
  refine x_iload_n (pc := 836) hC dL_law_836 rfl ?_
  refine x_iconst (pc := 837) hC dL_law_837 ?_
  refine x_iadd (pc := 838) hC dL_law_838 ?_
  refine x_sld (pc := 839) hC hX hbl h62 h0 (by omega) (by omega) dL_law_839 ?_
  refine x_aloadS_n (pc := 840) hC dL_law_840 rfl ?_
  refine x_iload_n (pc := 841) hC dL_law_841 rfl ?_
  refine x_iconst (pc := 842) hC dL_law_842 ?_
  refine x_iadd (pc := 843) hC dL_law_843 ?_
  refine x_sld (pc := 844) hC hX hbl h62 h0 (by omega) (by omega) dL_law_844 ?_
  refine x_callV (As := [_, _]) (Bs := [_, _]) (pc := 845) hC (c_paced E a4 a6 hP (sc_rg xs (i + 1)) (sc_rg xs (i + 2)) (by omega)) wL_92_11 pX11_paced (by assumption) rfl rfl (by exact Nat.le_of_ble_eq_true rfl) hR (by omega) (by decide) (by omega) rfl dL_law_845 (fun r845 σ845 ρ845 ks845 q845 => ?_)
  obtain ⟨rfl, nx, e845, f845⟩ := q845
  obtain rfl := e845.symm
  obtain rfl := f845.symm
  have hH1 := hLH.nx nx
  have g47 : σ845 47 = z := (nx 47 (by decide)).trans hz47
  obtain ⟨b1, b2, b3, b4, b5, b6, b7, b8, b9⟩ := id hH1
  refine x_aload_n (pc := 848) hC dL_law_848 rfl ?_
  refine x_aloadS_n (pc := 849) hC dL_law_849 rfl ?_
  refine x_iload_n (pc := 850) hC dL_law_850 rfl ?_
  refine x_iconst (pc := 851) hC dL_law_851 ?_
  refine x_iadd (pc := 852) hC dL_law_852 ?_
  refine x_sld (pc := 853) hC hX hbl h62 h0 (by omega) (by omega) dL_law_853 ?_
  refine x_aloadS_n (pc := 854) hC dL_law_854 rfl ?_
  refine x_iload_n (pc := 855) hC dL_law_855 rfl ?_
  refine x_iconst (pc := 856) hC dL_law_856 ?_
  refine x_iadd (pc := 857) hC dL_law_857 ?_
  refine x_sld (pc := 858) hC hX hbl h62 h0 (by omega) (by omega) dL_law_858 ?_
  refine x_callV (As := [_, _]) (Bs := [_, _]) (pc := 859) hC (s_paced E b2 b3 (sc_rg xs (i + 1)) (sc_rg xs (i + 2)) (by rw [g47]; exact hP) (by rw [g47]; omega)) wL_95_12 pX12_paced (by assumption) rfl rfl (by exact Nat.le_of_ble_eq_true rfl) hR (by omega) (by decide) (by omega) rfl dL_law_859 (fun r859 σ859 ρ859 ks859 q859 => ?_)
  obtain ⟨rfl, ak, e859, f859⟩ := q859
  obtain rfl := e859.symm
  obtain rfl := f859.symm
  have hH2 := hH1.ask ak
  have g47b : σ859 47 = z := (ak.1 47 (by decide) (by decide) (by decide) (by decide) (by decide) (by decide)).trans g47
  rw [g47]
  refine x_same (tgt := 1634) (pc := 862) hC dL_law_862 (by decide) ?_
  exact K _ _ _ _ _ _ (by omega) (by omega) g47b hH2

set_option maxHeartbeats 4000000 in
set_option maxRecDepth 100000 in
theorem lw_seat {E : xE} {p : Program} {e : Env} {R : Room} {s : State} {m : MethodId} {args : Array Value} {below : List Frame} {meth : Method} {c : Code} {Z : State → Prop} (hC : XC E p R s m args meth c cL_law RL ret 4) (hR : xRm R 1312 600000 7302250) {b L : Nat} {xs : Nat → Int32} (hX : va_X b L xs s s.heap) (hbl : b < s.heap.size) (h62 : E.2.2.2.2.2 62 = b) (h0 : E.2.2.2.1 = s.heap.size) (hL : L ≤ 3072) {i : Int} (hi : 0 ≤ i ∧ i + 6 ≤ L) {kc ns : Nat} (hkc : kc ≤ 100000) (hns : ns ≤ 1000000) {σ : xM} {ρ : xR} {ks : xKs} {z : zS} (hz47 : σ 47 = z) (hLH : LH σ ρ ks z)
    (K : ∀ (σ' : xM) (ρ' : xR) (ks' : xKs) (z' : zS) (kc' ns' : Nat), kc' ≤ kc + 8 → ns' ≤ ns + 200 → σ' 47 = z' → LH σ' ρ' ks' z' → X E p e R s m args below meth c Z kc' ns' σ' ρ' ks' 1634 [some (.float 126), some (.ref 0), some (.ref 46), some (.int (iI i))] []) : X E p e R s m args below meth c Z kc ns σ ρ ks 867 [some (.float 126), some (.ref 0), some (.ref 46), some (.int (iI i))] [] := by
  obtain ⟨a1, a2, a3, a4, a5, a6, a7, a8, a9⟩ := id hLH
  obtain ⟨hP, hCn, hSe, hRu, hBk, hTp, h20, h21, hz0, hout⟩ := id a5
  have hz0' := hP.2.2.2
  obtain ⟨n15, n16, n17, n18, n19⟩ := id hCn
  have k0 : ks[0]? = some (0, 11) := a4.1
  have k46 : ks[46]? = some (0, 12) := a2.1
  refine x_aload_n (pc := 867) hC dL_law_867 rfl ?_
  refine x_aloadS_n (pc := 868) hC dL_law_868 rfl ?_
  refine x_iload_n (pc := 869) hC dL_law_869 rfl ?_
  refine x_iconst (pc := 870) hC dL_law_870 ?_
  refine x_iadd (pc := 871) hC dL_law_871 ?_
  refine x_sld (pc := 872) hC hX hbl h62 h0 (by omega) (by omega) dL_law_872 ?_
  refine x_aloadS_n (pc := 873) hC dL_law_873 rfl ?_
  refine x_iload_n (pc := 874) hC dL_law_874 rfl ?_
  refine x_iconst (pc := 875) hC dL_law_875 ?_
  refine x_iadd (pc := 876) hC dL_law_876 ?_
  refine x_sld (pc := 877) hC hX hbl h62 h0 (by omega) (by omega) dL_law_877 ?_
  refine x_aloadS_n (pc := 878) hC dL_law_878 rfl ?_
  refine x_iload_n (pc := 879) hC dL_law_879 rfl ?_
  refine x_iconst (pc := 880) hC dL_law_880 ?_
  refine x_iadd (pc := 881) hC dL_law_881 ?_
  refine x_sld (pc := 882) hC hX hbl h62 h0 (by omega) (by omega) dL_law_882 ?_
  refine x_callV (As := [_, _, _]) (Bs := [_, _, _]) (pc := 883) hC (c_seat E a4 a6 hP (sc_rg xs (i + 1)) (sc_rg xs (i + 2)) (sc_rg xs (i + 3)) (by omega)) wL_96_11 pX11_seat (by assumption) rfl rfl (by exact Nat.le_of_ble_eq_true rfl) hR (by omega) (by decide) (by omega) rfl dL_law_883 (fun r883 σ883 ρ883 ks883 q883 => ?_)
  obtain ⟨rfl, nx, e883, f883⟩ := q883
  obtain rfl := e883.symm
  obtain rfl := f883.symm
  have hH1 := hLH.nx nx
  have g47 : σ883 47 = z := (nx 47 (by decide)).trans hz47
  obtain ⟨b1, b2, b3, b4, b5, b6, b7, b8, b9⟩ := id hH1
  refine x_aload_n (pc := 886) hC dL_law_886 rfl ?_
  refine x_aloadS_n (pc := 887) hC dL_law_887 rfl ?_
  refine x_iload_n (pc := 888) hC dL_law_888 rfl ?_
  refine x_iconst (pc := 889) hC dL_law_889 ?_
  refine x_iadd (pc := 890) hC dL_law_890 ?_
  refine x_sld (pc := 891) hC hX hbl h62 h0 (by omega) (by omega) dL_law_891 ?_
  refine x_aloadS_n (pc := 892) hC dL_law_892 rfl ?_
  refine x_iload_n (pc := 893) hC dL_law_893 rfl ?_
  refine x_iconst (pc := 894) hC dL_law_894 ?_
  refine x_iadd (pc := 895) hC dL_law_895 ?_
  refine x_sld (pc := 896) hC hX hbl h62 h0 (by omega) (by omega) dL_law_896 ?_
  refine x_aloadS_n (pc := 897) hC dL_law_897 rfl ?_
  refine x_iload_n (pc := 898) hC dL_law_898 rfl ?_
  refine x_iconst (pc := 899) hC dL_law_899 ?_
  refine x_iadd (pc := 900) hC dL_law_900 ?_
  refine x_sld (pc := 901) hC hX hbl h62 h0 (by omega) (by omega) dL_law_901 ?_
  refine x_callV (As := [_, _, _]) (Bs := [_, _, _]) (pc := 902) hC (s_seat E b2 b3 (sc_rg xs (i + 1)) (sc_rg xs (i + 2)) (sc_rg xs (i + 3)) (by rw [g47]; exact hP) (by rw [g47]; omega)) wL_99_12 pX12_seat (by assumption) rfl rfl (by exact Nat.le_of_ble_eq_true rfl) hR (by omega) (by decide) (by omega) rfl dL_law_902 (fun r902 σ902 ρ902 ks902 q902 => ?_)
  obtain ⟨rfl, ak, e902, f902⟩ := q902
  obtain rfl := e902.symm
  obtain rfl := f902.symm
  have hH2 := hH1.ask ak
  have g47b : σ902 47 = z := (ak.1 47 (by decide) (by decide) (by decide) (by decide) (by decide) (by decide)).trans g47
  rw [g47]
  refine x_same (tgt := 1634) (pc := 905) hC dL_law_905 (by decide) ?_
  exact K _ _ _ _ _ _ (by omega) (by omega) g47b hH2
