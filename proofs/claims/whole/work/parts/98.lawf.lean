/-! THE LAW, its cases 20 to 23 -/
set_option maxHeartbeats 4000000 in
set_option maxRecDepth 100000 in
theorem lw_change {E : xE} {p : Program} {e : Env} {R : Room} {s : State} {m : MethodId} {args : Array Value} {below : List Frame} {meth : Method} {c : Code} {Z : State → Prop} (hC : XC E p R s m args meth c cL_law RL ret 4) (hR : xRm R 1312 600000 7302250) {b L : Nat} {xs : Nat → Int32} (hX : va_X b L xs s s.heap) (hbl : b < s.heap.size) (h62 : E.2.2.2.2.2 62 = b) (h0 : E.2.2.2.1 = s.heap.size) (hL : L ≤ 3072) {i : Int} (hi : 0 ≤ i ∧ i + 6 ≤ L) {kc ns : Nat} (hkc : kc ≤ 100000) (hns : ns ≤ 1000000) {σ : xM} {ρ : xR} {ks : xKs} {z : zS} (hz47 : σ 47 = z) (hLH : LH σ ρ ks z)
    (K : ∀ (σ' : xM) (ρ' : xR) (ks' : xKs) (z' : zS) (kc' ns' : Nat), kc' ≤ kc + 8 → ns' ≤ ns + 200 → σ' 47 = z' → LH σ' ρ' ks' z' → X E p e R s m args below meth c Z kc' ns' σ' ρ' ks' 1634 [some (.float 126), some (.ref 0), some (.ref 46), some (.int (iI i))] []) : X E p e R s m args below meth c Z kc ns σ ρ ks 910 [some (.float 126), some (.ref 0), some (.ref 46), some (.int (iI i))] [] := by
  obtain ⟨a1, a2, a3, a4, a5, a6, a7, a8, a9⟩ := id hLH
  obtain ⟨hP, hCn, hSe, hRu, hBk, hTp, h20, h21, hz0, hout⟩ := id a5
  have hz0' := hP.2.2.2
  obtain ⟨n15, n16, n17, n18, n19⟩ := id hCn
  have k0 : ks[0]? = some (0, 11) := a4.1
  have k46 : ks[46]? = some (0, 12) := a2.1
  refine x_aload_n (pc := 910) hC dL_law_910 rfl ?_
  refine x_aloadS_n (pc := 911) hC dL_law_911 rfl ?_
  refine x_iload_n (pc := 912) hC dL_law_912 rfl ?_
  refine x_iconst (pc := 913) hC dL_law_913 ?_
  refine x_iadd (pc := 914) hC dL_law_914 ?_
  refine x_sld (pc := 915) hC hX hbl h62 h0 (by omega) (by omega) dL_law_915 ?_
  refine x_callV (As := [_]) (Bs := [_]) (pc := 916) hC (c_change E a4 a6 hP (sc_rg xs (i + 1)) (by omega)) wL_100_11 pX11_change (by assumption) rfl rfl (by exact Nat.le_of_ble_eq_true rfl) hR (by omega) (by decide) (by omega) rfl dL_law_916 (fun r916 σ916 ρ916 ks916 q916 => ?_)
  obtain ⟨rfl, nx, e916, f916⟩ := q916
  obtain rfl := e916.symm
  obtain rfl := f916.symm
  have hH1 := hLH.nx nx
  have g47 : σ916 47 = z := (nx 47 (by decide)).trans hz47
  obtain ⟨b1, b2, b3, b4, b5, b6, b7, b8, b9⟩ := id hH1
  refine x_aload_n (pc := 919) hC dL_law_919 rfl ?_
  refine x_aloadS_n (pc := 920) hC dL_law_920 rfl ?_
  refine x_iload_n (pc := 921) hC dL_law_921 rfl ?_
  refine x_iconst (pc := 922) hC dL_law_922 ?_
  refine x_iadd (pc := 923) hC dL_law_923 ?_
  refine x_sld (pc := 924) hC hX hbl h62 h0 (by omega) (by omega) dL_law_924 ?_
  refine x_callV (As := [_]) (Bs := [_]) (pc := 925) hC (s_change E b2 b3 (sc_rg xs (i + 1)) (by rw [g47]; exact hP) (by rw [g47]; omega)) wL_103_12 pX12_change (by assumption) rfl rfl (by exact Nat.le_of_ble_eq_true rfl) hR (by omega) (by decide) (by omega) rfl dL_law_925 (fun r925 σ925 ρ925 ks925 q925 => ?_)
  obtain ⟨rfl, ak, e925, f925⟩ := q925
  obtain rfl := e925.symm
  obtain rfl := f925.symm
  have hH2 := hH1.ask ak
  have g47b : σ925 47 = z := (ak.1 47 (by decide) (by decide) (by decide) (by decide) (by decide) (by decide)).trans g47
  rw [g47]
  refine x_same (tgt := 1634) (pc := 928) hC dL_law_928 (by decide) ?_
  exact K _ _ _ _ _ _ (by omega) (by omega) g47b hH2

set_option maxHeartbeats 4000000 in
set_option maxRecDepth 100000 in
theorem lw_worth {E : xE} {p : Program} {e : Env} {R : Room} {s : State} {m : MethodId} {args : Array Value} {below : List Frame} {meth : Method} {c : Code} {Z : State → Prop} (hC : XC E p R s m args meth c cL_law RL ret 4) (hR : xRm R 1312 600000 7302250) {b L : Nat} {xs : Nat → Int32} (hX : va_X b L xs s s.heap) (hbl : b < s.heap.size) (h62 : E.2.2.2.2.2 62 = b) (h0 : E.2.2.2.1 = s.heap.size) (hL : L ≤ 3072) {i : Int} (hi : 0 ≤ i ∧ i + 6 ≤ L) {kc ns : Nat} (hkc : kc ≤ 100000) (hns : ns ≤ 1000000) {σ : xM} {ρ : xR} {ks : xKs} {z : zS} (hz47 : σ 47 = z) (hLH : LH σ ρ ks z)
    (K : ∀ (σ' : xM) (ρ' : xR) (ks' : xKs) (z' : zS) (kc' ns' : Nat), kc' ≤ kc + 8 → ns' ≤ ns + 200 → σ' 47 = z' → LH σ' ρ' ks' z' → X E p e R s m args below meth c Z kc' ns' σ' ρ' ks' 1634 [some (.float 126), some (.ref 0), some (.ref 46), some (.int (iI i))] []) : X E p e R s m args below meth c Z kc ns σ ρ ks 933 [some (.float 126), some (.ref 0), some (.ref 46), some (.int (iI i))] [] := by
  obtain ⟨a1, a2, a3, a4, a5, a6, a7, a8, a9⟩ := id hLH
  obtain ⟨hP, hCn, hSe, hRu, hBk, hTp, h20, h21, hz0, hout⟩ := id a5
  have hz0' := hP.2.2.2
  obtain ⟨n15, n16, n17, n18, n19⟩ := id hCn
  have k0 : ks[0]? = some (0, 11) := a4.1
  have k46 : ks[46]? = some (0, 12) := a2.1
  refine x_aload_n (pc := 933) hC dL_law_933 rfl ?_
  refine x_aloadS_n (pc := 934) hC dL_law_934 rfl ?_
  refine x_iload_n (pc := 935) hC dL_law_935 rfl ?_
  refine x_iconst (pc := 936) hC dL_law_936 ?_
  refine x_iadd (pc := 937) hC dL_law_937 ?_
  refine x_sld (pc := 938) hC hX hbl h62 h0 (by omega) (by omega) dL_law_938 ?_
  refine x_aloadS_n (pc := 939) hC dL_law_939 rfl ?_
  refine x_iload_n (pc := 940) hC dL_law_940 rfl ?_
  refine x_iconst (pc := 941) hC dL_law_941 ?_
  refine x_iadd (pc := 942) hC dL_law_942 ?_
  refine x_sld (pc := 943) hC hX hbl h62 h0 (by omega) (by omega) dL_law_943 ?_
  refine x_callV (As := [_, _]) (Bs := [_, _]) (pc := 944) hC (c_worth E a4 a6 hP (sc_rg xs (i + 1)) (sc_rg xs (i + 2)) (by omega)) wL_104_11 pX11_worth (by assumption) rfl rfl (by exact Nat.le_of_ble_eq_true rfl) hR (by omega) (by decide) (by omega) rfl dL_law_944 (fun r944 σ944 ρ944 ks944 q944 => ?_)
  obtain ⟨rfl, nx, e944, f944⟩ := q944
  obtain rfl := e944.symm
  obtain rfl := f944.symm
  have hH1 := hLH.nx nx
  have g47 : σ944 47 = z := (nx 47 (by decide)).trans hz47
  obtain ⟨b1, b2, b3, b4, b5, b6, b7, b8, b9⟩ := id hH1
  refine x_aload_n (pc := 947) hC dL_law_947 rfl ?_
  refine x_aloadS_n (pc := 948) hC dL_law_948 rfl ?_
  refine x_iload_n (pc := 949) hC dL_law_949 rfl ?_
  refine x_iconst (pc := 950) hC dL_law_950 ?_
  refine x_iadd (pc := 951) hC dL_law_951 ?_
  refine x_sld (pc := 952) hC hX hbl h62 h0 (by omega) (by omega) dL_law_952 ?_
  refine x_aloadS_n (pc := 953) hC dL_law_953 rfl ?_
  refine x_iload_n (pc := 954) hC dL_law_954 rfl ?_
  refine x_iconst (pc := 955) hC dL_law_955 ?_
  refine x_iadd (pc := 956) hC dL_law_956 ?_
  refine x_sld (pc := 957) hC hX hbl h62 h0 (by omega) (by omega) dL_law_957 ?_
  refine x_callV (As := [_, _]) (Bs := [_, _]) (pc := 958) hC (s_worth E b2 b3 (sc_rg xs (i + 1)) (sc_rg xs (i + 2)) (by rw [g47]; exact hP) (by rw [g47]; omega)) wL_107_12 pX12_worth (by assumption) rfl rfl (by exact Nat.le_of_ble_eq_true rfl) hR (by omega) (by decide) (by omega) rfl dL_law_958 (fun r958 σ958 ρ958 ks958 q958 => ?_)
  obtain ⟨rfl, ak, e958, f958⟩ := q958
  obtain rfl := e958.symm
  obtain rfl := f958.symm
  have hH2 := hH1.ask ak
  have g47b : σ958 47 = z := (ak.1 47 (by decide) (by decide) (by decide) (by decide) (by decide) (by decide)).trans g47
  rw [g47]
  refine x_same (tgt := 1634) (pc := 961) hC dL_law_961 (by decide) ?_
  exact K _ _ _ _ _ _ (by omega) (by omega) g47b hH2

set_option maxHeartbeats 4000000 in
set_option maxRecDepth 100000 in
theorem lw_round {E : xE} {p : Program} {e : Env} {R : Room} {s : State} {m : MethodId} {args : Array Value} {below : List Frame} {meth : Method} {c : Code} {Z : State → Prop} (hC : XC E p R s m args meth c cL_law RL ret 4) (hR : xRm R 1312 600000 7302250) {b L : Nat} {xs : Nat → Int32} (hX : va_X b L xs s s.heap) (hbl : b < s.heap.size) (h62 : E.2.2.2.2.2 62 = b) (h0 : E.2.2.2.1 = s.heap.size) (hL : L ≤ 3072) {i : Int} (hi : 0 ≤ i ∧ i + 6 ≤ L) {kc ns : Nat} (hkc : kc ≤ 100000) (hns : ns ≤ 1000000) {σ : xM} {ρ : xR} {ks : xKs} {z : zS} (hz47 : σ 47 = z) (hLH : LH σ ρ ks z)
    (K : ∀ (σ' : xM) (ρ' : xR) (ks' : xKs) (z' : zS) (kc' ns' : Nat), kc' ≤ kc + 8 → ns' ≤ ns + 200 → σ' 47 = z' → LH σ' ρ' ks' z' → X E p e R s m args below meth c Z kc' ns' σ' ρ' ks' 1634 [some (.float 126), some (.ref 0), some (.ref 46), some (.int (iI i))] []) : X E p e R s m args below meth c Z kc ns σ ρ ks 966 [some (.float 126), some (.ref 0), some (.ref 46), some (.int (iI i))] [] := by
  obtain ⟨a1, a2, a3, a4, a5, a6, a7, a8, a9⟩ := id hLH
  obtain ⟨hP, hCn, hSe, hRu, hBk, hTp, h20, h21, hz0, hout⟩ := id a5
  have hz0' := hP.2.2.2
  obtain ⟨n15, n16, n17, n18, n19⟩ := id hCn
  have k0 : ks[0]? = some (0, 11) := a4.1
  have k46 : ks[46]? = some (0, 12) := a2.1
  refine x_aload_n (pc := 966) hC dL_law_966 rfl ?_
  refine x_aloadS_n (pc := 967) hC dL_law_967 rfl ?_
  refine x_iload_n (pc := 968) hC dL_law_968 rfl ?_
  refine x_iconst (pc := 969) hC dL_law_969 ?_
  refine x_iadd (pc := 970) hC dL_law_970 ?_
  refine x_sld (pc := 971) hC hX hbl h62 h0 (by omega) (by omega) dL_law_971 ?_
  refine x_aloadS_n (pc := 972) hC dL_law_972 rfl ?_
  refine x_iload_n (pc := 973) hC dL_law_973 rfl ?_
  refine x_iconst (pc := 974) hC dL_law_974 ?_
  refine x_iadd (pc := 975) hC dL_law_975 ?_
  refine x_sld (pc := 976) hC hX hbl h62 h0 (by omega) (by omega) dL_law_976 ?_
  refine x_callV (As := [_, _]) (Bs := [_, _]) (pc := 977) hC (c_round E a4 a6 hP (sc_rg xs (i + 1)) (sc_rg xs (i + 2)) (by omega)) wL_108_11 pX11_round (by assumption) rfl rfl (by exact Nat.le_of_ble_eq_true rfl) hR (by omega) (by decide) (by omega) rfl dL_law_977 (fun r977 σ977 ρ977 ks977 q977 => ?_)
  obtain ⟨rfl, nx, e977, f977⟩ := q977
  obtain rfl := e977.symm
  obtain rfl := f977.symm
  have hH1 := hLH.nx nx
  have g47 : σ977 47 = z := (nx 47 (by decide)).trans hz47
  obtain ⟨b1, b2, b3, b4, b5, b6, b7, b8, b9⟩ := id hH1
  refine x_aload_n (pc := 980) hC dL_law_980 rfl ?_
  refine x_aloadS_n (pc := 981) hC dL_law_981 rfl ?_
  refine x_iload_n (pc := 982) hC dL_law_982 rfl ?_
  refine x_iconst (pc := 983) hC dL_law_983 ?_
  refine x_iadd (pc := 984) hC dL_law_984 ?_
  refine x_sld (pc := 985) hC hX hbl h62 h0 (by omega) (by omega) dL_law_985 ?_
  refine x_aloadS_n (pc := 986) hC dL_law_986 rfl ?_
  refine x_iload_n (pc := 987) hC dL_law_987 rfl ?_
  refine x_iconst (pc := 988) hC dL_law_988 ?_
  refine x_iadd (pc := 989) hC dL_law_989 ?_
  refine x_sld (pc := 990) hC hX hbl h62 h0 (by omega) (by omega) dL_law_990 ?_
  refine x_callV (As := [_, _]) (Bs := [_, _]) (pc := 991) hC (s_round E b2 b3 (sc_rg xs (i + 1)) (sc_rg xs (i + 2)) (by rw [g47]; exact hP) (by rw [g47]; omega)) wL_111_12 pX12_round (by assumption) rfl rfl (by exact Nat.le_of_ble_eq_true rfl) hR (by omega) (by decide) (by omega) rfl dL_law_991 (fun r991 σ991 ρ991 ks991 q991 => ?_)
  obtain ⟨rfl, ak, e991, f991⟩ := q991
  obtain rfl := e991.symm
  obtain rfl := f991.symm
  have hH2 := hH1.ask ak
  have g47b : σ991 47 = z := (ak.1 47 (by decide) (by decide) (by decide) (by decide) (by decide) (by decide)).trans g47
  rw [g47]
  refine x_same (tgt := 1634) (pc := 994) hC dL_law_994 (by decide) ?_
  exact K _ _ _ _ _ _ (by omega) (by omega) g47b hH2

set_option maxHeartbeats 4000000 in
set_option maxRecDepth 100000 in
theorem lw_meets {E : xE} {p : Program} {e : Env} {R : Room} {s : State} {m : MethodId} {args : Array Value} {below : List Frame} {meth : Method} {c : Code} {Z : State → Prop} (hC : XC E p R s m args meth c cL_law RL ret 4) (hR : xRm R 1312 600000 7302250) {b L : Nat} {xs : Nat → Int32} (hX : va_X b L xs s s.heap) (hbl : b < s.heap.size) (h62 : E.2.2.2.2.2 62 = b) (h0 : E.2.2.2.1 = s.heap.size) (hL : L ≤ 3072) {i : Int} (hi : 0 ≤ i ∧ i + 6 ≤ L) {kc ns : Nat} (hkc : kc ≤ 100000) (hns : ns ≤ 1000000) {σ : xM} {ρ : xR} {ks : xKs} {z : zS} (hz47 : σ 47 = z) (hLH : LH σ ρ ks z)
    (K : ∀ (σ' : xM) (ρ' : xR) (ks' : xKs) (z' : zS) (kc' ns' : Nat), kc' ≤ kc + 8 → ns' ≤ ns + 200 → σ' 47 = z' → LH σ' ρ' ks' z' → X E p e R s m args below meth c Z kc' ns' σ' ρ' ks' 1634 [some (.float 126), some (.ref 0), some (.ref 46), some (.int (iI i))] []) : X E p e R s m args below meth c Z kc ns σ ρ ks 999 [some (.float 126), some (.ref 0), some (.ref 46), some (.int (iI i))] [] := by
  obtain ⟨a1, a2, a3, a4, a5, a6, a7, a8, a9⟩ := id hLH
  obtain ⟨hP, hCn, hSe, hRu, hBk, hTp, h20, h21, hz0, hout⟩ := id a5
  have hz0' := hP.2.2.2
  obtain ⟨n15, n16, n17, n18, n19⟩ := id hCn
  have k0 : ks[0]? = some (0, 11) := a4.1
  have k46 : ks[46]? = some (0, 12) := a2.1
  refine x_aload_n (pc := 999) hC dL_law_999 rfl ?_
  refine x_aloadS_n (pc := 1000) hC dL_law_1000 rfl ?_
  refine x_iload_n (pc := 1001) hC dL_law_1001 rfl ?_
  refine x_iconst (pc := 1002) hC dL_law_1002 ?_
  refine x_iadd (pc := 1003) hC dL_law_1003 ?_
  refine x_sld (pc := 1004) hC hX hbl h62 h0 (by omega) (by omega) dL_law_1004 ?_
  refine x_aloadS_n (pc := 1005) hC dL_law_1005 rfl ?_
  refine x_iload_n (pc := 1006) hC dL_law_1006 rfl ?_
  refine x_iconst (pc := 1007) hC dL_law_1007 ?_
  refine x_iadd (pc := 1008) hC dL_law_1008 ?_
  refine x_sld (pc := 1009) hC hX hbl h62 h0 (by omega) (by omega) dL_law_1009 ?_
  refine x_aloadS_n (pc := 1010) hC dL_law_1010 rfl ?_
  refine x_iload_n (pc := 1011) hC dL_law_1011 rfl ?_
  refine x_iconst (pc := 1012) hC dL_law_1012 ?_
  refine x_iadd (pc := 1013) hC dL_law_1013 ?_
  refine x_sld (pc := 1014) hC hX hbl h62 h0 (by omega) (by omega) dL_law_1014 ?_
  refine x_callV (As := [_, _, _]) (Bs := [_, _, _]) (pc := 1015) hC (c_meets E a4 a6 hP (sc_rg xs (i + 1)) (sc_rg xs (i + 2)) (sc_rg xs (i + 3)) (by omega)) wL_112_11 pX11_meets (by assumption) rfl rfl (by exact Nat.le_of_ble_eq_true rfl) hR (by omega) (by decide) (by omega) rfl dL_law_1015 (fun r1015 σ1015 ρ1015 ks1015 q1015 => ?_)
  obtain ⟨rfl, nx, e1015, f1015⟩ := q1015
  obtain rfl := e1015.symm
  obtain rfl := f1015.symm
  have hH1 := hLH.nx nx
  have g47 : σ1015 47 = z := (nx 47 (by decide)).trans hz47
  obtain ⟨b1, b2, b3, b4, b5, b6, b7, b8, b9⟩ := id hH1
  refine x_aload_n (pc := 1018) hC dL_law_1018 rfl ?_
  refine x_aloadS_n (pc := 1019) hC dL_law_1019 rfl ?_
  refine x_iload_n (pc := 1020) hC dL_law_1020 rfl ?_
  refine x_iconst (pc := 1021) hC dL_law_1021 ?_
  refine x_iadd (pc := 1022) hC dL_law_1022 ?_
  refine x_sld (pc := 1023) hC hX hbl h62 h0 (by omega) (by omega) dL_law_1023 ?_
  refine x_aloadS_n (pc := 1024) hC dL_law_1024 rfl ?_
  refine x_iload_n (pc := 1025) hC dL_law_1025 rfl ?_
  refine x_iconst (pc := 1026) hC dL_law_1026 ?_
  refine x_iadd (pc := 1027) hC dL_law_1027 ?_
  refine x_sld (pc := 1028) hC hX hbl h62 h0 (by omega) (by omega) dL_law_1028 ?_
  refine x_aloadS_n (pc := 1029) hC dL_law_1029 rfl ?_
  refine x_iload_n (pc := 1030) hC dL_law_1030 rfl ?_
  refine x_iconst (pc := 1031) hC dL_law_1031 ?_
  refine x_iadd (pc := 1032) hC dL_law_1032 ?_
  refine x_sld (pc := 1033) hC hX hbl h62 h0 (by omega) (by omega) dL_law_1033 ?_
  refine x_callV1 (As := [_, _, _]) (Bs := [_, _, _]) (pc := 1034) hC (s_meets E b2 b3 (sc_rg xs (i + 1)) (sc_rg xs (i + 2)) (sc_rg xs (i + 3)) (by rw [g47]; exact hP)) wL_115_12 pX12_meets (by assumption) rfl rfl (by exact Nat.le_of_ble_eq_true rfl) hR (by omega) (by decide) (by omega) rfl dL_law_1034 ?_
  rw [g47]
  refine x_same (tgt := 1634) (pc := 1037) hC dL_law_1037 (by decide) ?_
  exact K _ _ _ _ _ _ (by omega) (by omega) g47 hH1
