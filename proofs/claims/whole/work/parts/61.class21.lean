/-! playing otherwise seated -/
theorem swZ_eq (z : zS) (a b : Int) : swZ z a b = up (up z (62 + a) (z (62 + b))) (62 + b) (z (62 + a)) := rfl
theorem sits_fans {z z' : zS} (h : ∀ j, j < 62 ∨ 68 ≤ j → z' j = z j) : z' 13 = z 13 ∧ z' 14 = z 14 ∧ z' 0 = z 0 ∧ z' 20 = z 20 ∧ (∀ j, 22 ≤ j → j < 62 → z' j = z j) ∧ (∀ j, 118 ≤ j → z' j = z j) := ⟨h _ (by omega), h _ (by omega), h _ (by omega), h _ (by omega), fun j h0 h1 => h j (by omega), fun j h0 => h j (by omega)⟩
theorem play_great {z : zS} (h : PlOk z) {n : Nat} (hn : z 0 + n < 900000) : playF z n 14 = z 14 := (play_pl h n hn).2.2 14 (Or.inl (by decide))
theorem HZ.rm {σ : xM} {ρ : xR} {ks : xKs} {z : zS} (h : HZ σ ρ ks 1 z) {rq : Nat} (hrq : ρ 1 3 = some rq) : RmP σ ρ ks rq z := by
  obtain ⟨-, -, ⟨r, h1, h2, h3⟩, -⟩ := h
  cases h1.symm.trans hrq
  exact h3
set_option maxHeartbeats 4000000 in
set_option maxRecDepth 100000 in
theorem c_heatSeated (E : xE) {σ : xM} {ρ : xR} {ks : xKs} (hw : WK ks ρ) {z : zS} (hz : HZ σ ρ ks 1 z) (hpl : PlOk z) {y x : Int} (hy : 0 ≤ y ∧ y < z 14) (hx : 0 ≤ x ∧ x ≤ 9) {n : Int} (hn : 0 ≤ n ∧ n ≤ 60) (ht : z 0 + 100 < 900000) : Sp E yX11_heatSeated kX11_heatSeated 5 0 0 [.ref 0, .int (iI y), .int (iI x), .int (iI n)] σ ρ ks (fun r σ' ρ' ks' => r = some (.int (iI (seatF z y x n.toNat))) ∧ Nx σ σ' ∧ ρ' = ρ ∧ ks' = ks) := by
  obtain ⟨w0, w43, ⟨wr0, wr1, wr3, wr4, wr5⟩, wh, wk, wn, wt⟩ := id hw
  have hk := wh.hk
  obtain ⟨k1, k2, r0, r2, hs3⟩ := id hk
  have hfs := hz.fans
  have hsz := hz.sit
  obtain ⟨⟨hz1, -⟩, -, ⟨rq, hrq, hrq2, hrm⟩, hz4, ⟨hz6, -⟩, hz7, hz8, ⟨hz10, -⟩, ⟨hz12, -⟩, ⟨hz14, -⟩⟩ := id hz
  have hfan := hpl.1
  have hsit := hpl.2.1
  have h13 := hpl.1.1
  have h14 := hpl.2.1.1
  have hz00 := hpl.2.2.2
  obtain ⟨n0, ⟨n1, n2, n3, n4, n5⟩, m0, m1, m2, m3, m4⟩ := id wn
  refine x_enter (own := RX11) (L := [_, _, _, _]) (by decide +kernel) rfl (by exact Nat.le_of_ble_eq_true rfl) rfl (fun p e R s m args below meth c Z hZ hC hR hin => ?_)
  refine x_aload_n (pc := 0) hC dX11_heatSeated_0 rfl ?_
  refine x_getr (K := 3) (pc := 1) hC fX11_28_11 (by assumption) dX11_heatSeated_1 rfl rfl (by assumption) ?_
  refine x_aload_n (pc := 4) hC dX11_heatSeated_4 rfl ?_
  refine x_getr (K := 0) (pc := 5) hC fX11_12_11 (by assumption) dX11_heatSeated_5 rfl rfl (by assumption) ?_
  refine x_getr (K := 2) (pc := 8) hC fX11_108_1 (by assumption) dX11_heatSeated_8 rfl rfl (by assumption) ?_
  refine x_callV (As := [_]) (Bs := [_]) (pc := 11) hC (c_resembleS E wn hs3 (by omega) hsz hsit) wX11_177_5 pX5_resemble (by assumption) rfl rfl (by exact Nat.le_of_ble_eq_true rfl) hR (by decide) (by decide) (by decide) rfl dX11_heatSeated_11 (fun r11 σ11 ρ11 ks11 q11 => ?_)
  obtain ⟨rfl, hρ11, hks11, g1, g2, g3, g4⟩ := q11
  obtain rfl := hρ11.symm
  obtain rfl := hks11.symm
  have hnx : Nx σ σ11 := fun p' hp => g1 p' (by omega) (by omega) (by omega) (by omega) (by omega)
  have hsz0 : SZ σ11 3 4 z := (hz.nx (by decide) hnx).sit
  refine x_aload_n (pc := 14) hC dX11_heatSeated_14 rfl ?_
  refine x_getr (K := 3) (pc := 15) hC fX11_28_11 (by assumption) dX11_heatSeated_15 rfl rfl (by assumption) ?_
  refine x_getr (K := 0) (pc := 18) hC fX11_130_5 (by assumption) dX11_heatSeated_18 rfl rfl (by assumption) ?_
  refine x_iload_n (pc := 21) hC dX11_heatSeated_21 rfl ?_
  refine x_iload_n (pc := 22) hC dX11_heatSeated_22 rfl ?_
  refine x_iast (pc := 23) hC (by assumption) (by omega) dX11_heatSeated_23 ?_
  obtain ⟨z1, hz1e⟩ : ∃ z1, z1 = up z (62 + y) x := ⟨_, rfl⟩
  have hzz : ∀ j, j < 62 ∨ 68 ≤ j → z1 j = z j := fun j hj => by rw [hz1e]; exact up_ne _ (by omega) _
  have hpl1 : PlOk z1 := by rw [hz1e]; exact hpl.sits (by omega) hx
  refine X.gen (P := fun σ2 => Nx σ σ2 ∧ SZ σ2 37 38 z1) ⟨fun p' hp => (wr_of _ (by omega) _ _).trans (hnx p' hp), ?_, fun j j0 j1 => ?_⟩ (fun σ2 h2 => ?_)
  · rw [wr_of _ (by decide), hzz 14 (by omega)]; exact g3.1
  · rw [hzz 14 (by omega)] at j1
    obtain ⟨y0, y1, y2⟩ := g3.2 j j0 j1
    rw [hzz (1 + j) (by omega), hzz (7 + j) (by omega), wr_of _ (by decide : 38 + 1 ≠ 38), wr_of _ (by decide : 38 + 2 ≠ 38)]
    refine ⟨?_, y1, y2⟩
    by_cases hjy : j = y
    · subst hjy; rw [wr_eq, hz1e, up_eq]
    · rw [wr_k _ _ _ hjy, hz1e, up_ne _ (by omega)]; exact y0
  obtain ⟨hnx1, hsz1⟩ := h2
  obtain ⟨e13, e14, e0, e20, e22, e118⟩ := sits_fans hzz
  have hfs1 : FansAt σ2 ρ ks z1 := ((hz.nx (by decide) hnx1).fans).row h13.2 e13 e22
  have hfan1 : FansOk z1 := hpl1.1
  have hrm1 : RmP σ2 ρ ks rq z1 := ((hz.nx (by decide) hnx1).rm hrq).row e20 e118 hpl.2.2.1.1.1
  have hmsk : maskF z1 (z1 13).toNat = maskF z1 (z1 13).toNat := rfl
  refine x_aload_n (pc := 24) hC dX11_heatSeated_24 rfl ?_
  refine x_getr (K := 0) (pc := 25) hC fX11_12_11 (by assumption) dX11_heatSeated_25 rfl rfl (by assumption) ?_
  refine x_aload_n (pc := 28) hC dX11_heatSeated_28 rfl ?_
  refine x_getr (K := 3) (pc := 29) hC fX11_28_11 (by assumption) dX11_heatSeated_29 rfl rfl (by assumption) ?_
  refine x_aload_n (pc := 32) hC dX11_heatSeated_32 rfl ?_
  refine x_getr (K := 0) (pc := 33) hC fX11_12_11 (by assumption) dX11_heatSeated_33 rfl rfl (by assumption) ?_
  refine x_callV1 (As := []) (Bs := []) (pc := 36) hC (c_onMask E hk hfs1 hfan1) wX11_156_1 pX1_onMask (by assumption) rfl rfl (by exact Nat.le_of_ble_eq_true rfl) hR (by decide) (by decide) (by decide) rfl dX11_heatSeated_36 ?_
  refine x_aload_n (pc := 39) hC dX11_heatSeated_39 rfl ?_
  refine x_getr (K := 0) (pc := 40) hC fX11_12_11 (by assumption) dX11_heatSeated_40 rfl rfl (by assumption) ?_
  refine x_geti (K := 7) (pc := 43) hC fX11_105_1 (by assumption) dX11_heatSeated_43 rfl rfl ?_
  refine x_iload_n (pc := 46) hC dX11_heatSeated_46 rfl ?_
  refine x_callV (As := [_, _, _, _]) (Bs := [_, _, _, _]) (pc := 47) hC (c_pass E hk hfs1 hpl1 hrq hrm1 wn hsz1 (mask_in (by omega)) (by rw [hnx1 1 (by omega), hz7]; exact e0) (by rw [hnx1 1 (by omega)]; omega) (n := n) (by omega)) wX11_160_1 pX1_pass (by assumption) rfl rfl (by exact Nat.le_of_ble_eq_true rfl) hR (by decide) (by decide) (by decide) rfl dX11_heatSeated_47 (fun r47 σ47 ρ47 ks47 q47 => ?_)
  obtain ⟨rfl, hρ47, hks47, f1, f2, f3⟩ := q47
  obtain rfl := hρ47.symm
  obtain rfl := hks47.symm
  have hnx2 : Nx σ σ47 := fun p' hp => (f1 p' (by omega) (by omega) (by omega) (by omega)).trans (hnx1 p' hp)
  have hpp := (pass_play hpl1 hmsk (fun _ => 0) n.toNat (by omega)).1
  rw [hpp] at f2
  refine x_aload_n (pc := 50) hC dX11_heatSeated_50 rfl ?_
  refine x_getr (K := 3) (pc := 51) hC fX11_28_11 (by assumption) dX11_heatSeated_51 rfl rfl (by assumption) ?_
  refine x_getr (K := 1) (pc := 54) hC fX11_133_5 (by assumption) dX11_heatSeated_54 rfl rfl (by assumption) ?_
  refine x_iload_n (pc := 57) hC dX11_heatSeated_57 rfl ?_
  refine x_iald (pc := 58) hC (by assumption) (by omega) dX11_heatSeated_58 ?_
  refine x_ireturn hC hZ dX11_heatSeated_59 (by decide) (by decide) ?_
  refine ⟨?_, hnx2, rfl, rfl⟩
  rw [(f2.2 y hy.1 (by rw [play_great hpl1 (by omega), hzz 14 (by omega)]; exact hy.2)).2.1]
  unfold seatF
  rw [hz1e]

set_option maxHeartbeats 4000000 in
set_option maxRecDepth 100000 in
theorem c_greatestChanged (E : xE) {σ : xM} {ρ : xR} {ks : xKs} (hw : WK ks ρ) {z : zS} (hz : HZ σ ρ ks 1 z) (hpl : PlOk z) {a b : Int} (ha : 0 ≤ a ∧ a < b) (hb : b < z 14) {n : Int} (hn : 0 ≤ n ∧ n ≤ 60) (ht : z 0 + 100 < 900000) : Sp E yX11_greatestChanged kX11_greatestChanged 5 0 0 [.ref 0, .int (iI a), .int (iI b), .int (iI n)] σ ρ ks (fun r σ' ρ' ks' => r = some (.int (iI (grF (swZ z a b) n.toNat))) ∧ Nx σ σ' ∧ ρ' = ρ ∧ ks' = ks) := by
  obtain ⟨w0, w43, ⟨wr0, wr1, wr3, wr4, wr5⟩, wh, wk, wn, wt⟩ := id hw
  have hk := wh.hk
  obtain ⟨k1, k2, r0, r2, hs3⟩ := id hk
  have hfs := hz.fans
  have hsz := hz.sit
  obtain ⟨⟨hz1, -⟩, -, ⟨rq, hrq, hrq2, hrm⟩, hz4, ⟨hz6, -⟩, hz7, hz8, ⟨hz10, -⟩, ⟨hz12, -⟩, ⟨hz14, -⟩⟩ := id hz
  have hfan := hpl.1
  have hsit := hpl.2.1
  have h13 := hpl.1.1
  have h14 := hpl.2.1.1
  have hz00 := hpl.2.2.2
  obtain ⟨n0, ⟨n1, n2, n3, n4, n5⟩, m0, m1, m2, m3, m4⟩ := id wn
  obtain ⟨h30, ⟨h31, h32, h33, h34, h35⟩, h36, h37, h38, h39, h3a⟩ := id hs3
  refine x_enter (own := RX11) (L := [_, _, _, _]) (by decide +kernel) rfl (by exact Nat.le_of_ble_eq_true rfl) rfl (fun p e R s m args below meth c Z hZ hC hR hin => ?_)
  refine x_aload_n (pc := 0) hC dX11_greatestChanged_0 rfl ?_
  refine x_getr (K := 3) (pc := 1) hC fX11_28_11 (by assumption) dX11_greatestChanged_1 rfl rfl (by assumption) ?_
  refine x_aload_n (pc := 4) hC dX11_greatestChanged_4 rfl ?_
  refine x_getr (K := 0) (pc := 5) hC fX11_12_11 (by assumption) dX11_greatestChanged_5 rfl rfl (by assumption) ?_
  refine x_getr (K := 2) (pc := 8) hC fX11_108_1 (by assumption) dX11_greatestChanged_8 rfl rfl (by assumption) ?_
  refine x_callV (As := [_]) (Bs := [_]) (pc := 11) hC (c_resembleS E wn hs3 (by omega) hsz hsit) wX11_177_5 pX5_resemble (by assumption) rfl rfl (by exact Nat.le_of_ble_eq_true rfl) hR (by decide) (by decide) (by decide) rfl dX11_greatestChanged_11 (fun r11 σ11 ρ11 ks11 q11 => ?_)
  obtain ⟨rfl, hρ11, hks11, g1, g2, g3, g4⟩ := q11
  obtain rfl := hρ11.symm
  obtain rfl := hks11.symm
  have hnx : Nx σ σ11 := fun p' hp => g1 p' (by omega) (by omega) (by omega) (by omega) (by omega)
  have hsz0 : SZ σ11 3 4 z := (hz.nx (by decide) hnx).sit
  refine x_aload_n (pc := 14) hC dX11_greatestChanged_14 rfl ?_
  refine x_getr (K := 3) (pc := 15) hC fX11_28_11 (by assumption) dX11_greatestChanged_15 rfl rfl (by assumption) ?_
  refine x_getr (K := 0) (pc := 18) hC fX11_130_5 (by assumption) dX11_greatestChanged_18 rfl rfl (by assumption) ?_
  refine x_iload_n (pc := 21) hC dX11_greatestChanged_21 rfl ?_
  refine x_aload_n (pc := 22) hC dX11_greatestChanged_22 rfl ?_
  refine x_getr (K := 0) (pc := 23) hC fX11_12_11 (by assumption) dX11_greatestChanged_23 rfl rfl (by assumption) ?_
  refine x_getr (K := 2) (pc := 26) hC fX11_108_1 (by assumption) dX11_greatestChanged_26 rfl rfl (by assumption) ?_
  refine x_getr (K := 0) (pc := 29) hC fX11_130_5 (by assumption) dX11_greatestChanged_29 rfl rfl (by assumption) ?_
  refine x_iload_n (pc := 32) hC dX11_greatestChanged_32 rfl ?_
  refine x_iald (pc := 33) hC (by assumption) (by omega) dX11_greatestChanged_33 ?_
  refine x_iast (pc := 34) hC (by assumption) (by omega) dX11_greatestChanged_34 ?_
  refine x_aload_n (pc := 35) hC dX11_greatestChanged_35 rfl ?_
  refine x_getr (K := 3) (pc := 36) hC fX11_28_11 (by assumption) dX11_greatestChanged_36 rfl rfl (by assumption) ?_
  refine x_getr (K := 0) (pc := 39) hC fX11_130_5 (by assumption) dX11_greatestChanged_39 rfl rfl (by assumption) ?_
  refine x_iload_n (pc := 42) hC dX11_greatestChanged_42 rfl ?_
  refine x_aload_n (pc := 43) hC dX11_greatestChanged_43 rfl ?_
  refine x_getr (K := 0) (pc := 44) hC fX11_12_11 (by assumption) dX11_greatestChanged_44 rfl rfl (by assumption) ?_
  refine x_getr (K := 2) (pc := 47) hC fX11_108_1 (by assumption) dX11_greatestChanged_47 rfl rfl (by assumption) ?_
  refine x_getr (K := 0) (pc := 50) hC fX11_130_5 (by assumption) dX11_greatestChanged_50 rfl rfl (by assumption) ?_
  refine x_iload_n (pc := 53) hC dX11_greatestChanged_53 rfl ?_
  refine x_iald (pc := 54) hC (by assumption) (by omega) dX11_greatestChanged_54 ?_
  refine x_iast (pc := 55) hC (by assumption) (by omega) dX11_greatestChanged_55 ?_
  obtain ⟨z1, hz1e⟩ : ∃ z1, z1 = swZ z a b := ⟨_, rfl⟩
  have hzz : ∀ j, j < 62 ∨ 68 ≤ j → z1 j = z j := fun j hj => by rw [hz1e, swZ_ne _ (by omega) (by omega)]
  have hpl1 : PlOk z1 := by rw [hz1e]; exact hpl.swap (by omega) (by omega)
  obtain ⟨ya, -, -⟩ := hsz0.2 a (by omega) (by omega)
  obtain ⟨yb, -, -⟩ := hsz0.2 b (by omega) (by omega)
  refine X.gen (P := fun σ2 => Nx σ σ2 ∧ SZ σ2 37 38 z1) ⟨fun p' hp => ((wr_of _ (by omega) _ _).trans (wr_of _ (by omega) _ _)).trans (hnx p' hp), ?_, fun j j0 j1 => ?_⟩ (fun σ2 h2 => ?_)
  · rw [wr_of _ (by decide), wr_of _ (by decide), hzz 14 (by omega)]; exact g3.1
  · rw [hzz 14 (by omega)] at j1
    obtain ⟨y0, y1, y2⟩ := g3.2 j j0 j1
    rw [hzz (1 + j) (by omega), hzz (7 + j) (by omega), wr_of _ (by decide : 38 + 1 ≠ 38), wr_of _ (by decide : 38 + 2 ≠ 38), wr_of _ (by decide : 38 + 1 ≠ 38), wr_of _ (by decide : 38 + 2 ≠ 38)]
    refine ⟨?_, y1, y2⟩
    rw [hz1e, swZ_eq]
    by_cases hjb : j = b
    · subst hjb; rw [wr_eq, up_eq, wr_p _ (by decide)]; exact ya
    · rw [wr_k _ _ _ hjb, up_ne _ (by omega)]
      by_cases hja : j = a
      · subst hja; rw [wr_eq, up_eq]; exact yb
      · rw [wr_k _ _ _ hja, up_ne _ (by omega)]; exact y0
  obtain ⟨hnx1, hsz1⟩ := h2
  obtain ⟨e13, e14, e0, e20, e22, e118⟩ := sits_fans hzz
  have hfs1 : FansAt σ2 ρ ks z1 := ((hz.nx (by decide) hnx1).fans).row h13.2 e13 e22
  have hfan1 : FansOk z1 := hpl1.1
  have hrm1 : RmP σ2 ρ ks rq z1 := ((hz.nx (by decide) hnx1).rm hrq).row e20 e118 hpl.2.2.1.1.1
  have hmsk : maskF z1 (z1 13).toNat = maskF z1 (z1 13).toNat := rfl
  refine x_aload_n (pc := 56) hC dX11_greatestChanged_56 rfl ?_
  refine x_getr (K := 0) (pc := 57) hC fX11_12_11 (by assumption) dX11_greatestChanged_57 rfl rfl (by assumption) ?_
  refine x_aload_n (pc := 60) hC dX11_greatestChanged_60 rfl ?_
  refine x_getr (K := 3) (pc := 61) hC fX11_28_11 (by assumption) dX11_greatestChanged_61 rfl rfl (by assumption) ?_
  refine x_aload_n (pc := 64) hC dX11_greatestChanged_64 rfl ?_
  refine x_getr (K := 0) (pc := 65) hC fX11_12_11 (by assumption) dX11_greatestChanged_65 rfl rfl (by assumption) ?_
  refine x_callV1 (As := []) (Bs := []) (pc := 68) hC (c_onMask E hk hfs1 hfan1) wX11_156_1 pX1_onMask (by assumption) rfl rfl (by exact Nat.le_of_ble_eq_true rfl) hR (by decide) (by decide) (by decide) rfl dX11_greatestChanged_68 ?_
  refine x_aload_n (pc := 71) hC dX11_greatestChanged_71 rfl ?_
  refine x_getr (K := 0) (pc := 72) hC fX11_12_11 (by assumption) dX11_greatestChanged_72 rfl rfl (by assumption) ?_
  refine x_geti (K := 7) (pc := 75) hC fX11_105_1 (by assumption) dX11_greatestChanged_75 rfl rfl ?_
  refine x_iload_n (pc := 78) hC dX11_greatestChanged_78 rfl ?_
  refine x_callV (As := [_, _, _, _]) (Bs := [_, _, _, _]) (pc := 79) hC (c_pass E hk hfs1 hpl1 hrq hrm1 wn hsz1 (mask_in (by omega)) (by rw [hnx1 1 (by omega), hz7]; exact e0) (by rw [hnx1 1 (by omega)]; omega) (n := n) (by omega)) wX11_160_1 pX1_pass (by assumption) rfl rfl (by exact Nat.le_of_ble_eq_true rfl) hR (by decide) (by decide) (by decide) rfl dX11_greatestChanged_79 (fun r79 σ79 ρ79 ks79 q79 => ?_)
  obtain ⟨rfl, hρ79, hks79, f1, f2, f3⟩ := q79
  obtain rfl := hρ79.symm
  obtain rfl := hks79.symm
  have hnx2 : Nx σ σ79 := fun p' hp => (f1 p' (by omega) (by omega) (by omega) (by omega)).trans (hnx1 p' hp)
  have hpp := (pass_play hpl1 hmsk (fun _ => 0) n.toNat (by omega)).1
  rw [hpp] at f2
  refine x_aload_n (pc := 82) hC dX11_greatestChanged_82 rfl ?_
  refine x_getr (K := 3) (pc := 83) hC fX11_28_11 (by assumption) dX11_greatestChanged_83 rfl rfl (by assumption) ?_
  refine x_callV1 (As := []) (Bs := []) (pc := 86) hC (c_greatest E wn f2 (play_pl hpl1 n.toNat (by omega)).1.2.1) wX11_171_5 pX5_greatest (by assumption) rfl rfl (by exact Nat.le_of_ble_eq_true rfl) hR (by decide) (by decide) (by decide) rfl dX11_greatestChanged_86 ?_
  refine x_ireturn hC hZ dX11_greatestChanged_89 (by decide) (by decide) ?_
  refine ⟨?_, hnx2, rfl, rfl⟩
  rw [play_great hpl1 (by omega)]
  unfold grF
  rw [← hz1e, (worse_in hpl1 n.toNat (by omega)).2.2.1]

set_option maxHeartbeats 4000000 in
set_option maxRecDepth 100000 in
theorem c_greatestRound (E : xE) {σ : xM} {ρ : xR} {ks : xKs} (hw : WK ks ρ) {z : zS} (hz : HZ σ ρ ks 1 z) (hpl : PlOk z) {kk0 n : Int} (hk0 : 1 ≤ kk0 ∧ kk0 ≤ 20) (hn : 0 ≤ n ∧ n ≤ 60) (ht : z 0 + 100 < 900000) (h14z : 0 < z 14) : Sp E yX11_greatestRound kX11_greatestRound 5 0 0 [.ref 0, .int (iI kk0), .int (iI n)] σ ρ ks (fun r σ' ρ' ks' => r = some (.int (iI (rbF z n.toNat kk0))) ∧ Nx σ σ' ∧ ρ' = ρ ∧ ks' = ks) := by
  obtain ⟨w0, w43, ⟨wr0, wr1, wr3, wr4, wr5⟩, wh, wk, wn, wt⟩ := id hw
  have hk := wh.hk
  obtain ⟨k1, k2, r0, r2, hs3⟩ := id hk
  have hfs := hz.fans
  have hsz := hz.sit
  obtain ⟨⟨hz1, -⟩, -, ⟨rq, hrq, hrq2, hrm⟩, hz4, ⟨hz6, -⟩, hz7, hz8, ⟨hz10, -⟩, ⟨hz12, -⟩, ⟨hz14, -⟩⟩ := id hz
  have hfan := hpl.1
  have hsit := hpl.2.1
  have h13 := hpl.1.1
  have h14 := hpl.2.1.1
  have hz00 := hpl.2.2.2
  obtain ⟨n0, ⟨n1, n2, n3, n4, n5⟩, m0, m1, m2, m3, m4⟩ := id wn
  refine x_enter (own := RX11) (L := [_, _, _, _, _]) (by decide +kernel) rfl (by exact Nat.le_of_ble_eq_true rfl) rfl (fun p e R s m args below meth c Z hZ hC hR hin => ?_)
  have loop : ∀ (i k : Nat) (j : Int) (σ' : xM), j = k → (k : Int) + i = n → Nx σ σ' → SZ σ' 37 38 (sqF (rndR kk0) z k) → X E p e R s m args below meth c Z 0 0 σ' ρ ks 16 [some (.ref 0), some (.int (iI kk0)), some (.int (iI n)), some (.int (iI j)), none] [] := by
    intro i
    induction i with
    | zero =>
      intro k j σ' hj hi hnx hsz1
      obtain ⟨p1, p2, p3⟩ := sq_pl (rndR kk0) hpl k (by omega)
      refine x_iload_n (pc := 16) hC dX11_greatestRound_16 rfl ?_
      refine x_iload_n (pc := 17) hC dX11_greatestRound_17 rfl ?_
      refine x_icmp_ge (tgt := 76) (pc := 18) hC (by omega) (by omega) dX11_greatestRound_18 (by decide) (fun c18 => ?_) (fun c18 => by (exfalso; omega))
      refine x_aload_n (pc := 76) hC dX11_greatestRound_76 rfl ?_
      refine x_getr (K := 3) (pc := 77) hC fX11_28_11 (by assumption) dX11_greatestRound_77 rfl rfl (by assumption) ?_
      refine x_callV1 (As := []) (Bs := []) (pc := 80) hC (c_greatest E wn hsz1 p1.2.1) wX11_171_5 pX5_greatest (by assumption) rfl rfl (by exact Nat.le_of_ble_eq_true rfl) hR (by decide) (by decide) (by decide) rfl dX11_greatestRound_80 ?_
      refine x_ireturn hC hZ dX11_greatestRound_83 (by decide) (by decide) ?_
      refine ⟨?_, hnx, rfl, rfl⟩
      rw [p3 14 (Or.inl (by decide)), show k = n.toNat by omega]
      rfl
    | succ i ih =>
      intro k j σ' hj hi hnx hsz1
      obtain ⟨p1, p2, p3⟩ := sq_pl (rndR kk0) hpl k (by omega)
      obtain ⟨y, hy⟩ : ∃ y, y = sqF (rndR kk0) z k := ⟨_, rfl⟩
      rw [← hy] at hsz1 p1 p2 p3
      have y14 : y 14 = z 14 := p3 14 (Or.inl (by decide))
      have hrm1 : RmP σ' ρ ks rq y := ((hz.nx (by decide) hnx).rm hrq).row (p3 _ (Or.inl (by decide))) (fun x hx => p3 x (Or.inl (by omega))) hpl.2.2.1.1.1
      obtain ⟨z5, zs⟩ := id hsz1
      have hd := tdiv_lt (t := j) (d := kk0) (by omega) (by omega)
      have hm := emod_in (t := j / kk0) (d := y 14) (by omega)
      obtain ⟨e0, -, -⟩ := zs (j / kk0 % y 14) hm.1 (by omega)
      have hs1 : σ' 1 7 = z 0 := by rw [hnx 1 (by omega)]; exact hz7
      refine x_iload_n (pc := 16) hC dX11_greatestRound_16 rfl ?_
      refine x_iload_n (pc := 17) hC dX11_greatestRound_17 rfl ?_
      refine x_icmp_ge (tgt := 76) (pc := 18) hC (by omega) (by omega) dX11_greatestRound_18 (by decide) (fun c18 => by (exfalso; omega)) (fun c18 => ?_)
      refine x_iload_n (pc := 21) hC dX11_greatestRound_21 rfl ?_
      refine x_iload_n (pc := 22) hC dX11_greatestRound_22 rfl ?_
      refine x_idiv (pc := 23) hC (by omega) dX11_greatestRound_23 ?_
      refine x_aload_n (pc := 24) hC dX11_greatestRound_24 rfl ?_
      refine x_getr (K := 3) (pc := 25) hC fX11_28_11 (by assumption) dX11_greatestRound_25 rfl rfl (by assumption) ?_
      refine x_geti (K := 5) (pc := 28) hC fX11_127_5 (by assumption) dX11_greatestRound_28 rfl rfl ?_
      rw [z5]
      refine x_irem (pc := 31) hC (by omega) dX11_greatestRound_31 ?_
      refine x_istore (L' := [_, _, _, _, _]) (pc := 32) hC dX11_greatestRound_32 rfl rfl ?_
      refine x_aload_n (pc := 34) hC dX11_greatestRound_34 rfl ?_
      refine x_getr (K := 3) (pc := 35) hC fX11_28_11 (by assumption) dX11_greatestRound_35 rfl rfl (by assumption) ?_
      refine x_aload_n (pc := 38) hC dX11_greatestRound_38 rfl ?_
      refine x_getr (K := 0) (pc := 39) hC fX11_12_11 (by assumption) dX11_greatestRound_39 rfl rfl (by assumption) ?_
      refine x_getr (K := 3) (pc := 42) hC fX11_62_1 (by assumption) dX11_greatestRound_42 rfl rfl (by assumption) ?_
      refine x_iconst (pc := 45) hC dX11_greatestRound_45 ?_
      refine x_aload_n (pc := 46) hC dX11_greatestRound_46 rfl ?_
      refine x_getr (K := 3) (pc := 47) hC fX11_28_11 (by assumption) dX11_greatestRound_47 rfl rfl (by assumption) ?_
      refine x_getr (K := 0) (pc := 50) hC fX11_130_5 (by assumption) dX11_greatestRound_50 rfl rfl (by assumption) ?_
      refine x_iload (pc := 53) hC dX11_greatestRound_53 rfl ?_
      refine x_iald (pc := 55) hC (by assumption) (by omega) dX11_greatestRound_55 ?_
      rw [e0]
      refine x_ishl (pc := 56) hC dX11_greatestRound_56 ?_
      refine x_iconst (pc := 57) hC dX11_greatestRound_57 ?_
      refine x_aload_n (pc := 58) hC dX11_greatestRound_58 rfl ?_
      refine x_getr (K := 0) (pc := 59) hC fX11_12_11 (by assumption) dX11_greatestRound_59 rfl rfl (by assumption) ?_
      refine x_geti (K := 7) (pc := 62) hC fX11_105_1 (by assumption) dX11_greatestRound_62 rfl rfl ?_
      refine x_iload_n (pc := 65) hC dX11_greatestRound_65 rfl ?_
      refine x_iadd (pc := 66) hC dX11_greatestRound_66 ?_
      refine x_callV (As := [_, _, _, _]) (Bs := [_, _, _, _]) (pc := 67) hC (c_sit E wn hsz1 p1.2.1 hrm1 p1.2.2.1 ⟨by decide, by decide⟩ (by rw [hs1]; omega) (by omega)) wX11_294_5 pX5_sit (by assumption) rfl rfl (by exact Nat.le_of_ble_eq_true rfl) hR (by decide) (by decide) (by decide) rfl dX11_greatestRound_67 (fun r67 σ67 ρ67 ks67 q67 => ?_)
      obtain ⟨rfl, hρ67, hks67, f1, f2, f3⟩ := q67
      obtain rfl := hρ67.symm
      obtain rfl := hks67.symm
      refine x_iinc (L' := [_, _, _, _, _]) (pc := 70) hC dX11_greatestRound_70 rfl rfl rfl ?_
      refine x_goto (tgt := 16) (pc := 73) hC dX11_greatestRound_73 (by decide) ?_
      refine X.drop (xLe_s (xLe_s (xLe_s (xLe_s (xLe_n xLe_0))))) (ih (k + 1) (j + 1) _ (by omega) (by omega) (fun p' hp => (f1 p' (by omega) (by omega) (by omega) (by omega)).trans (hnx p' hp)) ?_)
      rw [show sqF (rndR kk0) z (k + 1) = secF y (bShl 1 (y (62 + j / kk0 % y 14))) 1 by rw [hj, hy]; rfl]
      exact f2.sec p1.2.1
  refine x_aload_n (pc := 0) hC dX11_greatestRound_0 rfl ?_
  refine x_getr (K := 3) (pc := 1) hC fX11_28_11 (by assumption) dX11_greatestRound_1 rfl rfl (by assumption) ?_
  refine x_aload_n (pc := 4) hC dX11_greatestRound_4 rfl ?_
  refine x_getr (K := 0) (pc := 5) hC fX11_12_11 (by assumption) dX11_greatestRound_5 rfl rfl (by assumption) ?_
  refine x_getr (K := 2) (pc := 8) hC fX11_108_1 (by assumption) dX11_greatestRound_8 rfl rfl (by assumption) ?_
  refine x_callV (As := [_]) (Bs := [_]) (pc := 11) hC (c_resembleS E wn hs3 (by omega) hsz hsit) wX11_177_5 pX5_resemble (by assumption) rfl rfl (by exact Nat.le_of_ble_eq_true rfl) hR (by decide) (by decide) (by decide) rfl dX11_greatestRound_11 (fun r11 σ11 ρ11 ks11 q11 => ?_)
  obtain ⟨rfl, hρ11, hks11, g1, g2, g3, g4⟩ := q11
  obtain rfl := hρ11.symm
  obtain rfl := hks11.symm
  have hnx : Nx σ σ11 := fun p' hp => g1 p' (by omega) (by omega) (by omega) (by omega) (by omega)
  refine x_iconst (pc := 14) hC dX11_greatestRound_14 ?_
  refine x_istore_n (L' := [_, _, _, _, _]) (pc := 15) hC dX11_greatestRound_15 rfl rfl ?_
  exact loop n.toNat 0 0 _ rfl (by omega) hnx g3
