/-! THE CLASS: its small methods, and Sitters -/
/-- a Sitters object at place s, its arrays from place b on -/
def SK (ks : xKs) (ρ : xR) (s b : Nat) : Prop := ks[s]? = some (0, 5) ∧ (ks[b]? = some (1, 6) ∧ ks[b + 1]? = some (1, 6) ∧ ks[b + 2]? = some (1, 6) ∧ ks[b + 3]? = some (1, 6) ∧ ks[b + 4]? = some (1, 6)) ∧ ρ s 0 = some b ∧ ρ s 1 = some (b + 1) ∧ ρ s 2 = some (b + 2) ∧ ρ s 3 = some (b + 3) ∧ ρ s 4 = some (b + 4)
/-- it shows the sitters of row z -/
def SZ (σ : xM) (s b : Nat) (z : zS) : Prop := σ s 5 = z 14 ∧ ∀ j, 0 ≤ j → j < z 14 → σ b j = z (62 + j) ∧ σ (b + 1) j = z (1 + j) ∧ σ (b + 2) j = z (7 + j)
set_option maxHeartbeats 4000000 in
set_option maxRecDepth 100000 in
theorem c_isIn (E : xE) {σ : xM} {ρ : xR} {ks : xKs} {v lo hi : Int} (hv : rg v) (hl : rg lo) (hh : rg hi) : Sp E yX11_isIn kX11_isIn 0 0 0 [.int (iI v), .int (iI lo), .int (iI hi)] σ ρ ks (Fn (some (.int (iI (bI (lo ≤ v ∧ v ≤ hi))))) (σ) ρ ks) := by
  refine x_enter (own := RX11) (L := [_, _, _]) (by decide +kernel) rfl (by exact Nat.le_of_ble_eq_true rfl) rfl (fun p e R s m args below meth c Z hZ hC hR hin => ?_)
  refine x_iload_n (pc := 0) hC dX11_isIn_0 rfl ?_
  refine x_iload_n (pc := 1) hC dX11_isIn_1 rfl ?_
  refine x_icmp_lt (tgt := 14) (pc := 2) hC (by omega) (by omega) dX11_isIn_2 (by decide) (fun c2 => ?_) (fun c2 => ?_)
  · refine x_iconst (pc := 14) hC dX11_isIn_14 ?_
    refine x_zreturn hC hZ (by omega) dX11_isIn_15 (by decide) (by decide) ?_
    exact ⟨congrArg (fun z => some (Value.int (iI z))) (by unfold bI; split <;> omega), rfl, rfl, rfl⟩
  · refine x_iload_n (pc := 5) hC dX11_isIn_5 rfl ?_
    refine x_iload_n (pc := 6) hC dX11_isIn_6 rfl ?_
    refine x_icmp_gt (tgt := 14) (pc := 7) hC (by omega) (by omega) dX11_isIn_7 (by decide) (fun c7 => ?_) (fun c7 => ?_)
    · refine x_iconst (pc := 14) hC dX11_isIn_14 ?_
      refine x_zreturn hC hZ (by omega) dX11_isIn_15 (by decide) (by decide) ?_
      exact ⟨congrArg (fun z => some (Value.int (iI z))) (by unfold bI; split <;> omega), rfl, rfl, rfl⟩
    · refine x_iconst (pc := 10) hC dX11_isIn_10 ?_
      refine x_goto (tgt := 15) (pc := 11) hC dX11_isIn_11 (by decide) ?_
      refine x_zreturn hC hZ (by omega) dX11_isIn_15 (by decide) (by decide) ?_
      exact ⟨congrArg (fun z => some (Value.int (iI z))) (by unfold bI; split <;> omega), rfl, rfl, rfl⟩

set_option maxHeartbeats 4000000 in
set_option maxRecDepth 100000 in
theorem c_isEither (E : xE) {σ : xM} {ρ : xR} {ks : xKs} {v : Int} (hv : rg v) : Sp E yX11_isEither kX11_isEither 0 0 0 [.int (iI v)] σ ρ ks (Fn (some (.int (iI (bI (0 ≤ v ∧ v ≤ 1))))) (σ) ρ ks) := by
  refine x_enter (own := RX11) (L := [_]) (by decide +kernel) rfl (by exact Nat.le_of_ble_eq_true rfl) rfl (fun p e R s m args below meth c Z hZ hC hR hin => ?_)
  refine x_iload_n (pc := 0) hC dX11_isEither_0 rfl ?_
  refine x_if_eq (tgt := 9) (pc := 1) hC (by omega) dX11_isEither_1 (by decide) (fun c1 => ?_) (fun c1 => ?_)
  · refine x_iconst (pc := 9) hC dX11_isEither_9 ?_
    refine x_goto (tgt := 14) (pc := 10) hC dX11_isEither_10 (by decide) ?_
    refine x_zreturn hC hZ (by omega) dX11_isEither_14 (by decide) (by decide) ?_
    exact ⟨congrArg (fun z => some (Value.int (iI z))) (by unfold bI; split <;> omega), rfl, rfl, rfl⟩
  · refine x_iload_n (pc := 4) hC dX11_isEither_4 rfl ?_
    refine x_iconst (pc := 5) hC dX11_isEither_5 ?_
    refine x_icmp_ne (tgt := 13) (pc := 6) hC (by omega) (by omega) dX11_isEither_6 (by decide) (fun c6 => ?_) (fun c6 => ?_)
    · refine x_iconst (pc := 13) hC dX11_isEither_13 ?_
      refine x_zreturn hC hZ (by omega) dX11_isEither_14 (by decide) (by decide) ?_
      exact ⟨congrArg (fun z => some (Value.int (iI z))) (by unfold bI; split <;> omega), rfl, rfl, rfl⟩
    · refine x_iconst (pc := 9) hC dX11_isEither_9 ?_
      refine x_goto (tgt := 14) (pc := 10) hC dX11_isEither_10 (by decide) ?_
      refine x_zreturn hC hZ (by omega) dX11_isEither_14 (by decide) (by decide) ?_
      exact ⟨congrArg (fun z => some (Value.int (iI z))) (by unfold bI; split <;> omega), rfl, rfl, rfl⟩

set_option maxHeartbeats 4000000 in
set_option maxRecDepth 100000 in
theorem c_isPlace (E : xE) {σ : xM} {ρ : xR} {ks : xKs} {v : Int} (hv : rg v) : Sp E yX11_isPlace kX11_isPlace 0 0 0 [.int (iI v)] σ ρ ks (Fn (some (.int (iI (bI (0 ≤ v ∧ v ≤ 9))))) (σ) ρ ks) := by
  refine x_enter (own := RX11) (L := [_]) (by decide +kernel) rfl (by exact Nat.le_of_ble_eq_true rfl) rfl (fun p e R s m args below meth c Z hZ hC hR hin => ?_)
  refine x_iload_n (pc := 0) hC dX11_isPlace_0 rfl ?_
  refine x_if_lt (tgt := 14) (pc := 1) hC (by omega) dX11_isPlace_1 (by decide) (fun c1 => ?_) (fun c1 => ?_)
  · refine x_iconst (pc := 14) hC dX11_isPlace_14 ?_
    refine x_zreturn hC hZ (by omega) dX11_isPlace_15 (by decide) (by decide) ?_
    exact ⟨congrArg (fun z => some (Value.int (iI z))) (by unfold bI; split <;> omega), rfl, rfl, rfl⟩
  · refine x_iload_n (pc := 4) hC dX11_isPlace_4 rfl ?_
    refine x_bipush (pc := 5) hC dX11_isPlace_5 (by decide +kernel) ?_
    refine x_icmp_ge (tgt := 14) (pc := 7) hC (by omega) (by omega) dX11_isPlace_7 (by decide) (fun c7 => ?_) (fun c7 => ?_)
    · refine x_iconst (pc := 14) hC dX11_isPlace_14 ?_
      refine x_zreturn hC hZ (by omega) dX11_isPlace_15 (by decide) (by decide) ?_
      exact ⟨congrArg (fun z => some (Value.int (iI z))) (by unfold bI; split <;> omega), rfl, rfl, rfl⟩
    · refine x_iconst (pc := 10) hC dX11_isPlace_10 ?_
      refine x_goto (tgt := 15) (pc := 11) hC dX11_isPlace_11 (by decide) ?_
      refine x_zreturn hC hZ (by omega) dX11_isPlace_15 (by decide) (by decide) ?_
      exact ⟨congrArg (fun z => some (Value.int (iI z))) (by unfold bI; split <;> omega), rfl, rfl, rfl⟩

set_option maxHeartbeats 4000000 in
set_option maxRecDepth 100000 in
theorem c_isHeat (E : xE) {σ : xM} {ρ : xR} {ks : xKs} {v : Int} (hv : rg v) : Sp E yX11_isHeat kX11_isHeat 0 0 0 [.int (iI v)] σ ρ ks (Fn (some (.int (iI (bI (0 ≤ v ∧ v ≤ 99))))) (σ) ρ ks) := by
  refine x_enter (own := RX11) (L := [_]) (by decide +kernel) rfl (by exact Nat.le_of_ble_eq_true rfl) rfl (fun p e R s m args below meth c Z hZ hC hR hin => ?_)
  refine x_iload_n (pc := 0) hC dX11_isHeat_0 rfl ?_
  refine x_if_lt (tgt := 14) (pc := 1) hC (by omega) dX11_isHeat_1 (by decide) (fun c1 => ?_) (fun c1 => ?_)
  · refine x_iconst (pc := 14) hC dX11_isHeat_14 ?_
    refine x_zreturn hC hZ (by omega) dX11_isHeat_15 (by decide) (by decide) ?_
    exact ⟨congrArg (fun z => some (Value.int (iI z))) (by unfold bI; split <;> omega), rfl, rfl, rfl⟩
  · refine x_iload_n (pc := 4) hC dX11_isHeat_4 rfl ?_
    refine x_bipush (pc := 5) hC dX11_isHeat_5 (by decide +kernel) ?_
    refine x_icmp_gt (tgt := 14) (pc := 7) hC (by omega) (by omega) dX11_isHeat_7 (by decide) (fun c7 => ?_) (fun c7 => ?_)
    · refine x_iconst (pc := 14) hC dX11_isHeat_14 ?_
      refine x_zreturn hC hZ (by omega) dX11_isHeat_15 (by decide) (by decide) ?_
      exact ⟨congrArg (fun z => some (Value.int (iI z))) (by unfold bI; split <;> omega), rfl, rfl, rfl⟩
    · refine x_iconst (pc := 10) hC dX11_isHeat_10 ?_
      refine x_goto (tgt := 15) (pc := 11) hC dX11_isHeat_11 (by decide) ?_
      refine x_zreturn hC hZ (by omega) dX11_isHeat_15 (by decide) (by decide) ?_
      exact ⟨congrArg (fun z => some (Value.int (iI z))) (by unfold bI; split <;> omega), rfl, rfl, rfl⟩

set_option maxHeartbeats 4000000 in
set_option maxRecDepth 100000 in
theorem c_isSetting (E : xE) {σ : xM} {ρ : xR} {ks : xKs} {a b c : Int} (ha : rg a) (hb : rg b) (hc : rg c) : Sp E yX11_isSetting kX11_isSetting 1 0 0 [.int (iI a), .int (iI b), .int (iI c)] σ ρ ks (Fn (some (.int (iI (bI ((0 ≤ a ∧ a ≤ 9) ∧ (0 ≤ b ∧ b ≤ 9) ∧ a ≤ b ∧ 1 ≤ c ∧ c ≤ 4))))) (σ) ρ ks) := by
  refine x_enter (own := RX11) (L := [_, _, _]) (by decide +kernel) rfl (by exact Nat.le_of_ble_eq_true rfl) rfl (fun p e R s m args below meth c Z hZ hC hR hin => ?_)
  refine x_iload_n (pc := 0) hC dX11_isSetting_0 rfl ?_
  refine x_callS1 (As := [_]) (Bs := [_]) (pc := 1) hC (c_isPlace E (by omega)) wX11_115 pX11_isPlace rfl rfl (by exact Nat.le_of_ble_eq_true rfl) hR (by decide) (by decide) (by decide) rfl dX11_isSetting_1 ?_
  refine x_ifB_eq (tgt := 33) (pc := 4) hC  dX11_isSetting_4 (by decide) (fun c4 => ?_) (fun c4 => ?_)
  · refine x_iconst (pc := 33) hC dX11_isSetting_33 ?_
    refine x_zreturn hC hZ (by omega) dX11_isSetting_34 (by decide) (by decide) ?_
    exact ⟨congrArg (fun z => some (Value.int (iI z))) (by unfold bI; split <;> omega), rfl, rfl, rfl⟩
  · refine x_iload_n (pc := 7) hC dX11_isSetting_7 rfl ?_
    refine x_callS1 (As := [_]) (Bs := [_]) (pc := 8) hC (c_isPlace E (by omega)) wX11_115 pX11_isPlace rfl rfl (by exact Nat.le_of_ble_eq_true rfl) hR (by decide) (by decide) (by decide) rfl dX11_isSetting_8 ?_
    refine x_ifB_eq (tgt := 33) (pc := 11) hC  dX11_isSetting_11 (by decide) (fun c11 => ?_) (fun c11 => ?_)
    · refine x_iconst (pc := 33) hC dX11_isSetting_33 ?_
      refine x_zreturn hC hZ (by omega) dX11_isSetting_34 (by decide) (by decide) ?_
      exact ⟨congrArg (fun z => some (Value.int (iI z))) (by unfold bI; split <;> omega), rfl, rfl, rfl⟩
    · refine x_iload_n (pc := 14) hC dX11_isSetting_14 rfl ?_
      refine x_iload_n (pc := 15) hC dX11_isSetting_15 rfl ?_
      refine x_icmp_gt (tgt := 33) (pc := 16) hC (by omega) (by omega) dX11_isSetting_16 (by decide) (fun c16 => ?_) (fun c16 => ?_)
      · refine x_iconst (pc := 33) hC dX11_isSetting_33 ?_
        refine x_zreturn hC hZ (by omega) dX11_isSetting_34 (by decide) (by decide) ?_
        exact ⟨congrArg (fun z => some (Value.int (iI z))) (by unfold bI; split <;> omega), rfl, rfl, rfl⟩
      · refine x_iload_n (pc := 19) hC dX11_isSetting_19 rfl ?_
        refine x_iconst (pc := 20) hC dX11_isSetting_20 ?_
        refine x_icmp_lt (tgt := 33) (pc := 21) hC (by omega) (by omega) dX11_isSetting_21 (by decide) (fun c21 => ?_) (fun c21 => ?_)
        · refine x_iconst (pc := 33) hC dX11_isSetting_33 ?_
          refine x_zreturn hC hZ (by omega) dX11_isSetting_34 (by decide) (by decide) ?_
          exact ⟨congrArg (fun z => some (Value.int (iI z))) (by unfold bI; split <;> omega), rfl, rfl, rfl⟩
        · refine x_iload_n (pc := 24) hC dX11_isSetting_24 rfl ?_
          refine x_iconst (pc := 25) hC dX11_isSetting_25 ?_
          refine x_icmp_gt (tgt := 33) (pc := 26) hC (by omega) (by omega) dX11_isSetting_26 (by decide) (fun c26 => ?_) (fun c26 => ?_)
          · refine x_iconst (pc := 33) hC dX11_isSetting_33 ?_
            refine x_zreturn hC hZ (by omega) dX11_isSetting_34 (by decide) (by decide) ?_
            exact ⟨congrArg (fun z => some (Value.int (iI z))) (by unfold bI; split <;> omega), rfl, rfl, rfl⟩
          · refine x_iconst (pc := 29) hC dX11_isSetting_29 ?_
            refine x_goto (tgt := 34) (pc := 30) hC dX11_isSetting_30 (by decide) ?_
            refine x_zreturn hC hZ (by omega) dX11_isSetting_34 (by decide) (by decide) ?_
            exact ⟨congrArg (fun z => some (Value.int (iI z))) (by unfold bI; split <;> omega), rfl, rfl, rfl⟩

set_option maxHeartbeats 4000000 in
set_option maxRecDepth 100000 in
theorem c_has (E : xE) {σ : xM} {ρ : xR} {ks : xKs} {q b : Nat} {z : zS} (hsk : SK ks ρ q b) (hsz : SZ σ q b z) (hsit : SitOk z) {v : Int} (hv : rg v) : Sp E yX5_has kX5_has 0 0 0 [.ref q, .int (iI v)] σ ρ ks (Fn (some (.int (iI (bI (0 ≤ v ∧ v ≤ z 14 - 1))))) (σ) ρ ks) := by
  obtain ⟨ko, ⟨kb0, kb1, kb2, kb3, kb4⟩, r0, r1, r2, r3, r4⟩ := id hsk
  obtain ⟨z5, zs⟩ := id hsz
  have hs14 := hsit.1
  refine x_enter (own := RX5) (L := [_, _]) (by decide +kernel) rfl (by exact Nat.le_of_ble_eq_true rfl) rfl (fun p e R s m args below meth c Z hZ hC hR hin => ?_)
  refine x_iload_n (pc := 0) hC dX5_has_0 rfl ?_
  refine x_if_lt (tgt := 16) (pc := 1) hC (by omega) dX5_has_1 (by decide) (fun c1 => ?_) (fun c1 => ?_)
  · refine x_iconst (pc := 16) hC dX5_has_16 ?_
    refine x_zreturn hC hZ (by omega) dX5_has_17 (by decide) (by decide) ?_
    exact ⟨congrArg (fun z => some (Value.int (iI z))) (by unfold bI; split <;> omega), rfl, rfl, rfl⟩
  · refine x_iload_n (pc := 4) hC dX5_has_4 rfl ?_
    refine x_aload_n (pc := 5) hC dX5_has_5 rfl ?_
    refine x_geti (K := 5) (pc := 6) hC fX5_27_5 (by assumption) dX5_has_6 rfl rfl ?_
    refine x_icmp_ge (tgt := 16) (pc := 9) hC (by omega) (by omega) dX5_has_9 (by decide) (fun c9 => ?_) (fun c9 => ?_)
    · refine x_iconst (pc := 16) hC dX5_has_16 ?_
      refine x_zreturn hC hZ (by omega) dX5_has_17 (by decide) (by decide) ?_
      exact ⟨congrArg (fun z => some (Value.int (iI z))) (by unfold bI; split <;> omega), rfl, rfl, rfl⟩
    · refine x_iconst (pc := 12) hC dX5_has_12 ?_
      refine x_goto (tgt := 17) (pc := 13) hC dX5_has_13 (by decide) ?_
      refine x_zreturn hC hZ (by omega) dX5_has_17 (by decide) (by decide) ?_
      exact ⟨congrArg (fun z => some (Value.int (iI z))) (by unfold bI; split <;> omega), rfl, rfl, rfl⟩

set_option maxHeartbeats 4000000 in
set_option maxRecDepth 100000 in
theorem c_greatest (E : xE) {σ : xM} {ρ : xR} {ks : xKs} {q b : Nat} {z : zS} (hsk : SK ks ρ q b) (hsz : SZ σ q b z) (hsit : SitOk z) : Sp E yX5_greatest kX5_greatest 1 0 0 [.ref q] σ ρ ks (Fn (some (.int (iI (greatF z (z 14).toNat)))) (σ) ρ ks) := by
  obtain ⟨ko, ⟨kb0, kb1, kb2, kb3, kb4⟩, r0, r1, r2, r3, r4⟩ := id hsk
  obtain ⟨z5, zs⟩ := id hsz
  have hs14 := hsit.1
  refine x_enter (own := RX5) (L := [_, _, _]) (by decide +kernel) rfl (by exact Nat.le_of_ble_eq_true rfl) rfl (fun p e R s m args below meth c Z hZ hC hR hin => ?_)
  have loop : ∀ (i k : Nat) (j a : Int), j = k → a = greatF z k → (k : Int) + i = z 14 → X E p e R s m args below meth c Z 0 0 σ ρ ks 4 [some (.ref q), some (.int (iI a)), some (.int (iI j))] [] := by
    intro i
    induction i with
    | zero =>
      intro k j a hj ha hi
      refine x_iload_n (pc := 4) hC dX5_greatest_4 rfl ?_
      refine x_aload_n (pc := 5) hC dX5_greatest_5 rfl ?_
      refine x_geti (K := 5) (pc := 6) hC fX5_27_5 (by assumption) dX5_greatest_6 rfl rfl ?_
      refine x_icmp_ge (tgt := 29) (pc := 9) hC (by omega) (by omega) dX5_greatest_9 (by decide) (fun c9 => ?_) (fun c9 => by (exfalso; omega))
      refine x_iload_n (pc := 29) hC dX5_greatest_29 rfl ?_
      refine x_ireturn hC hZ dX5_greatest_30 (by decide) (by decide) ?_
      refine ⟨congrArg (fun z => some (Value.int (iI z))) ?_, rfl, rfl, rfl⟩
      rw [ha, show (z 14).toNat = k by omega]
    | succ i ih =>
      intro k j a hj ha hi
      obtain ⟨e0, e1, e2⟩ := zs j (by omega) (by omega)
      have hsk2 := (hsit.2 j (by omega) (by omega)).2.1
      have hgr := greatF_in (z := z) (N := 6) (fun p hp => (hsit.2 p (by omega) (by omega)).2.1) k (by omega)
      rw [← ha] at hgr
      refine x_iload_n (pc := 4) hC dX5_greatest_4 rfl ?_
      refine x_aload_n (pc := 5) hC dX5_greatest_5 rfl ?_
      refine x_geti (K := 5) (pc := 6) hC fX5_27_5 (by assumption) dX5_greatest_6 rfl rfl ?_
      refine x_icmp_ge (tgt := 29) (pc := 9) hC (by omega) (by omega) dX5_greatest_9 (by decide) (fun c9 => by (exfalso; omega)) (fun c9 => ?_)
      refine x_iload_n (pc := 12) hC dX5_greatest_12 rfl ?_
      refine x_aload_n (pc := 13) hC dX5_greatest_13 rfl ?_
      refine x_getr (K := 1) (pc := 14) hC fX5_15_5 (by assumption) dX5_greatest_14 rfl rfl (by assumption) ?_
      refine x_iload_n (pc := 17) hC dX5_greatest_17 rfl ?_
      refine x_iald (pc := 18) hC (by assumption) (by omega) dX5_greatest_18 ?_
      refine x_max (pc := 19) hC wX5_49 hR (by decide) (by decide) rfl (by exact Nat.le_of_ble_eq_true rfl) (by omega) (by omega) dX5_greatest_19 ?_
      refine x_istore_n (L' := [_, _, _]) (pc := 22) hC dX5_greatest_22 rfl rfl ?_
      refine x_iinc (L' := [_, _, _]) (pc := 23) hC dX5_greatest_23 rfl rfl rfl ?_
      refine x_goto (tgt := 4) (pc := 26) hC dX5_greatest_26 (by decide) ?_
      rw [e1]
      refine ih (k + 1) (j + 1) _ (by omega) ?_ (by omega)
      show _ = mx2 _ _
      rw [← ha, hj]
      rfl
  refine x_iconst (pc := 0) hC dX5_greatest_0 ?_
  refine x_istore_n (L' := [_, _, _]) (pc := 1) hC dX5_greatest_1 rfl rfl ?_
  refine x_iconst (pc := 2) hC dX5_greatest_2 ?_
  refine x_istore_n (L' := [_, _, _]) (pc := 3) hC dX5_greatest_3 rfl rfl ?_
  exact loop (z 14).toNat 0 0 0 rfl rfl (by omega)

set_option maxHeartbeats 4000000 in
set_option maxRecDepth 100000 in
theorem c_least (E : xE) {σ : xM} {ρ : xR} {ks : xKs} {q b : Nat} {z : zS} (hsk : SK ks ρ q b) (hsz : SZ σ q b z) (hsit : SitOk z) : Sp E yX5_least kX5_least 1 0 0 [.ref q] σ ρ ks (Fn (some (.int (iI (lowH z (z 14).toNat)))) (σ) ρ ks) := by
  obtain ⟨ko, ⟨kb0, kb1, kb2, kb3, kb4⟩, r0, r1, r2, r3, r4⟩ := id hsk
  obtain ⟨z5, zs⟩ := id hsz
  have hs14 := hsit.1
  refine x_enter (own := RX5) (L := [_, _, _]) (by decide +kernel) rfl (by exact Nat.le_of_ble_eq_true rfl) rfl (fun p e R s m args below meth c Z hZ hC hR hin => ?_)
  have loop : ∀ (i k : Nat) (j a : Int), j = k → a = lowH z k → (k : Int) + i = z 14 → X E p e R s m args below meth c Z 0 0 σ ρ ks 5 [some (.ref q), some (.int (iI a)), some (.int (iI j))] [] := by
    intro i
    induction i with
    | zero =>
      intro k j a hj ha hi
      refine x_iload_n (pc := 5) hC dX5_least_5 rfl ?_
      refine x_aload_n (pc := 6) hC dX5_least_6 rfl ?_
      refine x_geti (K := 5) (pc := 7) hC fX5_27_5 (by assumption) dX5_least_7 rfl rfl ?_
      refine x_icmp_ge (tgt := 30) (pc := 10) hC (by omega) (by omega) dX5_least_10 (by decide) (fun c10 => ?_) (fun c10 => by (exfalso; omega))
      refine x_iload_n (pc := 30) hC dX5_least_30 rfl ?_
      refine x_ireturn hC hZ dX5_least_31 (by decide) (by decide) ?_
      refine ⟨congrArg (fun z => some (Value.int (iI z))) ?_, rfl, rfl, rfl⟩
      rw [ha, show (z 14).toNat = k by omega]
    | succ i ih =>
      intro k j a hj ha hi
      obtain ⟨e0, e1, e2⟩ := zs j (by omega) (by omega)
      have hsk2 := (hsit.2 j (by omega) (by omega)).2.1
      have hgr := lowH_in hsit k (by omega)
      rw [← ha] at hgr
      refine x_iload_n (pc := 5) hC dX5_least_5 rfl ?_
      refine x_aload_n (pc := 6) hC dX5_least_6 rfl ?_
      refine x_geti (K := 5) (pc := 7) hC fX5_27_5 (by assumption) dX5_least_7 rfl rfl ?_
      refine x_icmp_ge (tgt := 30) (pc := 10) hC (by omega) (by omega) dX5_least_10 (by decide) (fun c10 => by (exfalso; omega)) (fun c10 => ?_)
      refine x_iload_n (pc := 13) hC dX5_least_13 rfl ?_
      refine x_aload_n (pc := 14) hC dX5_least_14 rfl ?_
      refine x_getr (K := 1) (pc := 15) hC fX5_15_5 (by assumption) dX5_least_15 rfl rfl (by assumption) ?_
      refine x_iload_n (pc := 18) hC dX5_least_18 rfl ?_
      refine x_iald (pc := 19) hC (by assumption) (by omega) dX5_least_19 ?_
      refine x_min (pc := 20) hC wX5_37 hR (by decide) (by decide) rfl (by exact Nat.le_of_ble_eq_true rfl) (by omega) (by omega) dX5_least_20 ?_
      refine x_istore_n (L' := [_, _, _]) (pc := 23) hC dX5_least_23 rfl rfl ?_
      refine x_iinc (L' := [_, _, _]) (pc := 24) hC dX5_least_24 rfl rfl rfl ?_
      refine x_goto (tgt := 5) (pc := 27) hC dX5_least_27 (by decide) ?_
      rw [e1]
      refine ih (k + 1) (j + 1) _ (by omega) ?_ (by omega)
      show _ = if _ then _ else _
      rw [← ha, hj]
      rfl
  refine x_bipush (pc := 0) hC dX5_least_0 (by decide +kernel) ?_
  refine x_istore_n (L' := [_, _, _]) (pc := 2) hC dX5_least_2 rfl rfl ?_
  refine x_iconst (pc := 3) hC dX5_least_3 ?_
  refine x_istore_n (L' := [_, _, _]) (pc := 4) hC dX5_least_4 rfl rfl ?_
  exact loop (z 14).toNat 0 0 99 rfl rfl (by omega)

set_option maxHeartbeats 4000000 in
set_option maxRecDepth 100000 in
theorem c_together (E : xE) {σ : xM} {ρ : xR} {ks : xKs} {q b : Nat} {z : zS} (hsk : SK ks ρ q b) (hsz : SZ σ q b z) (hsit : SitOk z) : Sp E yX5_together kX5_together 0 0 0 [.ref q] σ ρ ks (Fn (some (.int (iI (allF z (z 14).toNat)))) (σ) ρ ks) := by
  obtain ⟨ko, ⟨kb0, kb1, kb2, kb3, kb4⟩, r0, r1, r2, r3, r4⟩ := id hsk
  obtain ⟨z5, zs⟩ := id hsz
  have hs14 := hsit.1
  refine x_enter (own := RX5) (L := [_, _, _]) (by decide +kernel) rfl (by exact Nat.le_of_ble_eq_true rfl) rfl (fun p e R s m args below meth c Z hZ hC hR hin => ?_)
  have loop : ∀ (i k : Nat) (j a : Int), j = k → a = allF z k → (k : Int) + i = z 14 → X E p e R s m args below meth c Z 0 0 σ ρ ks 4 [some (.ref q), some (.int (iI a)), some (.int (iI j))] [] := by
    intro i
    induction i with
    | zero =>
      intro k j a hj ha hi
      refine x_iload_n (pc := 4) hC dX5_together_4 rfl ?_
      refine x_aload_n (pc := 5) hC dX5_together_5 rfl ?_
      refine x_geti (K := 5) (pc := 6) hC fX5_27_5 (by assumption) dX5_together_6 rfl rfl ?_
      refine x_icmp_ge (tgt := 27) (pc := 9) hC (by omega) (by omega) dX5_together_9 (by decide) (fun c9 => ?_) (fun c9 => by (exfalso; omega))
      refine x_iload_n (pc := 27) hC dX5_together_27 rfl ?_
      refine x_ireturn hC hZ dX5_together_28 (by decide) (by decide) ?_
      refine ⟨congrArg (fun z => some (Value.int (iI z))) ?_, rfl, rfl, rfl⟩
      rw [ha, show (z 14).toNat = k by omega]
    | succ i ih =>
      intro k j a hj ha hi
      obtain ⟨e0, e1, e2⟩ := zs j (by omega) (by omega)
      have hsk2 := (hsit.2 j (by omega) (by omega)).2.1
      refine x_iload_n (pc := 4) hC dX5_together_4 rfl ?_
      refine x_aload_n (pc := 5) hC dX5_together_5 rfl ?_
      refine x_geti (K := 5) (pc := 6) hC fX5_27_5 (by assumption) dX5_together_6 rfl rfl ?_
      refine x_icmp_ge (tgt := 27) (pc := 9) hC (by omega) (by omega) dX5_together_9 (by decide) (fun c9 => by (exfalso; omega)) (fun c9 => ?_)
      refine x_iload_n (pc := 12) hC dX5_together_12 rfl ?_
      refine x_aload_n (pc := 13) hC dX5_together_13 rfl ?_
      refine x_getr (K := 1) (pc := 14) hC fX5_15_5 (by assumption) dX5_together_14 rfl rfl (by assumption) ?_
      refine x_iload_n (pc := 17) hC dX5_together_17 rfl ?_
      refine x_iald (pc := 18) hC (by assumption) (by omega) dX5_together_18 ?_
      refine x_iadd (pc := 19) hC dX5_together_19 ?_
      refine x_istore_n (L' := [_, _, _]) (pc := 20) hC dX5_together_20 rfl rfl ?_
      refine x_iinc (L' := [_, _, _]) (pc := 21) hC dX5_together_21 rfl rfl rfl ?_
      refine x_goto (tgt := 4) (pc := 24) hC dX5_together_24 (by decide) ?_
      rw [e1]
      refine ih (k + 1) (j + 1) _ (by omega) ?_ (by omega)
      unfold allF
      rw [sumTo_s, ha, hj]
      rfl
  refine x_iconst (pc := 0) hC dX5_together_0 ?_
  refine x_istore_n (L' := [_, _, _]) (pc := 1) hC dX5_together_1 rfl rfl ?_
  refine x_iconst (pc := 2) hC dX5_together_2 ?_
  refine x_istore_n (L' := [_, _, _]) (pc := 3) hC dX5_together_3 rfl rfl ?_
  exact loop (z 14).toNat 0 0 0 rfl rfl (by omega)

set_option maxHeartbeats 4000000 in
set_option maxRecDepth 100000 in
theorem c_greatestThenSum (E : xE) {σ : xM} {ρ : xR} {ks : xKs} {q b : Nat} {z : zS} (hsk : SK ks ρ q b) (hsz : SZ σ q b z) (hsit : SitOk z) : Sp E yX5_greatestThenSum kX5_greatestThenSum 2 0 0 [.ref q] σ ρ ks (Fn (some (.int (iI (1000 * greatF z (z 14).toNat + allF z (z 14).toNat)))) (σ) ρ ks) := by
  obtain ⟨ko, ⟨kb0, kb1, kb2, kb3, kb4⟩, r0, r1, r2, r3, r4⟩ := id hsk
  obtain ⟨z5, zs⟩ := id hsz
  have hs14 := hsit.1
  refine x_enter (own := RX5) (L := [_]) (by decide +kernel) rfl (by exact Nat.le_of_ble_eq_true rfl) rfl (fun p e R s m args below meth c Z hZ hC hR hin => ?_)
  refine x_aload_n (pc := 0) hC dX5_greatestThenSum_0 rfl ?_
  refine x_callV1 (As := []) (Bs := []) (pc := 1) hC (c_greatest E hsk hsz hsit) wX5_52_5 pX5_greatest (by assumption) rfl rfl (by exact Nat.le_of_ble_eq_true rfl) hR (by decide) (by decide) (by decide) rfl dX5_greatestThenSum_1 ?_
  refine x_sipush (pc := 4) hC dX5_greatestThenSum_4 (by decide +kernel) ?_
  refine x_imul (pc := 7) hC dX5_greatestThenSum_7 ?_
  refine x_aload_n (pc := 8) hC dX5_greatestThenSum_8 rfl ?_
  refine x_callV1 (As := []) (Bs := []) (pc := 9) hC (c_together E hsk hsz hsit) wX5_56_5 pX5_together (by assumption) rfl rfl (by exact Nat.le_of_ble_eq_true rfl) hR (by decide) (by decide) (by decide) rfl dX5_greatestThenSum_9 ?_
  refine x_iadd (pc := 12) hC dX5_greatestThenSum_12 ?_
  refine x_ireturn hC hZ dX5_greatestThenSum_13 (by decide) (by decide) ?_
  exact ⟨congrArg (fun z => some (Value.int (iI z))) (by omega), rfl, rfl, rfl⟩
