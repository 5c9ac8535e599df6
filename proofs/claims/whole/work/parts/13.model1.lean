/-! THE REFERENCE: its cells (46 the object, 47 s, 48 image, 49 frame, 50 by, 51 truths, 52 mets, 53 wheres, 54 bodies) -/
def MK (ks : xKs) : Prop := ks[46]? = some (0, 12) ∧ ks[47]? = some (1, 943) ∧ ks[48]? = some (1, 943) ∧ ks[49]? = some (1, 13) ∧ ks[50]? = some (1, 6) ∧ ks[51]? = some (2, 64) ∧ ks[52]? = some (1, 6) ∧ ks[53]? = some (1, 400) ∧ ks[54]? = some (1, 20)
def MW (ρ : xR) : Prop := ρ 46 1 = some 47 ∧ ρ 46 2 = some 48 ∧ ρ 46 3 = some 49 ∧ ρ 46 10 = some 50 ∧ ρ 46 11 = some 51 ∧ ρ 46 14 = some 52 ∧ ρ 46 15 = some 53 ∧ ρ 46 16 = some 54

set_option maxHeartbeats 4000000 in
set_option maxRecDepth 100000 in
theorem s_in (E : xE) {σ : xM} {ρ : xR} {ks : xKs} {v lo hi : Int} (hv : rg v) (hl : rg lo) (hh : rg hi) : Sp E yX12_in kX12_in 1 0 0 [.int (iI v), .int (iI lo), .int (iI hi)] σ ρ ks (Fn (some (.int (iI (bI (lo ≤ v ∧ v ≤ hi))))) (σ) ρ ks) := by
  refine x_enter (own := RX12) (L := [_, _, _]) (by decide +kernel) rfl (by exact Nat.le_of_ble_eq_true rfl) rfl (fun p e R s m args below meth c Z hZ hC hR hin => ?_)
  refine x_iload_n (pc := 0) hC dX12_in_0 rfl ?_
  refine x_iload_n (pc := 1) hC dX12_in_1 rfl ?_
  refine x_icmp_lt (tgt := 14) (pc := 2) hC (by omega) (by omega) dX12_in_2 (by decide) (fun c2 => ?_) (fun c2 => ?_)
  · refine x_iconst (pc := 14) hC dX12_in_14 ?_
    refine x_zreturn hC hZ (by omega) dX12_in_15 (by decide) (by decide) ?_
    exact ⟨congrArg (fun z => some (Value.int (iI z))) (by unfold bI; split <;> omega), rfl, rfl, rfl⟩
  · refine x_iload_n (pc := 5) hC dX12_in_5 rfl ?_
    refine x_iload_n (pc := 6) hC dX12_in_6 rfl ?_
    refine x_icmp_gt (tgt := 14) (pc := 7) hC (by omega) (by omega) dX12_in_7 (by decide) (fun c7 => ?_) (fun c7 => ?_)
    · refine x_iconst (pc := 14) hC dX12_in_14 ?_
      refine x_zreturn hC hZ (by omega) dX12_in_15 (by decide) (by decide) ?_
      exact ⟨congrArg (fun z => some (Value.int (iI z))) (by unfold bI; split <;> omega), rfl, rfl, rfl⟩
    · refine x_iconst (pc := 10) hC dX12_in_10 ?_
      refine x_goto (tgt := 15) (pc := 11) hC dX12_in_11 (by decide) ?_
      refine x_zreturn hC hZ (by omega) dX12_in_15 (by decide) (by decide) ?_
      exact ⟨congrArg (fun z => some (Value.int (iI z))) (by unfold bI; split <;> omega), rfl, rfl, rfl⟩

set_option maxHeartbeats 4000000 in
set_option maxRecDepth 100000 in
theorem s_within (E : xE) {σ : xM} {ρ : xR} {ks : xKs} {v lo hi : Int} (hv : rg v) (hl : rg lo) (hh : rg hi) : Sp E yX12_within kX12_within 1 0 0 [.int (iI v), .int (iI lo), .int (iI hi)] σ ρ ks (Fn (some (.int (iI (withinF v lo hi)))) (σ) ρ ks) := by
  refine x_enter (own := RX12) (L := [_, _, _]) (by decide +kernel) rfl (by exact Nat.le_of_ble_eq_true rfl) rfl (fun p e R s m args below meth c Z hZ hC hR hin => ?_)
  refine x_iload_n (pc := 0) hC dX12_within_0 rfl ?_
  refine x_iload_n (pc := 1) hC dX12_within_1 rfl ?_
  refine x_icmp_ge (tgt := 9) (pc := 2) hC (by omega) (by omega) dX12_within_2 (by decide) (fun c2 => ?_) (fun c2 => ?_)
  · refine x_iload_n (pc := 9) hC dX12_within_9 rfl ?_
    refine x_iload_n (pc := 10) hC dX12_within_10 rfl ?_
    refine x_icmp_le (tgt := 18) (pc := 11) hC (by omega) (by omega) dX12_within_11 (by decide) (fun c11 => ?_) (fun c11 => ?_)
    · refine x_iload_n (pc := 18) hC dX12_within_18 rfl ?_
      refine x_ireturn hC hZ dX12_within_19 (by decide) (by decide) ?_
      exact ⟨congrArg (fun z => some (Value.int (iI z))) (by unfold withinF; split <;> (try split) <;> omega), rfl, rfl, rfl⟩
    · refine x_iload_n (pc := 14) hC dX12_within_14 rfl ?_
      refine x_goto (tgt := 19) (pc := 15) hC dX12_within_15 (by decide) ?_
      refine x_ireturn hC hZ dX12_within_19 (by decide) (by decide) ?_
      exact ⟨congrArg (fun z => some (Value.int (iI z))) (by unfold withinF; split <;> (try split) <;> omega), rfl, rfl, rfl⟩
  · refine x_iload_n (pc := 5) hC dX12_within_5 rfl ?_
    refine x_goto (tgt := 19) (pc := 6) hC dX12_within_6 (by decide) ?_
    refine x_ireturn hC hZ dX12_within_19 (by decide) (by decide) ?_
    exact ⟨congrArg (fun z => some (Value.int (iI z))) (by unfold withinF; split <;> (try split) <;> omega), rfl, rfl, rfl⟩

set_option maxHeartbeats 4000000 in
set_option maxRecDepth 100000 in
theorem s_isPlace (E : xE) {σ : xM} {ρ : xR} {ks : xKs} {v : Int} (hv : rg v) : Sp E yX12_isPlace kX12_isPlace 2 0 0 [.int (iI v)] σ ρ ks (Fn (some (.int (iI (bI (0 ≤ v ∧ v ≤ 9))))) (σ) ρ ks) := by
  refine x_enter (own := RX12) (L := [_]) (by decide +kernel) rfl (by exact Nat.le_of_ble_eq_true rfl) rfl (fun p e R s m args below meth c Z hZ hC hR hin => ?_)
  refine x_iload_n (pc := 0) hC dX12_isPlace_0 rfl ?_
  refine x_iconst (pc := 1) hC dX12_isPlace_1 ?_
  refine x_bipush (pc := 2) hC dX12_isPlace_2 (by decide +kernel) ?_
  refine x_callS1 (As := [_, _, _]) (Bs := [_, _, _]) (pc := 4) hC (s_in E (by omega) (by omega) (by omega)) wX12_41 pX12_in rfl rfl (by exact Nat.le_of_ble_eq_true rfl) hR (by decide) (by decide) (by decide) rfl dX12_isPlace_4 ?_
  refine x_zreturn hC hZ (by exact bI_01 _) dX12_isPlace_7 (by decide) (by decide) ?_
  exact ⟨rfl, rfl, rfl, rfl⟩

set_option maxHeartbeats 4000000 in
set_option maxRecDepth 100000 in
theorem s_isFan (E : xE) {σ : xM} {ρ : xR} {ks : xKs} (hk : MK ks) (hw : MW ρ) {v : Int} (hv : rg v) (hz : 0 ≤ σ 47 13 ∧ σ 47 13 ≤ 4) : Sp E yX12_isFan kX12_isFan 2 0 0 [.ref 46, .int (iI v)] σ ρ ks (Fn (some (.int (iI (bI (0 ≤ v ∧ v ≤ σ 47 13 - 1))))) (σ) ρ ks) := by
  obtain ⟨k46, k47, k48, k49, k50, k51, k52, k53, k54⟩ := id hk
  obtain ⟨w1, w2, w3, w10, w11, w14, w15, w16⟩ := id hw
  refine x_enter (own := RX12) (L := [_, _]) (by decide +kernel) rfl (by exact Nat.le_of_ble_eq_true rfl) rfl (fun p e R s m args below meth c Z hZ hC hR hin => ?_)
  refine x_iload_n (pc := 0) hC dX12_isFan_0 rfl ?_
  refine x_iconst (pc := 1) hC dX12_isFan_1 ?_
  refine x_aload_n (pc := 2) hC dX12_isFan_2 rfl ?_
  refine x_getr (K := 1) (pc := 3) hC fX12_9_12 (by assumption) dX12_isFan_3 rfl rfl (by assumption) ?_
  refine x_bipush (pc := 6) hC dX12_isFan_6 (by decide +kernel) ?_
  refine x_iald (pc := 8) hC (by assumption) (by omega) dX12_isFan_8 ?_
  refine x_iconst (pc := 9) hC dX12_isFan_9 ?_
  refine x_isub (pc := 10) hC dX12_isFan_10 ?_
  refine x_callS1 (As := [_, _, _]) (Bs := [_, _, _]) (pc := 11) hC (s_in E (by omega) (by omega) (by omega)) wX12_41 pX12_in rfl rfl (by exact Nat.le_of_ble_eq_true rfl) hR (by decide) (by decide) (by decide) rfl dX12_isFan_11 ?_
  refine x_zreturn hC hZ (by exact bI_01 _) dX12_isFan_14 (by decide) (by decide) ?_
  exact ⟨rfl, rfl, rfl, rfl⟩

set_option maxHeartbeats 4000000 in
set_option maxRecDepth 100000 in
theorem s_isSitter (E : xE) {σ : xM} {ρ : xR} {ks : xKs} (hk : MK ks) (hw : MW ρ) {v : Int} (hv : rg v) (hz : 0 ≤ σ 47 14 ∧ σ 47 14 ≤ 6) : Sp E yX12_isSitter kX12_isSitter 2 0 0 [.ref 46, .int (iI v)] σ ρ ks (Fn (some (.int (iI (bI (0 ≤ v ∧ v ≤ σ 47 14 - 1))))) (σ) ρ ks) := by
  obtain ⟨k46, k47, k48, k49, k50, k51, k52, k53, k54⟩ := id hk
  obtain ⟨w1, w2, w3, w10, w11, w14, w15, w16⟩ := id hw
  refine x_enter (own := RX12) (L := [_, _]) (by decide +kernel) rfl (by exact Nat.le_of_ble_eq_true rfl) rfl (fun p e R s m args below meth c Z hZ hC hR hin => ?_)
  refine x_iload_n (pc := 0) hC dX12_isSitter_0 rfl ?_
  refine x_iconst (pc := 1) hC dX12_isSitter_1 ?_
  refine x_aload_n (pc := 2) hC dX12_isSitter_2 rfl ?_
  refine x_getr (K := 1) (pc := 3) hC fX12_9_12 (by assumption) dX12_isSitter_3 rfl rfl (by assumption) ?_
  refine x_bipush (pc := 6) hC dX12_isSitter_6 (by decide +kernel) ?_
  refine x_iald (pc := 8) hC (by assumption) (by omega) dX12_isSitter_8 ?_
  refine x_iconst (pc := 9) hC dX12_isSitter_9 ?_
  refine x_isub (pc := 10) hC dX12_isSitter_10 ?_
  refine x_callS1 (As := [_, _, _]) (Bs := [_, _, _]) (pc := 11) hC (s_in E (by omega) (by omega) (by omega)) wX12_41 pX12_in rfl rfl (by exact Nat.le_of_ble_eq_true rfl) hR (by decide) (by decide) (by decide) rfl dX12_isSitter_11 ?_
  refine x_zreturn hC hZ (by exact bI_01 _) dX12_isSitter_14 (by decide) (by decide) ?_
  exact ⟨rfl, rfl, rfl, rfl⟩

set_option maxHeartbeats 4000000 in
set_option maxRecDepth 100000 in
theorem s_areSet (E : xE) {σ : xM} {ρ : xR} {ks : xKs} {a b c : Int} (ha : rg a) (hb : rg b) (hc : rg c) : Sp E yX12_areSet kX12_areSet 3 0 0 [.int (iI a), .int (iI b), .int (iI c)] σ ρ ks (Fn (some (.int (iI (bI ((0 ≤ a ∧ a ≤ 9) ∧ (0 ≤ b ∧ b ≤ 9) ∧ a ≤ b ∧ 1 ≤ c ∧ c ≤ 4))))) (σ) ρ ks) := by
  refine x_enter (own := RX12) (L := [_, _, _]) (by decide +kernel) rfl (by exact Nat.le_of_ble_eq_true rfl) rfl (fun p e R s m args below meth c Z hZ hC hR hin => ?_)
  refine x_iload_n (pc := 0) hC dX12_areSet_0 rfl ?_
  refine x_callS1 (As := [_]) (Bs := [_]) (pc := 1) hC (s_isPlace E (by omega)) wX12_134 pX12_isPlace rfl rfl (by exact Nat.le_of_ble_eq_true rfl) hR (by decide) (by decide) (by decide) rfl dX12_areSet_1 ?_
  refine x_ifB_eq (tgt := 32) (pc := 4) hC  dX12_areSet_4 (by decide) (fun c4 => ?_) (fun c4 => ?_)
  · refine x_iconst (pc := 32) hC dX12_areSet_32 ?_
    refine x_zreturn hC hZ (by omega) dX12_areSet_33 (by decide) (by decide) ?_
    exact ⟨congrArg (fun z => some (Value.int (iI z))) (by unfold bI; split <;> omega), rfl, rfl, rfl⟩
  · refine x_iload_n (pc := 7) hC dX12_areSet_7 rfl ?_
    refine x_callS1 (As := [_]) (Bs := [_]) (pc := 8) hC (s_isPlace E (by omega)) wX12_134 pX12_isPlace rfl rfl (by exact Nat.le_of_ble_eq_true rfl) hR (by decide) (by decide) (by decide) rfl dX12_areSet_8 ?_
    refine x_ifB_eq (tgt := 32) (pc := 11) hC  dX12_areSet_11 (by decide) (fun c11 => ?_) (fun c11 => ?_)
    · refine x_iconst (pc := 32) hC dX12_areSet_32 ?_
      refine x_zreturn hC hZ (by omega) dX12_areSet_33 (by decide) (by decide) ?_
      exact ⟨congrArg (fun z => some (Value.int (iI z))) (by unfold bI; split <;> omega), rfl, rfl, rfl⟩
    · refine x_iload_n (pc := 14) hC dX12_areSet_14 rfl ?_
      refine x_iload_n (pc := 15) hC dX12_areSet_15 rfl ?_
      refine x_icmp_gt (tgt := 32) (pc := 16) hC (by omega) (by omega) dX12_areSet_16 (by decide) (fun c16 => ?_) (fun c16 => ?_)
      · refine x_iconst (pc := 32) hC dX12_areSet_32 ?_
        refine x_zreturn hC hZ (by omega) dX12_areSet_33 (by decide) (by decide) ?_
        exact ⟨congrArg (fun z => some (Value.int (iI z))) (by unfold bI; split <;> omega), rfl, rfl, rfl⟩
      · refine x_iload_n (pc := 19) hC dX12_areSet_19 rfl ?_
        refine x_iconst (pc := 20) hC dX12_areSet_20 ?_
        refine x_iconst (pc := 21) hC dX12_areSet_21 ?_
        refine x_callS1 (As := [_, _, _]) (Bs := [_, _, _]) (pc := 22) hC (s_in E (by omega) (by omega) (by omega)) wX12_41 pX12_in rfl rfl (by exact Nat.le_of_ble_eq_true rfl) hR (by decide) (by decide) (by decide) rfl dX12_areSet_22 ?_
        refine x_ifB_eq (tgt := 32) (pc := 25) hC  dX12_areSet_25 (by decide) (fun c25 => ?_) (fun c25 => ?_)
        · refine x_iconst (pc := 32) hC dX12_areSet_32 ?_
          refine x_zreturn hC hZ (by omega) dX12_areSet_33 (by decide) (by decide) ?_
          exact ⟨congrArg (fun z => some (Value.int (iI z))) (by unfold bI; split <;> omega), rfl, rfl, rfl⟩
        · refine x_iconst (pc := 28) hC dX12_areSet_28 ?_
          refine x_goto (tgt := 33) (pc := 29) hC dX12_areSet_29 (by decide) ?_
          refine x_zreturn hC hZ (by omega) dX12_areSet_33 (by decide) (by decide) ?_
          exact ⟨congrArg (fun z => some (Value.int (iI z))) (by unfold bI; split <;> omega), rfl, rfl, rfl⟩

def cp49 (σ : xM) (k : Int) : zS := fun j => if 0 ≤ j ∧ j < k then σ 47 j else σ 49 j
theorem cp49_0 (σ : xM) : cp49 σ 0 = σ 49 := by funext j; unfold cp49; rw [if_neg (by omega)]
theorem cp49_s (σ : xM) (k : Int) (h : 0 ≤ k) : up (cp49 σ k) k (σ 47 k) = cp49 σ (k + 1) := by
  funext j; unfold up cp49
  by_cases h1 : j = k
  · subst h1; rw [if_pos rfl, if_pos (by omega)]
  · rw [if_neg h1]
    by_cases h2 : 0 ≤ j ∧ j < k
    · rw [if_pos h2, if_pos (by omega)]
    · rw [if_neg h2, if_neg (by omega)]
set_option maxHeartbeats 4000000 in
set_option maxRecDepth 100000 in
theorem s_keeps (E : xE) {σ : xM} {ρ : xR} {ks : xKs} (hk : MK ks) (hw : MW ρ)  : Sp E yX12_keeps kX12_keeps 1 0 0 [.ref 46] σ ρ ks (Fn none (sw σ 49 (cp49 σ 13)) ρ ks) := by
  obtain ⟨k46, k47, k48, k49, k50, k51, k52, k53, k54⟩ := id hk
  obtain ⟨w1, w2, w3, w10, w11, w14, w15, w16⟩ := id hw
  refine x_enter (own := RX12) (L := [_, _]) (by decide +kernel) rfl (by exact Nat.le_of_ble_eq_true rfl) rfl (fun p e R s m args below meth c Z hZ hC hR hin => ?_)
  have loop : ∀ (n : Nat) (k : Int), 0 ≤ k → k ≤ 13 → 13 - k = n → X E p e R s m args below meth c Z 0 0 (sw σ 49 (cp49 σ k)) ρ ks 2 [some (.ref 46), some (.int (iI k))] [] := by
    intro n
    induction n with
    | zero =>
      intro k h1 h2 h3
      have h4 : k = 13 := by omega
      subst h4
      refine x_iload_n (pc := 2) hC dX12_keeps_2 rfl ?_
      refine x_bipush (pc := 3) hC dX12_keeps_3 (by decide +kernel) ?_
      refine x_icmp_ge (tgt := 26) (pc := 5) hC (by omega) (by omega) dX12_keeps_5 (by decide) (fun c5 => ?_) (fun c5 => by (exfalso; omega))
      refine x_return hC hZ dX12_keeps_26 (by decide) (by decide) ?_
      exact ⟨rfl, rfl, rfl, rfl⟩
    | succ n ih =>
      intro k h1 h2 h3
      refine x_iload_n (pc := 2) hC dX12_keeps_2 rfl ?_
      refine x_bipush (pc := 3) hC dX12_keeps_3 (by decide +kernel) ?_
      refine x_icmp_ge (tgt := 26) (pc := 5) hC (by omega) (by omega) dX12_keeps_5 (by decide) (fun c5 => by (exfalso; omega)) (fun c5 => ?_)
      refine x_aload_n (pc := 8) hC dX12_keeps_8 rfl ?_
      refine x_getr (K := 3) (pc := 9) hC fX12_18_12 (by assumption) dX12_keeps_9 rfl rfl (by assumption) ?_
      refine x_iload_n (pc := 12) hC dX12_keeps_12 rfl ?_
      refine x_aload_n (pc := 13) hC dX12_keeps_13 rfl ?_
      refine x_getr (K := 1) (pc := 14) hC fX12_9_12 (by assumption) dX12_keeps_14 rfl rfl (by assumption) ?_
      refine x_iload_n (pc := 17) hC dX12_keeps_17 rfl ?_
      refine x_iald (pc := 18) hC (by assumption) (by omega) dX12_keeps_18 ?_
      refine x_iast (pc := 19) hC (by assumption) (by omega) dX12_keeps_19 ?_
      refine x_iinc (L' := [_, _]) (pc := 20) hC dX12_keeps_20 rfl rfl rfl ?_
      refine x_goto (tgt := 2) (pc := 23) hC dX12_keeps_23 (by decide) ?_
      refine X.mem ?_ (ih (k + 1) (by omega) (by omega) (by omega))
      rw [wr_sw, sw_eq, sw_sw, sw_ne _ (by decide), cp49_s _ _ h1]
  refine x_iconst (pc := 0) hC dX12_keeps_0 ?_
  refine x_istore_n (L' := [_, _]) (pc := 1) hC dX12_keeps_1 rfl rfl ?_
  refine X.mem ?_ (loop 13 0 (by omega) (by omega) (by omega))
  rw [cp49_0, sw_id]

def cp47 (σ : xM) (k : Int) : zS := fun j => if 0 ≤ j ∧ j < k then σ 49 j else σ 47 j
theorem cp47_0 (σ : xM) : cp47 σ 0 = σ 47 := by funext j; unfold cp47; rw [if_neg (by omega)]
theorem cp47_s (σ : xM) (k : Int) (h : 0 ≤ k) : up (cp47 σ k) k (σ 49 k) = cp47 σ (k + 1) := by
  funext j; unfold up cp47
  by_cases h1 : j = k
  · subst h1; rw [if_pos rfl, if_pos (by omega)]
  · rw [if_neg h1]
    by_cases h2 : 0 ≤ j ∧ j < k
    · rw [if_pos h2, if_pos (by omega)]
    · rw [if_neg h2, if_neg (by omega)]
set_option maxHeartbeats 4000000 in
set_option maxRecDepth 100000 in
theorem s_goesBack (E : xE) {σ : xM} {ρ : xR} {ks : xKs} (hk : MK ks) (hw : MW ρ)  : Sp E yX12_goesBack kX12_goesBack 1 0 0 [.ref 46] σ ρ ks (Fn none (sw σ 47 (cp47 σ 13)) ρ ks) := by
  obtain ⟨k46, k47, k48, k49, k50, k51, k52, k53, k54⟩ := id hk
  obtain ⟨w1, w2, w3, w10, w11, w14, w15, w16⟩ := id hw
  refine x_enter (own := RX12) (L := [_, _]) (by decide +kernel) rfl (by exact Nat.le_of_ble_eq_true rfl) rfl (fun p e R s m args below meth c Z hZ hC hR hin => ?_)
  have loop : ∀ (n : Nat) (k : Int), 0 ≤ k → k ≤ 13 → 13 - k = n → X E p e R s m args below meth c Z 0 0 (sw σ 47 (cp47 σ k)) ρ ks 2 [some (.ref 46), some (.int (iI k))] [] := by
    intro n
    induction n with
    | zero =>
      intro k h1 h2 h3
      have h4 : k = 13 := by omega
      subst h4
      refine x_iload_n (pc := 2) hC dX12_goesBack_2 rfl ?_
      refine x_bipush (pc := 3) hC dX12_goesBack_3 (by decide +kernel) ?_
      refine x_icmp_ge (tgt := 26) (pc := 5) hC (by omega) (by omega) dX12_goesBack_5 (by decide) (fun c5 => ?_) (fun c5 => by (exfalso; omega))
      refine x_return hC hZ dX12_goesBack_26 (by decide) (by decide) ?_
      exact ⟨rfl, rfl, rfl, rfl⟩
    | succ n ih =>
      intro k h1 h2 h3
      refine x_iload_n (pc := 2) hC dX12_goesBack_2 rfl ?_
      refine x_bipush (pc := 3) hC dX12_goesBack_3 (by decide +kernel) ?_
      refine x_icmp_ge (tgt := 26) (pc := 5) hC (by omega) (by omega) dX12_goesBack_5 (by decide) (fun c5 => by (exfalso; omega)) (fun c5 => ?_)
      refine x_aload_n (pc := 8) hC dX12_goesBack_8 rfl ?_
      refine x_getr (K := 1) (pc := 9) hC fX12_9_12 (by assumption) dX12_goesBack_9 rfl rfl (by assumption) ?_
      refine x_iload_n (pc := 12) hC dX12_goesBack_12 rfl ?_
      refine x_aload_n (pc := 13) hC dX12_goesBack_13 rfl ?_
      refine x_getr (K := 3) (pc := 14) hC fX12_18_12 (by assumption) dX12_goesBack_14 rfl rfl (by assumption) ?_
      refine x_iload_n (pc := 17) hC dX12_goesBack_17 rfl ?_
      refine x_iald (pc := 18) hC (by assumption) (by omega) dX12_goesBack_18 ?_
      refine x_iast (pc := 19) hC (by assumption) (by omega) dX12_goesBack_19 ?_
      refine x_iinc (L' := [_, _]) (pc := 20) hC dX12_goesBack_20 rfl rfl rfl ?_
      refine x_goto (tgt := 2) (pc := 23) hC dX12_goesBack_23 (by decide) ?_
      refine X.mem ?_ (ih (k + 1) (by omega) (by omega) (by omega))
      rw [wr_sw, sw_eq, sw_sw, sw_ne _ (by decide), cp47_s _ _ h1]
  refine x_iconst (pc := 0) hC dX12_goesBack_0 ?_
  refine x_istore_n (L' := [_, _]) (pc := 1) hC dX12_goesBack_1 rfl rfl ?_
  refine X.mem ?_ (loop 13 0 (by omega) (by omega) (by omega))
  rw [cp47_0, sw_id]

def hereF (z : zS) (spot fin : Int) : Int := if spot < fin then z (118 + spot) else -1
set_option maxHeartbeats 4000000 in
set_option maxRecDepth 100000 in
theorem s_here (E : xE) {σ : xM} {ρ : xR} {ks : xKs} (hk : MK ks) (hw : MW ρ) (h1 : 0 ≤ σ 46 6) (h2 : σ 46 6 ≤ 100) (h3 : 0 ≤ σ 46 7 ∧ σ 46 7 ≤ 100) : Sp E yX12_here kX12_here 1 0 0 [.ref 46] σ ρ ks (Fn (some (.int (iI (hereF (σ 47) (σ 46 6) (σ 46 7))))) (σ) ρ ks) := by
  obtain ⟨k46, k47, k48, k49, k50, k51, k52, k53, k54⟩ := id hk
  obtain ⟨w1, w2, w3, w10, w11, w14, w15, w16⟩ := id hw
  refine x_enter (own := RX12) (L := [_]) (by decide +kernel) rfl (by exact Nat.le_of_ble_eq_true rfl) rfl (fun p e R s m args below meth c Z hZ hC hR hin => ?_)
  refine x_aload_n (pc := 0) hC dX12_here_0 rfl ?_
  refine x_geti (K := 6) (pc := 1) hC fX12_45_12 (by assumption) dX12_here_1 rfl rfl ?_
  refine x_aload_n (pc := 4) hC dX12_here_4 rfl ?_
  refine x_geti (K := 7) (pc := 5) hC fX12_48_12 (by assumption) dX12_here_5 rfl rfl ?_
  refine x_icmp_ge (tgt := 26) (pc := 8) hC (by omega) (by omega) dX12_here_8 (by decide) (fun c8 => ?_) (fun c8 => ?_)
  · refine x_iconst (pc := 26) hC dX12_here_26 ?_
    refine x_ireturn hC hZ dX12_here_27 (by decide) (by decide) ?_
    exact ⟨congrArg (fun z => some (Value.int (iI z))) (by unfold hereF; split <;> first | rfl | omega), rfl, rfl, rfl⟩
  · refine x_aload_n (pc := 11) hC dX12_here_11 rfl ?_
    refine x_getr (K := 1) (pc := 12) hC fX12_9_12 (by assumption) dX12_here_12 rfl rfl (by assumption) ?_
    refine x_bipush (pc := 15) hC dX12_here_15 (by decide +kernel) ?_
    refine x_aload_n (pc := 17) hC dX12_here_17 rfl ?_
    refine x_geti (K := 6) (pc := 18) hC fX12_45_12 (by assumption) dX12_here_18 rfl rfl ?_
    refine x_iadd (pc := 21) hC dX12_here_21 ?_
    refine x_iald (pc := 22) hC (by assumption) (by omega) dX12_here_22 ?_
    refine x_goto (tgt := 27) (pc := 23) hC dX12_here_23 (by decide) ?_
    refine x_ireturn hC hZ dX12_here_27 (by decide) (by decide) ?_
    exact ⟨congrArg (fun z => some (Value.int (iI z))) (by unfold hereF; split <;> first | rfl | omega), rfl, rfl, rfl⟩

def tellsF (z : zS) (wh none : Int) : Int := if z 20 = -1 then none else z (wh + z 20)
set_option maxHeartbeats 4000000 in
set_option maxRecDepth 100000 in
theorem s_tellsOf (E : xE) {σ : xM} {ρ : xR} {ks : xKs} (hk : MK ks) (hw : MW ρ) {a b : Int} (h1 : -1 ≤ σ 47 20 ∧ σ 47 20 ≤ 4) (ha : 0 ≤ a ∧ a ≤ 900) : Sp E yX12_tellsOf kX12_tellsOf 1 0 0 [.ref 46, .int (iI a), .int (iI b)] σ ρ ks (Fn (some (.int (iI (tellsF (σ 47) a b)))) (σ) ρ ks) := by
  obtain ⟨k46, k47, k48, k49, k50, k51, k52, k53, k54⟩ := id hk
  obtain ⟨w1, w2, w3, w10, w11, w14, w15, w16⟩ := id hw
  refine x_enter (own := RX12) (L := [_, _, _]) (by decide +kernel) rfl (by exact Nat.le_of_ble_eq_true rfl) rfl (fun p e R s m args below meth c Z hZ hC hR hin => ?_)
  refine x_aload_n (pc := 0) hC dX12_tellsOf_0 rfl ?_
  refine x_getr (K := 1) (pc := 1) hC fX12_9_12 (by assumption) dX12_tellsOf_1 rfl rfl (by assumption) ?_
  refine x_bipush (pc := 4) hC dX12_tellsOf_4 (by decide +kernel) ?_
  refine x_iald (pc := 6) hC (by assumption) (by omega) dX12_tellsOf_6 ?_
  refine x_iconst (pc := 7) hC dX12_tellsOf_7 ?_
  refine x_icmp_ne (tgt := 15) (pc := 8) hC (by omega) (by omega) dX12_tellsOf_8 (by decide) (fun c8 => ?_) (fun c8 => ?_)
  · refine x_aload_n (pc := 15) hC dX12_tellsOf_15 rfl ?_
    refine x_getr (K := 1) (pc := 16) hC fX12_9_12 (by assumption) dX12_tellsOf_16 rfl rfl (by assumption) ?_
    refine x_iload_n (pc := 19) hC dX12_tellsOf_19 rfl ?_
    refine x_aload_n (pc := 20) hC dX12_tellsOf_20 rfl ?_
    refine x_getr (K := 1) (pc := 21) hC fX12_9_12 (by assumption) dX12_tellsOf_21 rfl rfl (by assumption) ?_
    refine x_bipush (pc := 24) hC dX12_tellsOf_24 (by decide +kernel) ?_
    refine x_iald (pc := 26) hC (by assumption) (by omega) dX12_tellsOf_26 ?_
    refine x_iadd (pc := 27) hC dX12_tellsOf_27 ?_
    refine x_iald (pc := 28) hC (by assumption) (by omega) dX12_tellsOf_28 ?_
    refine x_ireturn hC hZ dX12_tellsOf_29 (by decide) (by decide) ?_
    exact ⟨congrArg (fun z => some (Value.int (iI z))) (by unfold tellsF; split <;> first | rfl | omega), rfl, rfl, rfl⟩
  · refine x_iload_n (pc := 11) hC dX12_tellsOf_11 rfl ?_
    refine x_goto (tgt := 29) (pc := 12) hC dX12_tellsOf_12 (by decide) ?_
    refine x_ireturn hC hZ dX12_tellsOf_29 (by decide) (by decide) ?_
    exact ⟨congrArg (fun z => some (Value.int (iI z))) (by unfold tellsF; split <;> first | rfl | omega), rfl, rfl, rfl⟩

def flyF (z : zS) : Int := if tellsF z 223 3 < 1 then 1 else tellsF z 223 3
set_option maxHeartbeats 4000000 in
set_option maxRecDepth 100000 in
theorem s_flyNow (E : xE) {σ : xM} {ρ : xR} {ks : xKs} (hk : MK ks) (hw : MW ρ) (h1 : -1 ≤ σ 47 20 ∧ σ 47 20 ≤ 4) (h2 : rg (tellsF (σ 47) 223 3)) : Sp E yX12_flyNow kX12_flyNow 2 0 0 [.ref 46] σ ρ ks (Fn (some (.int (iI (flyF (σ 47))))) (σ) ρ ks) := by
  obtain ⟨k46, k47, k48, k49, k50, k51, k52, k53, k54⟩ := id hk
  obtain ⟨w1, w2, w3, w10, w11, w14, w15, w16⟩ := id hw
  refine x_enter (own := RX12) (L := [_, _]) (by decide +kernel) rfl (by exact Nat.le_of_ble_eq_true rfl) rfl (fun p e R s m args below meth c Z hZ hC hR hin => ?_)
  refine x_aload_n (pc := 0) hC dX12_flyNow_0 rfl ?_
  refine x_sipush (pc := 1) hC dX12_flyNow_1 (by decide +kernel) ?_
  refine x_iconst (pc := 4) hC dX12_flyNow_4 ?_
  refine x_callV1 (As := [_, _]) (Bs := [_, _]) (pc := 5) hC (s_tellsOf E hk hw (by omega) (by omega)) wX12_130_12 pX12_tellsOf (by assumption) rfl rfl (by exact Nat.le_of_ble_eq_true rfl) hR (by decide) (by decide) (by decide) rfl dX12_flyNow_5 ?_
  refine x_istore_n (L' := [_, _]) (pc := 8) hC dX12_flyNow_8 rfl rfl ?_
  refine x_iload_n (pc := 9) hC dX12_flyNow_9 rfl ?_
  refine x_iconst (pc := 10) hC dX12_flyNow_10 ?_
  refine x_icmp_ge (tgt := 18) (pc := 11) hC (by omega) (by omega) dX12_flyNow_11 (by decide) (fun c11 => ?_) (fun c11 => ?_)
  · refine x_iload_n (pc := 18) hC dX12_flyNow_18 rfl ?_
    refine x_ireturn hC hZ dX12_flyNow_19 (by decide) (by decide) ?_
    exact ⟨congrArg (fun z => some (Value.int (iI z))) (by unfold flyF; split <;> first | rfl | omega), rfl, rfl, rfl⟩
  · refine x_iconst (pc := 14) hC dX12_flyNow_14 ?_
    refine x_goto (tgt := 19) (pc := 15) hC dX12_flyNow_15 (by decide) ?_
    refine x_ireturn hC hZ dX12_flyNow_19 (by decide) (by decide) ?_
    exact ⟨congrArg (fun z => some (Value.int (iI z))) (by unfold flyF; split <;> first | rfl | omega), rfl, rfl, rfl⟩

set_option maxHeartbeats 4000000 in
set_option maxRecDepth 100000 in
theorem s_swinging (E : xE) {σ : xM} {ρ : xR} {ks : xKs} (hk : MK ks) (hw : MW ρ) {f t : Int} (hf : FanOk (σ 47) f) (hi : 0 ≤ f ∧ f < 4) (ht : 0 ≤ t ∧ t < 1000000) : Sp E yX12_swinging kX12_swinging 1 0 0 [.ref 46, .int (iI f), .int (iI t)] σ ρ ks (Fn (some (.int (iI (swingF (σ 47) f t)))) (σ) ρ ks) := by
  obtain ⟨k46, k47, k48, k49, k50, k51, k52, k53, k54⟩ := id hk
  obtain ⟨w1, w2, w3, w10, w11, w14, w15, w16⟩ := id hw
  obtain ⟨-, f2, f3, f4, -, -⟩ := id hf
  have hs := sw_small (a := σ 47 (34 + f) - σ 47 (30 + f) - 1) (p := σ 47 (38 + f))
  refine x_enter (own := RX12) (L := [_, _, _, _, _, _, _, _]) (by decide +kernel) rfl (by exact Nat.le_of_ble_eq_true rfl) rfl (fun p e R s m args below meth c Z hZ hC hR hin => ?_)
  refine x_aload_n (pc := 0) hC dX12_swinging_0 rfl ?_
  refine x_getr (K := 1) (pc := 1) hC fX12_9_12 (by assumption) dX12_swinging_1 rfl rfl (by assumption) ?_
  refine x_bipush (pc := 4) hC dX12_swinging_4 (by decide +kernel) ?_
  refine x_iload_n (pc := 6) hC dX12_swinging_6 rfl ?_
  refine x_iadd (pc := 7) hC dX12_swinging_7 ?_
  refine x_iald (pc := 8) hC (by assumption) (by omega) dX12_swinging_8 ?_
  refine x_istore_n (L' := [_, _, _, _, _, _, _, _]) (pc := 9) hC dX12_swinging_9 rfl rfl ?_
  refine x_aload_n (pc := 10) hC dX12_swinging_10 rfl ?_
  refine x_getr (K := 1) (pc := 11) hC fX12_9_12 (by assumption) dX12_swinging_11 rfl rfl (by assumption) ?_
  refine x_bipush (pc := 14) hC dX12_swinging_14 (by decide +kernel) ?_
  refine x_iload_n (pc := 16) hC dX12_swinging_16 rfl ?_
  refine x_iadd (pc := 17) hC dX12_swinging_17 ?_
  refine x_iald (pc := 18) hC (by assumption) (by omega) dX12_swinging_18 ?_
  refine x_iload_n (pc := 19) hC dX12_swinging_19 rfl ?_
  refine x_isub (pc := 20) hC dX12_swinging_20 ?_
  refine x_istore (L' := [_, _, _, _, _, _, _, _]) (pc := 21) hC dX12_swinging_21 rfl rfl ?_
  refine x_iload (pc := 23) hC dX12_swinging_23 rfl ?_
  refine x_if_ne (tgt := 30) (pc := 25) hC (by omega) dX12_swinging_25 (by decide) (fun c25 => ?_) (fun c25 => ?_)
  · have hs2 := hs (by omega) (by omega) (by omega) (by omega)
    have e2 : 2 * (σ 47 (34 + f) - σ 47 (30 + f) - 1) * σ 47 (38 + f) = 2 * ((σ 47 (34 + f) - σ 47 (30 + f) - 1) * σ 47 (38 + f)) := Int.mul_assoc _ _ _
    refine x_aload_n (pc := 30) hC dX12_swinging_30 rfl ?_
    refine x_getr (K := 1) (pc := 31) hC fX12_9_12 (by assumption) dX12_swinging_31 rfl rfl (by assumption) ?_
    refine x_bipush (pc := 34) hC dX12_swinging_34 (by decide +kernel) ?_
    refine x_iload_n (pc := 36) hC dX12_swinging_36 rfl ?_
    refine x_iadd (pc := 37) hC dX12_swinging_37 ?_
    refine x_iald (pc := 38) hC (by assumption) (by omega) dX12_swinging_38 ?_
    refine x_istore (L' := [_, _, _, _, _, _, _, _]) (pc := 39) hC dX12_swinging_39 rfl rfl ?_
    refine x_iload (pc := 41) hC dX12_swinging_41 rfl ?_
    refine x_aload_n (pc := 43) hC dX12_swinging_43 rfl ?_
    refine x_getr (K := 1) (pc := 44) hC fX12_9_12 (by assumption) dX12_swinging_44 rfl rfl (by assumption) ?_
    refine x_bipush (pc := 47) hC dX12_swinging_47 (by decide +kernel) ?_
    refine x_iload_n (pc := 49) hC dX12_swinging_49 rfl ?_
    refine x_iadd (pc := 50) hC dX12_swinging_50 ?_
    refine x_iald (pc := 51) hC (by assumption) (by omega) dX12_swinging_51 ?_
    refine x_iadd (pc := 52) hC dX12_swinging_52 ?_
    refine x_istore (L' := [_, _, _, _, _, _, _, _]) (pc := 53) hC dX12_swinging_53 rfl rfl ?_
    refine x_iload_n (pc := 55) hC dX12_swinging_55 rfl ?_
    refine x_iconst (pc := 56) hC dX12_swinging_56 ?_
    refine x_iload (pc := 57) hC dX12_swinging_57 rfl ?_
    refine x_imul (pc := 59) hC dX12_swinging_59 ?_
    refine x_iconst (pc := 60) hC dX12_swinging_60 ?_
    refine x_iload (pc := 61) hC dX12_swinging_61 rfl ?_
    refine x_iconst (pc := 63) hC dX12_swinging_63 ?_
    refine x_isub (pc := 64) hC dX12_swinging_64 ?_
    refine x_imul (pc := 65) hC dX12_swinging_65 ?_
    refine x_iload (pc := 66) hC dX12_swinging_66 rfl ?_
    refine x_imul (pc := 68) hC dX12_swinging_68 ?_
    refine x_iadd (pc := 69) hC dX12_swinging_69 ?_
    refine x_irem (pc := 70) hC (by omega) dX12_swinging_70 ?_
    refine x_istore (L' := [_, _, _, _, _, _, _, _]) (pc := 71) hC dX12_swinging_71 rfl rfl ?_
    have hm := emod_in (t := t) (d := 2 * (σ 47 (38 + f) + σ 47 (26 + f)) + 2 * (σ 47 (34 + f) - σ 47 (30 + f) - 1) * σ 47 (38 + f)) (by omega)
    refine x_iload (pc := 73) hC dX12_swinging_73 rfl ?_
    refine x_iload (pc := 75) hC dX12_swinging_75 rfl ?_
    refine x_icmp_ge (tgt := 82) (pc := 77) hC (by omega) (by omega) dX12_swinging_77 (by decide) (fun c77 => ?_) (fun c77 => ?_)
    · refine x_iload (pc := 82) hC dX12_swinging_82 rfl ?_
      refine x_iload (pc := 84) hC dX12_swinging_84 rfl ?_
      refine x_isub (pc := 86) hC dX12_swinging_86 ?_
      refine x_istore (L' := [_, _, _, _, _, _, _, _]) (pc := 87) hC dX12_swinging_87 rfl rfl ?_
      refine x_iload (pc := 89) hC dX12_swinging_89 rfl ?_
      refine x_iload (pc := 91) hC dX12_swinging_91 rfl ?_
      refine x_iconst (pc := 93) hC dX12_swinging_93 ?_
      refine x_isub (pc := 94) hC dX12_swinging_94 ?_
      refine x_iload (pc := 95) hC dX12_swinging_95 rfl ?_
      refine x_imul (pc := 97) hC dX12_swinging_97 ?_
      refine x_icmp_ge (tgt := 111) (pc := 98) hC (by omega) (by omega) dX12_swinging_98 (by decide) (fun c98 => ?_) (fun c98 => ?_)
      · refine x_iload (pc := 111) hC dX12_swinging_111 rfl ?_
        refine x_iload (pc := 113) hC dX12_swinging_113 rfl ?_
        refine x_iconst (pc := 115) hC dX12_swinging_115 ?_
        refine x_isub (pc := 116) hC dX12_swinging_116 ?_
        refine x_iload (pc := 117) hC dX12_swinging_117 rfl ?_
        refine x_imul (pc := 119) hC dX12_swinging_119 ?_
        refine x_isub (pc := 120) hC dX12_swinging_120 ?_
        refine x_istore (L' := [_, _, _, _, _, _, _, _]) (pc := 121) hC dX12_swinging_121 rfl rfl ?_
        refine x_iload (pc := 123) hC dX12_swinging_123 rfl ?_
        refine x_iload (pc := 125) hC dX12_swinging_125 rfl ?_
        refine x_icmp_ge (tgt := 137) (pc := 127) hC (by omega) (by omega) dX12_swinging_127 (by decide) (fun c127 => ?_) (fun c127 => ?_)
        · refine x_iload_n (pc := 137) hC dX12_swinging_137 rfl ?_
          refine x_iload (pc := 138) hC dX12_swinging_138 rfl ?_
          refine x_iadd (pc := 140) hC dX12_swinging_140 ?_
          refine x_iconst (pc := 141) hC dX12_swinging_141 ?_
          refine x_isub (pc := 142) hC dX12_swinging_142 ?_
          refine x_iload (pc := 143) hC dX12_swinging_143 rfl ?_
          refine x_iload (pc := 145) hC dX12_swinging_145 rfl ?_
          refine x_isub (pc := 147) hC dX12_swinging_147 ?_
          refine x_iload (pc := 148) hC dX12_swinging_148 rfl ?_
          refine x_idiv (pc := 150) hC (by omega) dX12_swinging_150 ?_
          refine x_isub (pc := 151) hC dX12_swinging_151 ?_
          refine x_ireturn hC hZ dX12_swinging_152 (by decide) (by decide) ?_
          first | exact ⟨congrArg (fun z => some (Value.int (iI z))) (by unfold swingF; dsimp only; rw [if_neg c25, if_neg (by omega), if_neg (by omega), if_pos c127]), rfl, rfl, rfl⟩ | exact ⟨congrArg (fun z => some (Value.int (iI z))) (by unfold swingF; dsimp only; rw [if_neg c25, if_neg (by omega), if_neg (by omega), if_neg (by omega)]), rfl, rfl, rfl⟩
        · refine x_iload_n (pc := 130) hC dX12_swinging_130 rfl ?_
          refine x_iload (pc := 131) hC dX12_swinging_131 rfl ?_
          refine x_iadd (pc := 133) hC dX12_swinging_133 ?_
          refine x_goto (tgt := 152) (pc := 134) hC dX12_swinging_134 (by decide) ?_
          refine x_ireturn hC hZ dX12_swinging_152 (by decide) (by decide) ?_
          first | exact ⟨congrArg (fun z => some (Value.int (iI z))) (by unfold swingF; dsimp only; rw [if_neg c25, if_neg (by omega), if_neg (by omega), if_pos c127]), rfl, rfl, rfl⟩ | exact ⟨congrArg (fun z => some (Value.int (iI z))) (by unfold swingF; dsimp only; rw [if_neg c25, if_neg (by omega), if_neg (by omega), if_neg (by omega)]), rfl, rfl, rfl⟩
      · refine x_iload_n (pc := 101) hC dX12_swinging_101 rfl ?_
        refine x_iconst (pc := 102) hC dX12_swinging_102 ?_
        refine x_iadd (pc := 103) hC dX12_swinging_103 ?_
        refine x_iload (pc := 104) hC dX12_swinging_104 rfl ?_
        refine x_iload (pc := 106) hC dX12_swinging_106 rfl ?_
        refine x_idiv (pc := 108) hC (by omega) dX12_swinging_108 ?_
        refine x_iadd (pc := 109) hC dX12_swinging_109 ?_
        refine x_ireturn hC hZ dX12_swinging_110 (by decide) (by decide) ?_
        exact ⟨congrArg (fun z => some (Value.int (iI z))) (by unfold swingF; dsimp only; rw [if_neg c25, if_neg (by omega), if_pos c98]), rfl, rfl, rfl⟩
    · refine x_iload_n (pc := 80) hC dX12_swinging_80 rfl ?_
      refine x_ireturn hC hZ dX12_swinging_81 (by decide) (by decide) ?_
      exact ⟨congrArg (fun z => some (Value.int (iI z))) (by unfold swingF; dsimp only; rw [if_neg c25, if_pos c77]), rfl, rfl, rfl⟩
  · refine x_iload_n (pc := 28) hC dX12_swinging_28 rfl ?_
    refine x_ireturn hC hZ dX12_swinging_29 (by decide) (by decide) ?_
    exact ⟨congrArg (fun z => some (Value.int (iI z))) (by unfold swingF; dsimp only; rw [if_pos c25]), rfl, rfl, rfl⟩

set_option maxHeartbeats 4000000 in
set_option maxRecDepth 100000 in
theorem s_isAt (E : xE) {σ : xM} {ρ : xR} {ks : xKs} (hk : MK ks) (hw : MW ρ) {f t : Int} (hf : FanOk (σ 47) f) (hsit : SitOk (σ 47)) (hi : 0 ≤ f ∧ f < 4) (ht : 0 ≤ t ∧ t < 1000000) : Sp E yX12_isAt kX12_isAt 2 0 0 [.ref 46, .int (iI f), .int (iI t)] σ ρ ks (Fn (some (.int (iI (isAtF (σ 47) f t)))) (σ) ρ ks) := by
  obtain ⟨k46, k47, k48, k49, k50, k51, k52, k53, k54⟩ := id hk
  obtain ⟨w1, w2, w3, w10, w11, w14, w15, w16⟩ := id hw
  obtain ⟨f1, f2, f3, f4, f5, f6⟩ := id hf
  have hd1 := tdiv_lt (t := t) (d := σ 47 (38 + f)) (by omega) (by omega)
  have hm1 := emod_in (t := t / σ 47 (38 + f)) (d := σ 47 (34 + f) - σ 47 (30 + f) + 1) (by omega)
  have hs1 := hsit.1
  refine x_enter (own := RX12) (L := [_, _, _, _]) (by decide +kernel) rfl (by exact Nat.le_of_ble_eq_true rfl) rfl (fun p e R s m args below meth c Z hZ hC hR hin => ?_)
  refine x_aload_n (pc := 0) hC dX12_isAt_0 rfl ?_
  refine x_getr (K := 1) (pc := 1) hC fX12_9_12 (by assumption) dX12_isAt_1 rfl rfl (by assumption) ?_
  refine x_bipush (pc := 4) hC dX12_isAt_4 (by decide +kernel) ?_
  refine x_iload_n (pc := 6) hC dX12_isAt_6 rfl ?_
  refine x_iadd (pc := 7) hC dX12_isAt_7 ?_
  refine x_iald (pc := 8) hC (by assumption) (by omega) dX12_isAt_8 ?_
  refine x_istore_n (L' := [_, _, _, _]) (pc := 9) hC dX12_isAt_9 rfl rfl ?_
  refine x_aload_n (pc := 10) hC dX12_isAt_10 rfl ?_
  refine x_getr (K := 1) (pc := 11) hC fX12_9_12 (by assumption) dX12_isAt_11 rfl rfl (by assumption) ?_
  refine x_bipush (pc := 14) hC dX12_isAt_14 (by decide +kernel) ?_
  refine x_iload_n (pc := 16) hC dX12_isAt_16 rfl ?_
  refine x_iadd (pc := 17) hC dX12_isAt_17 ?_
  refine x_iald (pc := 18) hC (by assumption) (by omega) dX12_isAt_18 ?_
  have csw : σ 47 (22 + f) = 1 ∨ σ 47 (22 + f) = 2 ∨ σ 47 (22 + f) = 3 ∨ σ 47 (22 + f) = 4 ∨ σ 47 (22 + f) = 5 ∨ σ 47 (22 + f) = 6 ∨ (σ 47 (22 + f) < 1 ∨ 6 < σ 47 (22 + f)) := by omega
  rcases csw with c19 | c19 | c19 | c19 | c19 | c19 | c19
  · refine x_tabIn (tgt := 56) (pc := 19) hC (by omega) dX12_isAt_19 (by omega) (by omega) 0 (by omega) rfl (by decide) ?_
    refine x_aload_n (pc := 56) hC dX12_isAt_56 rfl ?_
    refine x_iload_n (pc := 57) hC dX12_isAt_57 rfl ?_
    refine x_iload_n (pc := 58) hC dX12_isAt_58 rfl ?_
    refine x_callV1 (As := [_, _]) (Bs := [_, _]) (pc := 59) hC (s_swinging E hk hw (by assumption) (by omega) (by omega)) wX12_141_12 pX12_swinging (by assumption) rfl rfl (by exact Nat.le_of_ble_eq_true rfl) hR (by decide) (by decide) (by decide) rfl dX12_isAt_59 ?_
    refine x_ireturn hC hZ dX12_isAt_62 (by decide) (by decide) ?_
    first | exact ⟨congrArg (fun z => some (Value.int (iI z))) (by unfold isAtF; rw [if_pos (by omega)]), rfl, rfl, rfl⟩ | exact ⟨congrArg (fun z => some (Value.int (iI z))) (by unfold isAtF; rw [if_neg (by omega), if_pos (by omega)]), rfl, rfl, rfl⟩ | exact ⟨congrArg (fun z => some (Value.int (iI z))) (by unfold isAtF; rw [if_neg (by omega), if_neg (by omega), if_pos (by omega)]), rfl, rfl, rfl⟩ | exact ⟨congrArg (fun z => some (Value.int (iI z))) (by unfold isAtF; rw [if_neg (by omega), if_neg (by omega), if_neg (by omega), if_pos (by omega), if_pos (by omega)]), rfl, rfl, rfl⟩ | exact ⟨congrArg (fun z => some (Value.int (iI z))) (by unfold isAtF; rw [if_neg (by omega), if_neg (by omega), if_neg (by omega), if_pos (by omega), if_neg (by omega)]), rfl, rfl, rfl⟩ | exact ⟨congrArg (fun z => some (Value.int (iI z))) (by unfold isAtF; rw [if_neg (by omega), if_neg (by omega), if_neg (by omega), if_neg (by omega), if_pos (by omega)]), rfl, rfl, rfl⟩ | exact ⟨congrArg (fun z => some (Value.int (iI z))) (by unfold isAtF; rw [if_neg (by omega), if_neg (by omega), if_neg (by omega), if_neg (by omega), if_neg (by omega)]), rfl, rfl, rfl⟩
  · refine x_tabIn (tgt := 63) (pc := 19) hC (by omega) dX12_isAt_19 (by omega) (by omega) 1 (by omega) rfl (by decide) ?_
    refine x_aload_n (pc := 63) hC dX12_isAt_63 rfl ?_
    refine x_getr (K := 1) (pc := 64) hC fX12_9_12 (by assumption) dX12_isAt_64 rfl rfl (by assumption) ?_
    refine x_bipush (pc := 67) hC dX12_isAt_67 (by decide +kernel) ?_
    refine x_iload_n (pc := 69) hC dX12_isAt_69 rfl ?_
    refine x_iadd (pc := 70) hC dX12_isAt_70 ?_
    refine x_iald (pc := 71) hC (by assumption) (by omega) dX12_isAt_71 ?_
    refine x_iload_n (pc := 72) hC dX12_isAt_72 rfl ?_
    refine x_iload_n (pc := 73) hC dX12_isAt_73 rfl ?_
    refine x_idiv (pc := 74) hC (by omega) dX12_isAt_74 ?_
    refine x_aload_n (pc := 75) hC dX12_isAt_75 rfl ?_
    refine x_getr (K := 1) (pc := 76) hC fX12_9_12 (by assumption) dX12_isAt_76 rfl rfl (by assumption) ?_
    refine x_bipush (pc := 79) hC dX12_isAt_79 (by decide +kernel) ?_
    refine x_iload_n (pc := 81) hC dX12_isAt_81 rfl ?_
    refine x_iadd (pc := 82) hC dX12_isAt_82 ?_
    refine x_iald (pc := 83) hC (by assumption) (by omega) dX12_isAt_83 ?_
    refine x_aload_n (pc := 84) hC dX12_isAt_84 rfl ?_
    refine x_getr (K := 1) (pc := 85) hC fX12_9_12 (by assumption) dX12_isAt_85 rfl rfl (by assumption) ?_
    refine x_bipush (pc := 88) hC dX12_isAt_88 (by decide +kernel) ?_
    refine x_iload_n (pc := 90) hC dX12_isAt_90 rfl ?_
    refine x_iadd (pc := 91) hC dX12_isAt_91 ?_
    refine x_iald (pc := 92) hC (by assumption) (by omega) dX12_isAt_92 ?_
    refine x_isub (pc := 93) hC dX12_isAt_93 ?_
    refine x_iconst (pc := 94) hC dX12_isAt_94 ?_
    refine x_iadd (pc := 95) hC dX12_isAt_95 ?_
    refine x_irem (pc := 96) hC (by omega) dX12_isAt_96 ?_
    refine x_iadd (pc := 97) hC dX12_isAt_97 ?_
    refine x_ireturn hC hZ dX12_isAt_98 (by decide) (by decide) ?_
    first | exact ⟨congrArg (fun z => some (Value.int (iI z))) (by unfold isAtF; rw [if_pos (by omega)]), rfl, rfl, rfl⟩ | exact ⟨congrArg (fun z => some (Value.int (iI z))) (by unfold isAtF; rw [if_neg (by omega), if_pos (by omega)]), rfl, rfl, rfl⟩ | exact ⟨congrArg (fun z => some (Value.int (iI z))) (by unfold isAtF; rw [if_neg (by omega), if_neg (by omega), if_pos (by omega)]), rfl, rfl, rfl⟩ | exact ⟨congrArg (fun z => some (Value.int (iI z))) (by unfold isAtF; rw [if_neg (by omega), if_neg (by omega), if_neg (by omega), if_pos (by omega), if_pos (by omega)]), rfl, rfl, rfl⟩ | exact ⟨congrArg (fun z => some (Value.int (iI z))) (by unfold isAtF; rw [if_neg (by omega), if_neg (by omega), if_neg (by omega), if_pos (by omega), if_neg (by omega)]), rfl, rfl, rfl⟩ | exact ⟨congrArg (fun z => some (Value.int (iI z))) (by unfold isAtF; rw [if_neg (by omega), if_neg (by omega), if_neg (by omega), if_neg (by omega), if_pos (by omega)]), rfl, rfl, rfl⟩ | exact ⟨congrArg (fun z => some (Value.int (iI z))) (by unfold isAtF; rw [if_neg (by omega), if_neg (by omega), if_neg (by omega), if_neg (by omega), if_neg (by omega)]), rfl, rfl, rfl⟩
  · refine x_tabIn (tgt := 99) (pc := 19) hC (by omega) dX12_isAt_19 (by omega) (by omega) 2 (by omega) rfl (by decide) ?_
    refine x_aload_n (pc := 99) hC dX12_isAt_99 rfl ?_
    refine x_getr (K := 1) (pc := 100) hC fX12_9_12 (by assumption) dX12_isAt_100 rfl rfl (by assumption) ?_
    refine x_bipush (pc := 103) hC dX12_isAt_103 (by decide +kernel) ?_
    refine x_iload_n (pc := 105) hC dX12_isAt_105 rfl ?_
    refine x_iadd (pc := 106) hC dX12_isAt_106 ?_
    refine x_iald (pc := 107) hC (by assumption) (by omega) dX12_isAt_107 ?_
    refine x_ireturn hC hZ dX12_isAt_108 (by decide) (by decide) ?_
    first | exact ⟨congrArg (fun z => some (Value.int (iI z))) (by unfold isAtF; rw [if_pos (by omega)]), rfl, rfl, rfl⟩ | exact ⟨congrArg (fun z => some (Value.int (iI z))) (by unfold isAtF; rw [if_neg (by omega), if_pos (by omega)]), rfl, rfl, rfl⟩ | exact ⟨congrArg (fun z => some (Value.int (iI z))) (by unfold isAtF; rw [if_neg (by omega), if_neg (by omega), if_pos (by omega)]), rfl, rfl, rfl⟩ | exact ⟨congrArg (fun z => some (Value.int (iI z))) (by unfold isAtF; rw [if_neg (by omega), if_neg (by omega), if_neg (by omega), if_pos (by omega), if_pos (by omega)]), rfl, rfl, rfl⟩ | exact ⟨congrArg (fun z => some (Value.int (iI z))) (by unfold isAtF; rw [if_neg (by omega), if_neg (by omega), if_neg (by omega), if_pos (by omega), if_neg (by omega)]), rfl, rfl, rfl⟩ | exact ⟨congrArg (fun z => some (Value.int (iI z))) (by unfold isAtF; rw [if_neg (by omega), if_neg (by omega), if_neg (by omega), if_neg (by omega), if_pos (by omega)]), rfl, rfl, rfl⟩ | exact ⟨congrArg (fun z => some (Value.int (iI z))) (by unfold isAtF; rw [if_neg (by omega), if_neg (by omega), if_neg (by omega), if_neg (by omega), if_neg (by omega)]), rfl, rfl, rfl⟩
  · refine x_tabIn (tgt := 56) (pc := 19) hC (by omega) dX12_isAt_19 (by omega) (by omega) 3 (by omega) rfl (by decide) ?_
    refine x_aload_n (pc := 56) hC dX12_isAt_56 rfl ?_
    refine x_iload_n (pc := 57) hC dX12_isAt_57 rfl ?_
    refine x_iload_n (pc := 58) hC dX12_isAt_58 rfl ?_
    refine x_callV1 (As := [_, _]) (Bs := [_, _]) (pc := 59) hC (s_swinging E hk hw (by assumption) (by omega) (by omega)) wX12_141_12 pX12_swinging (by assumption) rfl rfl (by exact Nat.le_of_ble_eq_true rfl) hR (by decide) (by decide) (by decide) rfl dX12_isAt_59 ?_
    refine x_ireturn hC hZ dX12_isAt_62 (by decide) (by decide) ?_
    first | exact ⟨congrArg (fun z => some (Value.int (iI z))) (by unfold isAtF; rw [if_pos (by omega)]), rfl, rfl, rfl⟩ | exact ⟨congrArg (fun z => some (Value.int (iI z))) (by unfold isAtF; rw [if_neg (by omega), if_pos (by omega)]), rfl, rfl, rfl⟩ | exact ⟨congrArg (fun z => some (Value.int (iI z))) (by unfold isAtF; rw [if_neg (by omega), if_neg (by omega), if_pos (by omega)]), rfl, rfl, rfl⟩ | exact ⟨congrArg (fun z => some (Value.int (iI z))) (by unfold isAtF; rw [if_neg (by omega), if_neg (by omega), if_neg (by omega), if_pos (by omega), if_pos (by omega)]), rfl, rfl, rfl⟩ | exact ⟨congrArg (fun z => some (Value.int (iI z))) (by unfold isAtF; rw [if_neg (by omega), if_neg (by omega), if_neg (by omega), if_pos (by omega), if_neg (by omega)]), rfl, rfl, rfl⟩ | exact ⟨congrArg (fun z => some (Value.int (iI z))) (by unfold isAtF; rw [if_neg (by omega), if_neg (by omega), if_neg (by omega), if_neg (by omega), if_pos (by omega)]), rfl, rfl, rfl⟩ | exact ⟨congrArg (fun z => some (Value.int (iI z))) (by unfold isAtF; rw [if_neg (by omega), if_neg (by omega), if_neg (by omega), if_neg (by omega), if_neg (by omega)]), rfl, rfl, rfl⟩
  · refine x_tabIn (tgt := 109) (pc := 19) hC (by omega) dX12_isAt_19 (by omega) (by omega) 4 (by omega) rfl (by decide) ?_
    refine x_aload_n (pc := 109) hC dX12_isAt_109 rfl ?_
    refine x_getr (K := 1) (pc := 110) hC fX12_9_12 (by assumption) dX12_isAt_110 rfl rfl (by assumption) ?_
    refine x_bipush (pc := 113) hC dX12_isAt_113 (by decide +kernel) ?_
    refine x_iald (pc := 115) hC (by assumption) (by omega) dX12_isAt_115 ?_
    refine x_if_ne (tgt := 131) (pc := 116) hC (by omega) dX12_isAt_116 (by decide) (fun c116 => ?_) (fun c116 => ?_)
    · have hm2 := emod_in (t := t / 10) (d := σ 47 14) (by omega)
      have hd2 := tdiv_lt (t := t) (d := 10) (by omega) (by omega)
      refine x_aload_n (pc := 131) hC dX12_isAt_131 rfl ?_
      refine x_getr (K := 1) (pc := 132) hC fX12_9_12 (by assumption) dX12_isAt_132 rfl rfl (by assumption) ?_
      refine x_bipush (pc := 135) hC dX12_isAt_135 (by decide +kernel) ?_
      refine x_iload_n (pc := 137) hC dX12_isAt_137 rfl ?_
      refine x_bipush (pc := 138) hC dX12_isAt_138 (by decide +kernel) ?_
      refine x_idiv (pc := 140) hC (by omega) dX12_isAt_140 ?_
      refine x_aload_n (pc := 141) hC dX12_isAt_141 rfl ?_
      refine x_getr (K := 1) (pc := 142) hC fX12_9_12 (by assumption) dX12_isAt_142 rfl rfl (by assumption) ?_
      refine x_bipush (pc := 145) hC dX12_isAt_145 (by decide +kernel) ?_
      refine x_iald (pc := 147) hC (by assumption) (by omega) dX12_isAt_147 ?_
      refine x_irem (pc := 148) hC (by omega) dX12_isAt_148 ?_
      refine x_iadd (pc := 149) hC dX12_isAt_149 ?_
      refine x_iald (pc := 150) hC (by assumption) (by omega) dX12_isAt_150 ?_
      refine x_ireturn hC hZ dX12_isAt_151 (by decide) (by decide) ?_
      first | exact ⟨congrArg (fun z => some (Value.int (iI z))) (by unfold isAtF; rw [if_pos (by omega)]), rfl, rfl, rfl⟩ | exact ⟨congrArg (fun z => some (Value.int (iI z))) (by unfold isAtF; rw [if_neg (by omega), if_pos (by omega)]), rfl, rfl, rfl⟩ | exact ⟨congrArg (fun z => some (Value.int (iI z))) (by unfold isAtF; rw [if_neg (by omega), if_neg (by omega), if_pos (by omega)]), rfl, rfl, rfl⟩ | exact ⟨congrArg (fun z => some (Value.int (iI z))) (by unfold isAtF; rw [if_neg (by omega), if_neg (by omega), if_neg (by omega), if_pos (by omega), if_pos (by omega)]), rfl, rfl, rfl⟩ | exact ⟨congrArg (fun z => some (Value.int (iI z))) (by unfold isAtF; rw [if_neg (by omega), if_neg (by omega), if_neg (by omega), if_pos (by omega), if_neg (by omega)]), rfl, rfl, rfl⟩ | exact ⟨congrArg (fun z => some (Value.int (iI z))) (by unfold isAtF; rw [if_neg (by omega), if_neg (by omega), if_neg (by omega), if_neg (by omega), if_pos (by omega)]), rfl, rfl, rfl⟩ | exact ⟨congrArg (fun z => some (Value.int (iI z))) (by unfold isAtF; rw [if_neg (by omega), if_neg (by omega), if_neg (by omega), if_neg (by omega), if_neg (by omega)]), rfl, rfl, rfl⟩
    · refine x_aload_n (pc := 119) hC dX12_isAt_119 rfl ?_
      refine x_getr (K := 1) (pc := 120) hC fX12_9_12 (by assumption) dX12_isAt_120 rfl rfl (by assumption) ?_
      refine x_bipush (pc := 123) hC dX12_isAt_123 (by decide +kernel) ?_
      refine x_iload_n (pc := 125) hC dX12_isAt_125 rfl ?_
      refine x_iadd (pc := 126) hC dX12_isAt_126 ?_
      refine x_iald (pc := 127) hC (by assumption) (by omega) dX12_isAt_127 ?_
      refine x_goto (tgt := 151) (pc := 128) hC dX12_isAt_128 (by decide) ?_
      refine x_ireturn hC hZ dX12_isAt_151 (by decide) (by decide) ?_
      first | exact ⟨congrArg (fun z => some (Value.int (iI z))) (by unfold isAtF; rw [if_pos (by omega)]), rfl, rfl, rfl⟩ | exact ⟨congrArg (fun z => some (Value.int (iI z))) (by unfold isAtF; rw [if_neg (by omega), if_pos (by omega)]), rfl, rfl, rfl⟩ | exact ⟨congrArg (fun z => some (Value.int (iI z))) (by unfold isAtF; rw [if_neg (by omega), if_neg (by omega), if_pos (by omega)]), rfl, rfl, rfl⟩ | exact ⟨congrArg (fun z => some (Value.int (iI z))) (by unfold isAtF; rw [if_neg (by omega), if_neg (by omega), if_neg (by omega), if_pos (by omega), if_pos (by omega)]), rfl, rfl, rfl⟩ | exact ⟨congrArg (fun z => some (Value.int (iI z))) (by unfold isAtF; rw [if_neg (by omega), if_neg (by omega), if_neg (by omega), if_pos (by omega), if_neg (by omega)]), rfl, rfl, rfl⟩ | exact ⟨congrArg (fun z => some (Value.int (iI z))) (by unfold isAtF; rw [if_neg (by omega), if_neg (by omega), if_neg (by omega), if_neg (by omega), if_pos (by omega)]), rfl, rfl, rfl⟩ | exact ⟨congrArg (fun z => some (Value.int (iI z))) (by unfold isAtF; rw [if_neg (by omega), if_neg (by omega), if_neg (by omega), if_neg (by omega), if_neg (by omega)]), rfl, rfl, rfl⟩
  · refine x_tabIn (tgt := 152) (pc := 19) hC (by omega) dX12_isAt_19 (by omega) (by omega) 5 (by omega) rfl (by decide) ?_
    refine x_aload_n (pc := 152) hC dX12_isAt_152 rfl ?_
    refine x_getr (K := 1) (pc := 153) hC fX12_9_12 (by assumption) dX12_isAt_153 rfl rfl (by assumption) ?_
    refine x_bipush (pc := 156) hC dX12_isAt_156 (by decide +kernel) ?_
    refine x_iconst (pc := 158) hC dX12_isAt_158 ?_
    refine x_iload_n (pc := 159) hC dX12_isAt_159 rfl ?_
    refine x_imul (pc := 160) hC dX12_isAt_160 ?_
    refine x_iadd (pc := 161) hC dX12_isAt_161 ?_
    refine x_iload_n (pc := 162) hC dX12_isAt_162 rfl ?_
    refine x_iload_n (pc := 163) hC dX12_isAt_163 rfl ?_
    refine x_idiv (pc := 164) hC (by omega) dX12_isAt_164 ?_
    refine x_iconst (pc := 165) hC dX12_isAt_165 ?_
    refine x_irem (pc := 166) hC (by omega) dX12_isAt_166 ?_
    refine x_iadd (pc := 167) hC dX12_isAt_167 ?_
    refine x_iald (pc := 168) hC (by assumption) (by omega) dX12_isAt_168 ?_
    refine x_ireturn hC hZ dX12_isAt_169 (by decide) (by decide) ?_
    first | exact ⟨congrArg (fun z => some (Value.int (iI z))) (by unfold isAtF; rw [if_pos (by omega)]), rfl, rfl, rfl⟩ | exact ⟨congrArg (fun z => some (Value.int (iI z))) (by unfold isAtF; rw [if_neg (by omega), if_pos (by omega)]), rfl, rfl, rfl⟩ | exact ⟨congrArg (fun z => some (Value.int (iI z))) (by unfold isAtF; rw [if_neg (by omega), if_neg (by omega), if_pos (by omega)]), rfl, rfl, rfl⟩ | exact ⟨congrArg (fun z => some (Value.int (iI z))) (by unfold isAtF; rw [if_neg (by omega), if_neg (by omega), if_neg (by omega), if_pos (by omega), if_pos (by omega)]), rfl, rfl, rfl⟩ | exact ⟨congrArg (fun z => some (Value.int (iI z))) (by unfold isAtF; rw [if_neg (by omega), if_neg (by omega), if_neg (by omega), if_pos (by omega), if_neg (by omega)]), rfl, rfl, rfl⟩ | exact ⟨congrArg (fun z => some (Value.int (iI z))) (by unfold isAtF; rw [if_neg (by omega), if_neg (by omega), if_neg (by omega), if_neg (by omega), if_pos (by omega)]), rfl, rfl, rfl⟩ | exact ⟨congrArg (fun z => some (Value.int (iI z))) (by unfold isAtF; rw [if_neg (by omega), if_neg (by omega), if_neg (by omega), if_neg (by omega), if_neg (by omega)]), rfl, rfl, rfl⟩
  · refine x_tabOut (tgt := 170) (pc := 19) hC (by omega) dX12_isAt_19 (by omega) (by decide) ?_
    refine x_aload_n (pc := 170) hC dX12_isAt_170 rfl ?_
    refine x_getr (K := 1) (pc := 171) hC fX12_9_12 (by assumption) dX12_isAt_171 rfl rfl (by assumption) ?_
    refine x_bipush (pc := 174) hC dX12_isAt_174 (by decide +kernel) ?_
    refine x_iload_n (pc := 176) hC dX12_isAt_176 rfl ?_
    refine x_iadd (pc := 177) hC dX12_isAt_177 ?_
    refine x_iald (pc := 178) hC (by assumption) (by omega) dX12_isAt_178 ?_
    refine x_ireturn hC hZ dX12_isAt_179 (by decide) (by decide) ?_
    first | exact ⟨congrArg (fun z => some (Value.int (iI z))) (by unfold isAtF; rw [if_pos (by omega)]), rfl, rfl, rfl⟩ | exact ⟨congrArg (fun z => some (Value.int (iI z))) (by unfold isAtF; rw [if_neg (by omega), if_pos (by omega)]), rfl, rfl, rfl⟩ | exact ⟨congrArg (fun z => some (Value.int (iI z))) (by unfold isAtF; rw [if_neg (by omega), if_neg (by omega), if_pos (by omega)]), rfl, rfl, rfl⟩ | exact ⟨congrArg (fun z => some (Value.int (iI z))) (by unfold isAtF; rw [if_neg (by omega), if_neg (by omega), if_neg (by omega), if_pos (by omega), if_pos (by omega)]), rfl, rfl, rfl⟩ | exact ⟨congrArg (fun z => some (Value.int (iI z))) (by unfold isAtF; rw [if_neg (by omega), if_neg (by omega), if_neg (by omega), if_pos (by omega), if_neg (by omega)]), rfl, rfl, rfl⟩ | exact ⟨congrArg (fun z => some (Value.int (iI z))) (by unfold isAtF; rw [if_neg (by omega), if_neg (by omega), if_neg (by omega), if_neg (by omega), if_pos (by omega)]), rfl, rfl, rfl⟩ | exact ⟨congrArg (fun z => some (Value.int (iI z))) (by unfold isAtF; rw [if_neg (by omega), if_neg (by omega), if_neg (by omega), if_neg (by omega), if_neg (by omega)]), rfl, rfl, rfl⟩

set_option maxHeartbeats 4000000 in
set_option maxRecDepth 100000 in
theorem s_reaches (E : xE) {σ : xM} {ρ : xR} {ks : xKs} (hk : MK ks) (hw : MW ρ) {f t : Int} (hf : FanOk (σ 47) f) (hsit : SitOk (σ 47)) (hi : 0 ≤ f ∧ f < 4) (ht : 0 ≤ t ∧ t < 1000000) : Sp E yX12_reaches kX12_reaches 3 0 0 [.ref 46, .int (iI f), .int (iI t)] σ ρ ks (Fn (some (.int (iI (reachF (σ 47) f t)))) (σ) ρ ks) := by
  obtain ⟨k46, k47, k48, k49, k50, k51, k52, k53, k54⟩ := id hk
  obtain ⟨w1, w2, w3, w10, w11, w14, w15, w16⟩ := id hw
  have ha := isAt_in hf hsit ht.1
  obtain ⟨f1, -⟩ := id hf
  refine x_enter (own := RX12) (L := [_, _, _, _]) (by decide +kernel) rfl (by exact Nat.le_of_ble_eq_true rfl) rfl (fun p e R s m args below meth c Z hZ hC hR hin => ?_)
  refine x_aload_n (pc := 0) hC dX12_reaches_0 rfl ?_
  refine x_iload_n (pc := 1) hC dX12_reaches_1 rfl ?_
  refine x_iload_n (pc := 2) hC dX12_reaches_2 rfl ?_
  refine x_callV1 (As := [_, _]) (Bs := [_, _]) (pc := 3) hC (s_isAt E hk hw (by assumption) (by assumption) (by omega) (by omega)) wX12_144_12 pX12_isAt (by assumption) rfl rfl (by exact Nat.le_of_ble_eq_true rfl) hR (by decide) (by decide) (by decide) rfl dX12_reaches_3 ?_
  refine x_istore_n (L' := [_, _, _, _]) (pc := 6) hC dX12_reaches_6 rfl rfl ?_
  refine x_iconst (pc := 7) hC dX12_reaches_7 ?_
  refine x_iload_n (pc := 8) hC dX12_reaches_8 rfl ?_
  refine x_ishl (pc := 9) hC dX12_reaches_9 ?_
  refine x_aload_n (pc := 10) hC dX12_reaches_10 rfl ?_
  refine x_getr (K := 1) (pc := 11) hC fX12_9_12 (by assumption) dX12_reaches_11 rfl rfl (by assumption) ?_
  refine x_bipush (pc := 14) hC dX12_reaches_14 (by decide +kernel) ?_
  refine x_iload_n (pc := 16) hC dX12_reaches_16 rfl ?_
  refine x_iadd (pc := 17) hC dX12_reaches_17 ?_
  refine x_iald (pc := 18) hC (by assumption) (by omega) dX12_reaches_18 ?_
  refine x_iconst (pc := 19) hC dX12_reaches_19 ?_
  refine x_icmp_ne (tgt := 37) (pc := 20) hC (by omega) (by omega) dX12_reaches_20 (by decide) (fun c20 => ?_) (fun c20 => ?_)
  · refine x_iconst (pc := 37) hC dX12_reaches_37 ?_
    refine x_ior (pc := 38) hC dX12_reaches_38 ?_
    refine x_ireturn hC hZ dX12_reaches_39 (by decide) (by decide) ?_
    exact ⟨congrArg (fun z => some (Value.int (iI z))) (by unfold reachF; first | rw [if_pos c20] | rw [if_neg c20]), rfl, rfl, rfl⟩
  · refine x_iconst (pc := 23) hC dX12_reaches_23 ?_
    refine x_iload_n (pc := 24) hC dX12_reaches_24 rfl ?_
    refine x_iconst (pc := 25) hC dX12_reaches_25 ?_
    refine x_iadd (pc := 26) hC dX12_reaches_26 ?_
    refine x_iconst (pc := 27) hC dX12_reaches_27 ?_
    refine x_bipush (pc := 28) hC dX12_reaches_28 (by decide +kernel) ?_
    refine x_callS1 (As := [_, _, _]) (Bs := [_, _, _]) (pc := 30) hC (s_within E (by omega) (by omega) (by omega)) wX12_147 pX12_within rfl rfl (by exact Nat.le_of_ble_eq_true rfl) hR (by decide) (by decide) (by decide) rfl dX12_reaches_30 ?_
    refine x_ishl (pc := 33) hC dX12_reaches_33 ?_
    refine x_goto (tgt := 38) (pc := 34) hC dX12_reaches_34 (by decide) ?_
    refine x_ior (pc := 38) hC dX12_reaches_38 ?_
    refine x_ireturn hC hZ dX12_reaches_39 (by decide) (by decide) ?_
    exact ⟨congrArg (fun z => some (Value.int (iI z))) (by unfold reachF; first | rw [if_pos c20] | rw [if_neg c20]), rfl, rfl, rfl⟩
