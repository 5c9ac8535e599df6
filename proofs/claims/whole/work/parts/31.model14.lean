def SeenOk (z : zS) : Prop := (0 ≤ z 16 ∧ z 16 ≤ 6) ∧ ∀ k, 0 ≤ k → k < z 16 → (0 ≤ z (68 + k) ∧ z (68 + k) < z 14) ∧ (0 ≤ z (74 + k) ∧ z (74 + k) ≤ 60) ∧ (0 ≤ z (80 + k) ∧ z (80 + k) ≤ 99)
abbrev seenP (z : zS) (p x : Int) : Prop := ∀ i : Nat, i < (z 16).toNat → z (68 + i) = p → seatF z p x (z (74 + i)).toNat = z (80 + i)
def satA (z : zS) (p : Int) : Int := if ¬ (0 ≤ p ∧ p ≤ z 14 - 1) then -1 else chain (fun x => if seenP z p x then bShl 1 x else 0) 10
set_option maxHeartbeats 4000000 in
set_option maxRecDepth 100000 in
theorem s_isAsSeen (E : xE) {σ : xM} {ρ : xR} {ks : xKs} (hk : MK ks) (hw : MW ρ) {q x : Int} (hse : SeenOk (σ 47)) (hq : 0 ≤ q ∧ q < 6) (hx : 0 ≤ x ∧ x ≤ 9) (hpl : PlOk (σ 47)) (ht : σ 47 0 + 100 < 900000) : Sp E yX12_isAsSeen kX12_isAsSeen 7 0 0 [.ref 46, .int (iI q), .int (iI x)] σ ρ ks (fun r σ' ρ' ks' => r = some (.int (iI (bI (seenP (σ 47) q x)))) ∧ Ask σ σ' ∧ ρ' = ρ ∧ ks' = ks) := by
  obtain ⟨k46, k47, k48, k49, k50, k51, k52, k53, k54⟩ := id hk
  obtain ⟨w1, w2, w3, w10, w11, w14, w15, w16⟩ := id hw
  refine x_enter (own := RX12) (L := [_, _, _, _]) (by decide +kernel) rfl (by exact Nat.le_of_ble_eq_true rfl) rfl (fun p e R s m args below meth c Z hZ hC hR hin => ?_)
  have h14 := hpl.2.1.1
  have hs0 := hse.1
  have loop : ∀ (i k : Nat) (j : Int) (μ : xM), j = k → (k : Int) + i = σ 47 16 → Ask σ μ → (∀ y : Nat, y < k → σ 47 (68 + y) = q → seatF (σ 47) q x (σ 47 (74 + y)).toNat = σ 47 (80 + y)) → X E p e R s m args below meth c Z 0 0 μ ρ ks 2 [some (.ref 46), some (.int (iI q)), some (.int (iI x)), some (.int (iI j))] [] := by
    intro i
    induction i with
    | zero =>
      intro k j μ hj hi hask hall
      have hs := hask.s
      have h16m : μ 47 16 = σ 47 16 := congrFun hs 16
      refine x_iload_n (pc := 2) hC dX12_isAsSeen_2 rfl ?_
      refine x_aload_n (pc := 3) hC dX12_isAsSeen_3 rfl ?_
      refine x_getr (K := 1) (pc := 4) hC fX12_9_12 (by assumption) dX12_isAsSeen_4 rfl rfl (by assumption) ?_
      refine x_bipush (pc := 7) hC dX12_isAsSeen_7 (by decide +kernel) ?_
      refine x_iald (pc := 9) hC (by assumption) (by omega) dX12_isAsSeen_9 ?_
      refine x_icmp_ge (tgt := 61) (pc := 10) hC (by omega) (by omega) dX12_isAsSeen_10 (by decide) (fun c10 => ?_) (fun c10 => by (exfalso; omega))
      refine x_iconst (pc := 61) hC dX12_isAsSeen_61 ?_
      refine x_zreturn hC hZ (by omega) dX12_isAsSeen_62 (by decide) (by decide) ?_
      exact ⟨congrArg (fun z => some (Value.int (iI z))) (by rw [bI_t (show seenP _ _ _ from fun y hy => hall y (by omega))]), hask, rfl, rfl⟩
    | succ i ih =>
      intro k j μ hj hi hask hall
      have hs := hask.s
      have h16m : μ 47 16 = σ 47 16 := congrFun hs 16
      obtain ⟨s1, s2, s3⟩ := hse.2 j (by omega) (by omega)
      have m1 : μ 47 (68 + j) = σ 47 (68 + j) := congrFun hs _
      have m2 : μ 47 (74 + j) = σ 47 (74 + j) := congrFun hs _
      have m3 : μ 47 (80 + j) = σ 47 (80 + j) := congrFun hs _
      have hpm : PlOk (μ 47) := by rw [hs]; exact hpl
      have hsf := seatF_in hpl hq hx (σ 47 (74 + j)).toNat (by omega)
      refine x_iload_n (pc := 2) hC dX12_isAsSeen_2 rfl ?_
      refine x_aload_n (pc := 3) hC dX12_isAsSeen_3 rfl ?_
      refine x_getr (K := 1) (pc := 4) hC fX12_9_12 (by assumption) dX12_isAsSeen_4 rfl rfl (by assumption) ?_
      refine x_bipush (pc := 7) hC dX12_isAsSeen_7 (by decide +kernel) ?_
      refine x_iald (pc := 9) hC (by assumption) (by omega) dX12_isAsSeen_9 ?_
      refine x_icmp_ge (tgt := 61) (pc := 10) hC (by omega) (by omega) dX12_isAsSeen_10 (by decide) (fun c10 => by (exfalso; omega)) (fun c10 => ?_)
      refine x_aload_n (pc := 13) hC dX12_isAsSeen_13 rfl ?_
      refine x_getr (K := 1) (pc := 14) hC fX12_9_12 (by assumption) dX12_isAsSeen_14 rfl rfl (by assumption) ?_
      refine x_bipush (pc := 17) hC dX12_isAsSeen_17 (by decide +kernel) ?_
      refine x_iload_n (pc := 19) hC dX12_isAsSeen_19 rfl ?_
      refine x_iadd (pc := 20) hC dX12_isAsSeen_20 ?_
      refine x_iald (pc := 21) hC (by assumption) (by omega) dX12_isAsSeen_21 ?_
      refine x_iload_n (pc := 22) hC dX12_isAsSeen_22 rfl ?_
      refine x_icmp_ne (tgt := 55) (pc := 23) hC (by omega) (by omega) dX12_isAsSeen_23 (by decide) (fun c23 => ?_) (fun c23 => ?_)
      · refine x_iinc (L' := [_, _, _, _]) (pc := 55) hC dX12_isAsSeen_55 rfl rfl rfl ?_
        refine x_goto (tgt := 2) (pc := 58) hC dX12_isAsSeen_58 (by decide) ?_
        refine ih (k + 1) (j + 1) _ (by omega) (by omega) hask (fun y hy hp2 => ?_)
        by_cases e : y = k
        · rw [e] at hp2 ⊢
          exact absurd (by rw [m1]; rw [← hj] at hp2; exact hp2) c23
        · exact hall y (by omega) hp2
      · refine x_aload_n (pc := 26) hC dX12_isAsSeen_26 rfl ?_
        refine x_iload_n (pc := 27) hC dX12_isAsSeen_27 rfl ?_
        refine x_iload_n (pc := 28) hC dX12_isAsSeen_28 rfl ?_
        refine x_aload_n (pc := 29) hC dX12_isAsSeen_29 rfl ?_
        refine x_getr (K := 1) (pc := 30) hC fX12_9_12 (by assumption) dX12_isAsSeen_30 rfl rfl (by assumption) ?_
        refine x_bipush (pc := 33) hC dX12_isAsSeen_33 (by decide +kernel) ?_
        refine x_iload_n (pc := 35) hC dX12_isAsSeen_35 rfl ?_
        refine x_iadd (pc := 36) hC dX12_isAsSeen_36 ?_
        refine x_iald (pc := 37) hC (by assumption) (by omega) dX12_isAsSeen_37 ?_
        refine x_callV (As := [_, _, _]) (Bs := [_, _, _]) (pc := 38) hC (s_heatIn E hk hw hpm hq hx (by omega) (by rw [hs]; omega)) wX12_200_12 pX12_heatIn (by assumption) rfl rfl (by exact Nat.le_of_ble_eq_true rfl) hR (by decide) (by decide) (by decide) rfl dX12_isAsSeen_38 (fun r38 σ38 ρ38 ks38 q38 => ?_)
        obtain ⟨rfl, ha, rfl, rfl⟩ := q38
        have hs2 := ha.s
        have m4 : σ38 47 (80 + j) = σ 47 (80 + j) := (congrFun hs2 _).trans m3
        rw [hs]
        refine x_aload_n (pc := 41) hC dX12_isAsSeen_41 rfl ?_
        refine x_getr (K := 1) (pc := 42) hC fX12_9_12 (by assumption) dX12_isAsSeen_42 rfl rfl (by assumption) ?_
        refine x_bipush (pc := 45) hC dX12_isAsSeen_45 (by decide +kernel) ?_
        refine x_iload_n (pc := 47) hC dX12_isAsSeen_47 rfl ?_
        refine x_iadd (pc := 48) hC dX12_isAsSeen_48 ?_
        refine x_iald (pc := 49) hC (by assumption) (by omega) dX12_isAsSeen_49 ?_
        refine x_icmp_eq (tgt := 55) (pc := 50) hC (by omega) (by omega) dX12_isAsSeen_50 (by decide) (fun c50 => ?_) (fun c50 => ?_)
        · refine x_iinc (L' := [_, _, _, _]) (pc := 55) hC dX12_isAsSeen_55 rfl rfl rfl ?_
          refine x_goto (tgt := 2) (pc := 58) hC dX12_isAsSeen_58 (by decide) ?_
          refine ih (k + 1) (j + 1) _ (by omega) (by omega) (hask.trans ha) (fun y hy hp2 => ?_)
          by_cases e : y = k
          · rw [e] at hp2 ⊢
            rw [← hj, ← m4]; exact c50
          · exact hall y (by omega) hp2
        · refine x_iconst (pc := 53) hC dX12_isAsSeen_53 ?_
          refine x_zreturn hC hZ (by omega) dX12_isAsSeen_54 (by decide) (by decide) ?_
          exact ⟨congrArg (fun z => some (Value.int (iI z))) (by rw [bI_f (fun h : seenP _ _ _ => c50 (by have := h k (by omega) (by rw [← hj]; omega); rw [← hj] at this; rw [m4]; exact this))]), hask.trans ha, rfl, rfl⟩
  refine x_iconst (pc := 0) hC dX12_isAsSeen_0 ?_
  refine x_istore_n (L' := [_, _, _, _]) (pc := 1) hC dX12_isAsSeen_1 rfl rfl ?_
  exact loop (σ 47 16).toNat 0 0 σ rfl (by omega) (Ask.rf σ) (fun y hy => by omega)

set_option maxHeartbeats 4000000 in
set_option maxRecDepth 100000 in
theorem s_sat (E : xE) {σ : xM} {ρ : xR} {ks : xKs} (hk : MK ks) (hw : MW ρ) {q : Int} (hq : rg q) (hse : SeenOk (σ 47)) (hpl : PlOk (σ 47)) (ht : σ 47 0 + 100 < 900000) : Sp E yX12_sat kX12_sat 8 0 0 [.ref 46, .int (iI q)] σ ρ ks (fun r σ' ρ' ks' => r = some (.int (iI (satA (σ 47) q))) ∧ Ask σ σ' ∧ ρ' = ρ ∧ ks' = ks) := by
  obtain ⟨k46, k47, k48, k49, k50, k51, k52, k53, k54⟩ := id hk
  obtain ⟨w1, w2, w3, w10, w11, w14, w15, w16⟩ := id hw
  refine x_enter (own := RX12) (L := [_, _, _, _]) (by decide +kernel) rfl (by exact Nat.le_of_ble_eq_true rfl) rfl (fun p e R s m args below meth c Z hZ hC hR hin => ?_)
  have h14 := hpl.2.1.1
  have loop : (0 ≤ q ∧ q ≤ σ 47 14 - 1) → ∀ (i k : Nat) (j a : Int) (μ : xM), j = k → k + i = 10 → Ask σ μ → a = chain (fun x => if seenP (σ 47) q x then bShl 1 x else 0) k → X E p e R s m args below meth c Z 0 0 μ ρ ks 14 [some (.ref 46), some (.int (iI q)), some (.int (iI a)), some (.int (iI j))] [] := by
    intro hq1 i
    induction i with
    | zero =>
      intro k j a μ hj hi hask ha
      refine x_iload_n (pc := 14) hC dX12_sat_14 rfl ?_
      refine x_bipush (pc := 15) hC dX12_sat_15 (by decide +kernel) ?_
      refine x_icmp_ge (tgt := 45) (pc := 17) hC (by omega) (by omega) dX12_sat_17 (by decide) (fun c17 => ?_) (fun c17 => by (exfalso; omega))
      refine x_iload_n (pc := 45) hC dX12_sat_45 rfl ?_
      refine x_ireturn hC hZ dX12_sat_46 (by decide) (by decide) ?_
      exact ⟨congrArg (fun z => some (Value.int (iI z))) (by rw [satA, if_neg (by omega), ha, show k = 10 by omega]), hask, rfl, rfl⟩
    | succ i ih =>
      intro k j a μ hj hi hask ha
      have hs := hask.s
      have hpm : PlOk (μ 47) := by rw [hs]; exact hpl
      have hsm : SeenOk (μ 47) := by rw [hs]; exact hse
      refine x_iload_n (pc := 14) hC dX12_sat_14 rfl ?_
      refine x_bipush (pc := 15) hC dX12_sat_15 (by decide +kernel) ?_
      refine x_icmp_ge (tgt := 45) (pc := 17) hC (by omega) (by omega) dX12_sat_17 (by decide) (fun c17 => by (exfalso; omega)) (fun c17 => ?_)
      refine x_iload_n (pc := 20) hC dX12_sat_20 rfl ?_
      refine x_aload_n (pc := 21) hC dX12_sat_21 rfl ?_
      refine x_iload_n (pc := 22) hC dX12_sat_22 rfl ?_
      refine x_iload_n (pc := 23) hC dX12_sat_23 rfl ?_
      refine x_callV (As := [_, _]) (Bs := [_, _]) (pc := 24) hC (s_isAsSeen E hk hw hsm (by omega) (by omega) hpm (by rw [hs]; omega)) wX12_225_12 pX12_isAsSeen (by assumption) rfl rfl (by exact Nat.le_of_ble_eq_true rfl) hR (by decide) (by decide) (by decide) rfl dX12_sat_24 (fun r24 σ24 ρ24 ks24 q24 => ?_)
      obtain ⟨rfl, hb, rfl, rfl⟩ := q24
      rw [hs]
      refine x_ifB_eq (tgt := 36) (pc := 27) hC  dX12_sat_27 (by decide) (fun c27 => ?_) (fun c27 => ?_)
      · refine x_iconst (pc := 36) hC dX12_sat_36 ?_
        refine x_ior (pc := 37) hC dX12_sat_37 ?_
        refine x_istore_n (L' := [_, _, _, _]) (pc := 38) hC dX12_sat_38 rfl rfl ?_
        refine x_iinc (L' := [_, _, _, _]) (pc := 39) hC dX12_sat_39 rfl rfl rfl ?_
        refine x_goto (tgt := 14) (pc := 42) hC dX12_sat_42 (by decide) ?_
        refine ih (k + 1) (j + 1) _ _ (by omega) (by omega) (hask.trans hb) ?_
        subst hj
        rw [chain_s, ← ha, if_neg c27]
      · refine x_iconst (pc := 30) hC dX12_sat_30 ?_
        refine x_iload_n (pc := 31) hC dX12_sat_31 rfl ?_
        refine x_ishl (pc := 32) hC dX12_sat_32 ?_
        refine x_goto (tgt := 37) (pc := 33) hC dX12_sat_33 (by decide) ?_
        refine x_ior (pc := 37) hC dX12_sat_37 ?_
        refine x_istore_n (L' := [_, _, _, _]) (pc := 38) hC dX12_sat_38 rfl rfl ?_
        refine x_iinc (L' := [_, _, _, _]) (pc := 39) hC dX12_sat_39 rfl rfl rfl ?_
        refine x_goto (tgt := 14) (pc := 42) hC dX12_sat_42 (by decide) ?_
        refine ih (k + 1) (j + 1) _ _ (by omega) (by omega) (hask.trans hb) ?_
        subst hj
        rw [chain_s, ← ha, if_pos c27]
  refine x_aload_n (pc := 0) hC dX12_sat_0 rfl ?_
  refine x_iload_n (pc := 1) hC dX12_sat_1 rfl ?_
  refine x_callV1 (As := [_]) (Bs := [_]) (pc := 2) hC (s_isSitter E hk hw (by omega) (by omega)) wX12_157_12 pX12_isSitter (by assumption) rfl rfl (by exact Nat.le_of_ble_eq_true rfl) hR (by decide) (by decide) (by decide) rfl dX12_sat_2 ?_
  refine x_ifB_ne (tgt := 10) (pc := 5) hC  dX12_sat_5 (by decide) (fun c5 => ?_) (fun c5 => ?_)
  · refine x_iconst (pc := 10) hC dX12_sat_10 ?_
    refine x_istore_n (L' := [_, _, _, _]) (pc := 11) hC dX12_sat_11 rfl rfl ?_
    refine x_iconst (pc := 12) hC dX12_sat_12 ?_
    refine x_istore_n (L' := [_, _, _, _]) (pc := 13) hC dX12_sat_13 rfl rfl ?_
    exact loop (by omega) 10 0 0 0 σ rfl rfl (Ask.rf σ) rfl
  · refine x_iconst (pc := 8) hC dX12_sat_8 ?_
    refine x_ireturn hC hZ dX12_sat_9 (by decide) (by decide) ?_
    exact ⟨congrArg (fun z => some (Value.int (iI z))) (by rw [satA, if_pos (by omega)]), Ask.rf σ, rfl, rfl⟩

def lowF (a b w : Int) : Int := (if w = 0 then a else b) / (Nat.gcd a.toNat b.toNat : Int)
theorem rg_cmpL (a b : Int) : rg (cmpL a b) := by unfold cmpL; split <;> (try split) <;> exact ⟨by decide, by decide⟩
theorem cmpL_0 {a : Int} (h : cmpL a 0 = 0) : a = 0 := by
  unfold cmpL at h
  split at h
  · omega
  · split at h
    · assumption
    · omega
theorem cmpL_n {a : Int} (h : ¬ cmpL a 0 = 0) : a ≠ 0 := fun e => h (by rw [e]; decide)
set_option maxHeartbeats 4000000 in
set_option maxRecDepth 100000 in
theorem s_lowest (E : xE) {σ : xM} {ρ : xR} {ks : xKs} {a b w : Int} (ha : 0 ≤ a ∧ a < 2147483648) (hb : 0 < b ∧ b < 2147483648) (hw0 : rg w) : Sp E yX12_lowest kX12_lowest 0 0 0 [.long (lL a), .long (lL b), .int (iI w)] σ ρ ks (Fn (some (.long (lL (lowF a b w)))) σ ρ ks) := by
  refine x_enter (own := RX12) (L := [_, _, _, _, _, _, _, _, _, _, _]) (by decide +kernel) rfl (by exact Nat.le_of_ble_eq_true rfl) rfl (fun p e R s m args below meth c Z hZ hC hR hin => ?_)
  have loop : ∀ (μ x y : Nat), y ≤ μ → (x : Int) < 2147483648 → (y : Int) < 2147483648 → 0 < x + y → Nat.gcd x y = Nat.gcd a.toNat b.toNat → X E p e R s m args below meth c Z 0 0 σ ρ ks 6 [some (.long (lL a)), none, some (.long (lL b)), none, some (.int (iI w)), some (.long (lL (x : Int))), none, some (.long (lL (y : Int))), none, none, none] [] := by
    intro μ
    induction μ with
    | zero =>
      intro x y hm hx hy hxy hg
      have hy0 : y = 0 := by omega
      subst hy0
      rw [Nat.gcd_zero_right] at hg
      refine x_lload (pc := 6) hC dX12_lowest_6 rfl ?_
      refine x_lconst (z := 0) (pc := 8) hC dX12_lowest_8 (by decide +kernel) ?_
      refine x_lcmp (pc := 9) hC (by first | omega | exact rg_cmpL _ _) (by first | omega | exact rg_cmpL _ _) dX12_lowest_9 ?_
      refine x_if_eq (tgt := 31) (pc := 10) hC (by first | omega | exact rg_cmpL _ _) dX12_lowest_10 (by decide) (fun c10 => ?_) (fun c10 => by (exfalso; revert c10; decide))
      refine x_iload (pc := 31) hC dX12_lowest_31 rfl ?_
      refine x_if_ne (tgt := 40) (pc := 33) hC (by first | omega | exact rg_cmpL _ _) dX12_lowest_33 (by decide) (fun c33 => ?_) (fun c33 => ?_)
      · refine x_lload_n (pc := 40) hC dX12_lowest_40 rfl ?_
        refine x_lload (pc := 41) hC dX12_lowest_41 rfl ?_
        refine x_ldiv (pc := 43) hC (by first | omega | exact rg_cmpL _ _) dX12_lowest_43 ?_
        refine x_lreturn hC hZ dX12_lowest_44 (by decide) (by decide) ?_
        exact ⟨congrArg (fun z => some (Value.long (lL z))) (by rw [lowF, ← hg, if_neg (by omega)]), rfl, rfl, rfl⟩
      · refine x_lload_n (pc := 36) hC dX12_lowest_36 rfl ?_
        refine x_goto (tgt := 41) (pc := 37) hC dX12_lowest_37 (by decide) ?_
        refine x_lload (pc := 41) hC dX12_lowest_41 rfl ?_
        refine x_ldiv (pc := 43) hC (by first | omega | exact rg_cmpL _ _) dX12_lowest_43 ?_
        refine x_lreturn hC hZ dX12_lowest_44 (by decide) (by decide) ?_
        exact ⟨congrArg (fun z => some (Value.long (lL z))) (by rw [lowF, ← hg, if_pos (by omega)]), rfl, rfl, rfl⟩
    | succ μ ih =>
      intro x y hm hx hy hxy hg
      by_cases hy0 : y = 0
      · subst hy0
        rw [Nat.gcd_zero_right] at hg
        refine x_lload (pc := 6) hC dX12_lowest_6 rfl ?_
        refine x_lconst (z := 0) (pc := 8) hC dX12_lowest_8 (by decide +kernel) ?_
        refine x_lcmp (pc := 9) hC (by first | omega | exact rg_cmpL _ _) (by first | omega | exact rg_cmpL _ _) dX12_lowest_9 ?_
        refine x_if_eq (tgt := 31) (pc := 10) hC (by first | omega | exact rg_cmpL _ _) dX12_lowest_10 (by decide) (fun c10 => ?_) (fun c10 => by (exfalso; revert c10; decide))
        refine x_iload (pc := 31) hC dX12_lowest_31 rfl ?_
        refine x_if_ne (tgt := 40) (pc := 33) hC (by first | omega | exact rg_cmpL _ _) dX12_lowest_33 (by decide) (fun c33 => ?_) (fun c33 => ?_)
        · refine x_lload_n (pc := 40) hC dX12_lowest_40 rfl ?_
          refine x_lload (pc := 41) hC dX12_lowest_41 rfl ?_
          refine x_ldiv (pc := 43) hC (by first | omega | exact rg_cmpL _ _) dX12_lowest_43 ?_
          refine x_lreturn hC hZ dX12_lowest_44 (by decide) (by decide) ?_
          exact ⟨congrArg (fun z => some (Value.long (lL z))) (by rw [lowF, ← hg, if_neg (by omega)]), rfl, rfl, rfl⟩
        · refine x_lload_n (pc := 36) hC dX12_lowest_36 rfl ?_
          refine x_goto (tgt := 41) (pc := 37) hC dX12_lowest_37 (by decide) ?_
          refine x_lload (pc := 41) hC dX12_lowest_41 rfl ?_
          refine x_ldiv (pc := 43) hC (by first | omega | exact rg_cmpL _ _) dX12_lowest_43 ?_
          refine x_lreturn hC hZ dX12_lowest_44 (by decide) (by decide) ?_
          exact ⟨congrArg (fun z => some (Value.long (lL z))) (by rw [lowF, ← hg, if_pos (by omega)]), rfl, rfl, rfl⟩
      · have hmod : x % y < y := Nat.mod_lt _ (by omega)
        refine x_lload (pc := 6) hC dX12_lowest_6 rfl ?_
        refine x_lconst (z := 0) (pc := 8) hC dX12_lowest_8 (by decide +kernel) ?_
        refine x_lcmp (pc := 9) hC (by first | omega | exact rg_cmpL _ _) (by first | omega | exact rg_cmpL _ _) dX12_lowest_9 ?_
        refine x_if_eq (tgt := 31) (pc := 10) hC (by first | omega | exact rg_cmpL _ _) dX12_lowest_10 (by decide) (fun c10 => by (exfalso; exact hy0 (by have := cmpL_0 c10; omega))) (fun c10 => ?_)
        refine x_lload (pc := 13) hC dX12_lowest_13 rfl ?_
        refine x_lload (pc := 15) hC dX12_lowest_15 rfl ?_
        refine x_lrem (pc := 17) hC (by first | omega | exact rg_cmpL _ _) dX12_lowest_17 ?_
        refine x_lstore (L' := [_, _, _, _, _, _, _, _, _, _, _]) (pc := 18) hC dX12_lowest_18 rfl rfl rfl ?_
        refine x_lload (pc := 20) hC dX12_lowest_20 rfl ?_
        refine x_lstore (L' := [_, _, _, _, _, _, _, _, _, _, _]) (pc := 22) hC dX12_lowest_22 rfl rfl rfl ?_
        refine x_lload (pc := 24) hC dX12_lowest_24 rfl ?_
        refine x_lstore (L' := [_, _, _, _, _, _, _, _, _, _, _]) (pc := 26) hC dX12_lowest_26 rfl rfl rfl ?_
        refine x_goto (tgt := 6) (pc := 28) hC dX12_lowest_28 (by decide) ?_
        rw [← Int.natCast_emod]
        exact X.drop (xLe_s (xLe_n (xLe_s (xLe_n (xLe_s (xLe_s (xLe_n (xLe_s (xLe_n (xLe_n (xLe_n xLe_0))))))))))) (ih y (x % y) (by omega) (by omega) (by omega) (by omega) (by rw [← hg, Nat.gcd_comm y, ← Nat.gcd_rec, Nat.gcd_comm]))
  refine x_lload_n (pc := 0) hC dX12_lowest_0 rfl ?_
  refine x_lstore (L' := [_, _, _, _, _, _, _, _, _, _, _]) (pc := 1) hC dX12_lowest_1 rfl rfl rfl ?_
  refine x_lload_n (pc := 3) hC dX12_lowest_3 rfl ?_
  refine x_lstore (L' := [_, _, _, _, _, _, _, _, _, _, _]) (pc := 4) hC dX12_lowest_4 rfl rfl rfl ?_
  have ea : a = (a.toNat : Int) := by omega
  have eb : b = (b.toNat : Int) := by omega
  have hl := loop b.toNat a.toNat b.toNat (by omega) (by omega) (by omega) (by omega) rfl
  rw [← ea, ← eb] at hl
  exact hl
