def mtAny (z : zS) (p s : Int) : Nat → Int
  | 0 => 0
  | i + 1 => if mtAny z p s i ≠ 0 ∨ metByF (up z 0 (s + i)) p (s + i) (z 13).toNat ≠ 0 then 1 else 0
def oddsA (z : zS) (p n w : Int) : Int := if ¬ ((0 ≤ p ∧ p ≤ z 14 - 1) ∧ (1 ≤ n ∧ n ≤ 30) ∧ (0 ≤ w ∧ w ≤ 1)) then -9223372036854775808 else lowF (sumTo (fun s => mtAny z p s n.toNat) 20) 20 w
theorem mtAny_01 (z : zS) (p s : Int) : ∀ n, mtAny z p s n = 0 ∨ mtAny z p s n = 1
  | 0 => Or.inl rfl
  | n + 1 => by unfold mtAny; split <;> simp
theorem FansOk.up0 {z : zS} (h : FansOk z) (t : Int) : FansOk (up z 0 t) := h.congr (fun j hj => up_ne _ (by omega) _)
theorem SitOk.up0 {z : zS} (h : SitOk z) (t : Int) : SitOk (up z 0 t) := by
  refine ⟨by rw [up_ne _ (by decide)]; exact h.1, fun p p0 p1 => ?_⟩
  rw [up_ne _ (by omega), up_ne _ (by omega), up_ne _ (by omega)]
  exact h.2 p p0 p1
set_option maxHeartbeats 4000000 in
set_option maxRecDepth 100000 in
theorem s_odds (E : xE) {σ : xM} {ρ : xR} {ks : xKs} (hk : MK ks) (hw : MW ρ) {q n w : Int} (hq : rg q) (hn : rg n) (hw0 : rg w) (hpl : PlOk (σ 47)) : Sp E yX12_odds kX12_odds 5 0 0 [.ref 46, .int (iI q), .int (iI n), .int (iI w)] σ ρ ks (fun r σ' ρ' ks' => r = some (.long (lL (oddsA (σ 47) q n w))) ∧ Ask σ σ' ∧ ρ' = ρ ∧ ks' = ks) := by
  obtain ⟨k46, k47, k48, k49, k50, k51, k52, k53, k54⟩ := id hk
  obtain ⟨w1, w2, w3, w10, w11, w14, w15, w16⟩ := id hw
  refine x_enter (own := RX12) (L := [_, _, _, _, _, _, _, _, _, _]) (by decide +kernel) rfl (by exact Nat.le_of_ble_eq_true rfl) rfl (fun p e R s m args below meth c Z hZ hC hR hin => ?_)
  obtain ⟨g1, g2, g3, g4⟩ := id hpl
  have hs14 := g2.1
  have loop : (0 ≤ q ∧ q ≤ σ 47 14 - 1) → (1 ≤ n ∧ n ≤ 30) → (0 ≤ w ∧ w ≤ 1) → ∀ (i k : Nat) (j a u : Int), j = k → i + k = 20 → a = sumTo (fun s => mtAny (σ 47) q s n.toNat) k → X E p e R s m args below meth c Z 0 0 (sw σ 47 (up (σ 47) 0 u)) ρ ks 45 [some (.ref 46), some (.int (iI q)), some (.int (iI n)), some (.int (iI w)), some (.int (iI (σ 47 0))), some (.long (lL a)), none, some (.int (iI j)), none, none] [] := by
    intro hq1 hn1 hw1 i
    have hin : ∀ k : Nat, 0 ≤ sumTo (fun s => mtAny (σ 47) q s n.toNat) k ∧ sumTo (fun s => mtAny (σ 47) q s n.toNat) k ≤ 1 * k := fun k => sumTo_in (N := k) (M := 1) (fun x _ => by have := mtAny_01 (σ 47) q x n.toNat; show 0 ≤ mtAny _ _ _ _ ∧ mtAny _ _ _ _ ≤ 1; omega) k (Nat.le_refl _)
    induction i with
    | zero =>
      intro k j a u hj hi ha
      have hk20 : k = 20 := by omega
      subst hk20
      have hin2 := hin 20
      rw [← ha] at hin2
      refine x_iload (pc := 45) hC dX12_odds_45 rfl ?_
      refine x_bipush (pc := 47) hC dX12_odds_47 (by decide +kernel) ?_
      refine x_icmp_ge (tgt := 123) (pc := 49) hC (by omega) (by omega) dX12_odds_49 (by decide) (fun c49 => ?_) (fun c49 => by (exfalso; omega))
      refine x_aload_n (pc := 123) hC dX12_odds_123 rfl ?_
      refine x_getr (K := 1) (pc := 124) hC fX12_9_12 (by assumption) dX12_odds_124 rfl rfl (by assumption) ?_
      refine x_iconst (pc := 127) hC dX12_odds_127 ?_
      refine x_iload (pc := 128) hC dX12_odds_128 rfl ?_
      refine x_iast (pc := 130) hC (by assumption) (by omega) dX12_odds_130 ?_
      refine X.mem (σ' := sw (sw σ 47 (up (σ 47) 0 u)) 47 _) (by exact wr_sw _ _ _ _) ?_
      skip
      refine x_lload (pc := 131) hC dX12_odds_131 rfl ?_
      refine x_ldc2 (pc := 133) hC (20) qX12_231 (by decide +kernel) dX12_odds_133 ?_
      refine x_iload_n (pc := 136) hC dX12_odds_136 rfl ?_
      refine x_callS1 (As := [_, _, _]) (Bs := [_, _, _]) (pc := 137) hC (s_lowest E (by omega) (by omega) (by omega)) wX12_233 pX12_lowest rfl rfl (by exact Nat.le_of_ble_eq_true rfl) hR (by decide) (by decide) (by decide) rfl dX12_odds_137 ?_
      refine x_lreturn hC hZ dX12_odds_140 (by decide) (by decide) ?_
      refine ⟨congrArg (fun z => some (Value.long (lL z))) (by rw [oddsA, if_neg (by omega), ← ha]), ?_, rfl, rfl⟩
      rw [sw_eq, sw_sw, up_up, up_id, sw_id]
      exact Ask.rf σ
    | succ i ih =>
      intro k j a u hj hi ha
      have loop2 : ∀ (i2 k2 : Nat) (t mt u : Int), t = j + k2 → i2 + k2 = n.toNat → mt = mtAny (σ 47) q j k2 → X E p e R s m args below meth c Z 0 0 (sw σ 47 (up (σ 47) 0 u)) ρ ks 59 [some (.ref 46), some (.int (iI q)), some (.int (iI n)), some (.int (iI w)), some (.int (iI (σ 47 0))), some (.long (lL a)), none, some (.int (iI j)), some (.int (iI mt)), some (.int (iI t))] [] := by
        intro i2
        induction i2 with
        | zero =>
          intro k2 t mt u ht2 hi2 hm
          have hm01 := mtAny_01 (σ 47) q j k2
          rw [← hm] at hm01
          refine x_iload (pc := 59) hC dX12_odds_59 rfl ?_
          refine x_iload (pc := 61) hC dX12_odds_61 rfl ?_
          refine x_iload_n (pc := 63) hC dX12_odds_63 rfl ?_
          refine x_iadd (pc := 64) hC dX12_odds_64 ?_
          refine x_icmp_ge (tgt := 102) (pc := 65) hC (by omega) (by omega) dX12_odds_65 (by decide) (fun c65 => ?_) (fun c65 => by (exfalso; omega))
          refine x_lload (pc := 102) hC dX12_odds_102 rfl ?_
          refine x_iload (pc := 104) hC dX12_odds_104 rfl ?_
          refine x_if_eq (tgt := 113) (pc := 106) hC (by omega) dX12_odds_106 (by decide) (fun c106 => ?_) (fun c106 => ?_)
          · refine x_lconst (z := 0) (pc := 113) hC dX12_odds_113 (by decide +kernel) ?_
            refine x_ladd (pc := 114) hC dX12_odds_114 ?_
            refine x_lstore (L' := [_, _, _, _, _, _, _, _, _, _]) (pc := 115) hC dX12_odds_115 rfl rfl rfl ?_
            refine x_iinc (L' := [_, _, _, _, _, _, _, _, _, _]) (pc := 117) hC dX12_odds_117 rfl rfl rfl ?_
            refine x_goto (tgt := 45) (pc := 120) hC dX12_odds_120 (by decide) ?_
            refine X.drop (xLe_s (xLe_s (xLe_s (xLe_s (xLe_s (xLe_s (xLe_n (xLe_s (xLe_n (xLe_n xLe_0)))))))))) (ih (k + 1) (j + 1) _ u (by omega) (by omega) ?_)
            rw [sumTo_s, ← ha, ← hj, show n.toNat = k2 by omega, ← hm]
            omega
          · refine x_lconst (z := 1) (pc := 109) hC dX12_odds_109 (by decide +kernel) ?_
            refine x_goto (tgt := 114) (pc := 110) hC dX12_odds_110 (by decide) ?_
            refine x_ladd (pc := 114) hC dX12_odds_114 ?_
            refine x_lstore (L' := [_, _, _, _, _, _, _, _, _, _]) (pc := 115) hC dX12_odds_115 rfl rfl rfl ?_
            refine x_iinc (L' := [_, _, _, _, _, _, _, _, _, _]) (pc := 117) hC dX12_odds_117 rfl rfl rfl ?_
            refine x_goto (tgt := 45) (pc := 120) hC dX12_odds_120 (by decide) ?_
            refine X.drop (xLe_s (xLe_s (xLe_s (xLe_s (xLe_s (xLe_s (xLe_n (xLe_s (xLe_n (xLe_n xLe_0)))))))))) (ih (k + 1) (j + 1) _ u (by omega) (by omega) ?_)
            rw [sumTo_s, ← ha, ← hj, show n.toNat = k2 by omega, ← hm]
            omega
        | succ i2 ih2 =>
          intro k2 t mt u ht2 hi2 hm
          have hm01 := mtAny_01 (σ 47) q j k2
          rw [← hm] at hm01
          refine x_iload (pc := 59) hC dX12_odds_59 rfl ?_
          refine x_iload (pc := 61) hC dX12_odds_61 rfl ?_
          refine x_iload_n (pc := 63) hC dX12_odds_63 rfl ?_
          refine x_iadd (pc := 64) hC dX12_odds_64 ?_
          refine x_icmp_ge (tgt := 102) (pc := 65) hC (by first | omega | exact chain_rg _ _) (by first | omega | exact chain_rg _ _) dX12_odds_65 (by decide) (fun c65 => by (exfalso; omega)) (fun c65 => ?_)
          refine x_aload_n (pc := 68) hC dX12_odds_68 rfl ?_
          refine x_getr (K := 1) (pc := 69) hC fX12_9_12 (by assumption) dX12_odds_69 rfl rfl (by assumption) ?_
          refine x_iconst (pc := 72) hC dX12_odds_72 ?_
          refine x_iload (pc := 73) hC dX12_odds_73 rfl ?_
          refine x_iast (pc := 75) hC (by assumption) (by first | omega | exact chain_rg _ _) dX12_odds_75 ?_
          refine X.mem (σ' := sw (sw σ 47 (up (σ 47) 0 u)) 47 _) (by exact wr_sw _ _ _ _) ?_
          refine X.mem (σ' := sw σ 47 (up (σ 47) 0 t)) (by rw [sw_eq, sw_sw, up_up]) ?_
          refine x_iload (pc := 76) hC dX12_odds_76 rfl ?_
          refine x_if_ne (tgt := 89) (pc := 78) hC (by first | omega | exact chain_rg _ _) dX12_odds_78 (by decide) (fun c78 => ?_) (fun c78 => ?_)
          · refine x_iconst (pc := 89) hC dX12_odds_89 ?_
            refine x_goto (tgt := 94) (pc := 90) hC dX12_odds_90 (by decide) ?_
            refine x_istore (L' := [_, _, _, _, _, _, _, _, _, _]) (pc := 94) hC dX12_odds_94 rfl rfl ?_
            refine x_iinc (L' := [_, _, _, _, _, _, _, _, _, _]) (pc := 96) hC dX12_odds_96 rfl rfl rfl ?_
            refine x_goto (tgt := 59) (pc := 99) hC dX12_odds_99 (by decide) ?_
            refine ih2 (k2 + 1) (t + 1) _ t (by omega) (by omega) ?_
            show _ = if _ then _ else _
            rw [show j + (k2 : Int) = t by omega]
            rw [if_pos (Or.inl (by rw [← hm]; exact c78))]
          · refine x_aload_n (pc := 81) hC dX12_odds_81 rfl ?_
            refine x_iload_n (pc := 82) hC dX12_odds_82 rfl ?_
            refine x_callV1 (As := [_]) (Bs := [_]) (pc := 83) hC (s_metBy E hk hw (by rw [sw_eq]; exact g1.up0 t) (by rw [sw_eq]; exact g2.up0 t) (by rw [sw_eq, up_eq]; omega) (by omega)) wX12_160_12 pX12_metBy (by assumption) rfl rfl (by exact Nat.le_of_ble_eq_true rfl) hR (by decide) (by decide) (by decide) rfl dX12_odds_83 ?_
            rw [sw_eq, up_eq, up_ne _ (by decide)]
            refine x_if_eq (tgt := 93) (pc := 86) hC (by first | omega | exact chain_rg _ _) dX12_odds_86 (by decide) (fun c86 => ?_) (fun c86 => ?_)
            · refine x_iconst (pc := 93) hC dX12_odds_93 ?_
              refine x_istore (L' := [_, _, _, _, _, _, _, _, _, _]) (pc := 94) hC dX12_odds_94 rfl rfl ?_
              refine x_iinc (L' := [_, _, _, _, _, _, _, _, _, _]) (pc := 96) hC dX12_odds_96 rfl rfl rfl ?_
              refine x_goto (tgt := 59) (pc := 99) hC dX12_odds_99 (by decide) ?_
              refine ih2 (k2 + 1) (t + 1) _ t (by omega) (by omega) ?_
              show _ = if _ then _ else _
              rw [show j + (k2 : Int) = t by omega]
              rw [if_neg (fun h => h.elim (fun h => h (by rw [← hm]; omega)) (fun h => h c86))]
            · refine x_iconst (pc := 89) hC dX12_odds_89 ?_
              refine x_goto (tgt := 94) (pc := 90) hC dX12_odds_90 (by decide) ?_
              refine x_istore (L' := [_, _, _, _, _, _, _, _, _, _]) (pc := 94) hC dX12_odds_94 rfl rfl ?_
              refine x_iinc (L' := [_, _, _, _, _, _, _, _, _, _]) (pc := 96) hC dX12_odds_96 rfl rfl rfl ?_
              refine x_goto (tgt := 59) (pc := 99) hC dX12_odds_99 (by decide) ?_
              refine ih2 (k2 + 1) (t + 1) _ t (by omega) (by omega) ?_
              show _ = if _ then _ else _
              rw [show j + (k2 : Int) = t by omega]
              rw [if_pos (Or.inr c86)]
      refine x_iload (pc := 45) hC dX12_odds_45 rfl ?_
      refine x_bipush (pc := 47) hC dX12_odds_47 (by decide +kernel) ?_
      refine x_icmp_ge (tgt := 123) (pc := 49) hC (by omega) (by omega) dX12_odds_49 (by decide) (fun c49 => by (exfalso; omega)) (fun c49 => ?_)
      refine x_iconst (pc := 52) hC dX12_odds_52 ?_
      refine x_istore (L' := [_, _, _, _, _, _, _, _, _, _]) (pc := 53) hC dX12_odds_53 rfl rfl ?_
      refine x_iload (pc := 55) hC dX12_odds_55 rfl ?_
      refine x_istore (L' := [_, _, _, _, _, _, _, _, _, _]) (pc := 57) hC dX12_odds_57 rfl rfl ?_
      exact loop2 n.toNat 0 _ 0 u (by omega) (by omega) rfl
  refine x_aload_n (pc := 0) hC dX12_odds_0 rfl ?_
  refine x_iload_n (pc := 1) hC dX12_odds_1 rfl ?_
  refine x_callV1 (As := [_]) (Bs := [_]) (pc := 2) hC (s_isSitter E hk hw (by omega) (by omega)) wX12_157_12 pX12_isSitter (by assumption) rfl rfl (by exact Nat.le_of_ble_eq_true rfl) hR (by decide) (by decide) (by decide) rfl dX12_odds_2 ?_
  refine x_ifB_eq (tgt := 27) (pc := 5) hC  dX12_odds_5 (by decide) (fun c5 => ?_) (fun c5 => ?_)
  · refine x_ldc2 (pc := 27) hC (-9223372036854775808) qX12_229 (by decide +kernel) dX12_odds_27 ?_
    refine x_lreturn hC hZ dX12_odds_30 (by decide) (by decide) ?_
    exact ⟨congrArg (fun z => some (Value.long (lL z))) (by rw [oddsA, if_pos (by omega)]), Ask.rf σ, rfl, rfl⟩
  · refine x_iload_n (pc := 8) hC dX12_odds_8 rfl ?_
    refine x_iconst (pc := 9) hC dX12_odds_9 ?_
    refine x_bipush (pc := 10) hC dX12_odds_10 (by decide +kernel) ?_
    refine x_callS1 (As := [_, _, _]) (Bs := [_, _, _]) (pc := 12) hC (s_in E (by omega) (by omega) (by omega)) wX12_41 pX12_in rfl rfl (by exact Nat.le_of_ble_eq_true rfl) hR (by decide) (by decide) (by decide) rfl dX12_odds_12 ?_
    refine x_ifB_eq (tgt := 27) (pc := 15) hC  dX12_odds_15 (by decide) (fun c15 => ?_) (fun c15 => ?_)
    · refine x_ldc2 (pc := 27) hC (-9223372036854775808) qX12_229 (by decide +kernel) dX12_odds_27 ?_
      refine x_lreturn hC hZ dX12_odds_30 (by decide) (by decide) ?_
      exact ⟨congrArg (fun z => some (Value.long (lL z))) (by rw [oddsA, if_pos (by omega)]), Ask.rf σ, rfl, rfl⟩
    · refine x_iload_n (pc := 18) hC dX12_odds_18 rfl ?_
      refine x_iconst (pc := 19) hC dX12_odds_19 ?_
      refine x_iconst (pc := 20) hC dX12_odds_20 ?_
      refine x_callS1 (As := [_, _, _]) (Bs := [_, _, _]) (pc := 21) hC (s_in E (by omega) (by omega) (by omega)) wX12_41 pX12_in rfl rfl (by exact Nat.le_of_ble_eq_true rfl) hR (by decide) (by decide) (by decide) rfl dX12_odds_21 ?_
      refine x_ifB_ne (tgt := 31) (pc := 24) hC  dX12_odds_24 (by decide) (fun c24 => ?_) (fun c24 => ?_)
      · refine x_aload_n (pc := 31) hC dX12_odds_31 rfl ?_
        refine x_getr (K := 1) (pc := 32) hC fX12_9_12 (by assumption) dX12_odds_32 rfl rfl (by assumption) ?_
        refine x_iconst (pc := 35) hC dX12_odds_35 ?_
        refine x_iald (pc := 36) hC (by assumption) (by omega) dX12_odds_36 ?_
        refine x_istore (L' := [_, _, _, _, _, _, _, _, _, _]) (pc := 37) hC dX12_odds_37 rfl rfl ?_
        refine x_lconst (z := 0) (pc := 39) hC dX12_odds_39 (by decide +kernel) ?_
        refine x_lstore (L' := [_, _, _, _, _, _, _, _, _, _]) (pc := 40) hC dX12_odds_40 rfl rfl rfl ?_
        refine x_iconst (pc := 42) hC dX12_odds_42 ?_
        refine x_istore (L' := [_, _, _, _, _, _, _, _, _, _]) (pc := 43) hC dX12_odds_43 rfl rfl ?_
        refine X.mem ?_ (X.drop (xLe_s (xLe_s (xLe_s (xLe_s (xLe_s (xLe_s (xLe_n (xLe_s (xLe_n (xLe_n xLe_0)))))))))) (loop (by omega) (by omega) (by omega) 20 0 0 0 (σ 47 0) rfl rfl rfl))
        rw [up_id, sw_id]
      · refine x_ldc2 (pc := 27) hC (-9223372036854775808) qX12_229 (by decide +kernel) dX12_odds_27 ?_
        refine x_lreturn hC hZ dX12_odds_30 (by decide) (by decide) ?_
        exact ⟨congrArg (fun z => some (Value.long (lL z))) (by rw [oddsA, if_pos (by omega)]), Ask.rf σ, rfl, rfl⟩

def meanA (z : zS) (f n w : Int) : Int := if ¬ ((0 ≤ f ∧ f ≤ z 13 - 1) ∧ (1 ≤ n ∧ n ≤ 60) ∧ (0 ≤ w ∧ w ≤ 1)) then -9223372036854775808 else lowF (sumTo (fun i => isAtF z f (z 0 + i)) n.toNat) n w
set_option maxHeartbeats 4000000 in
set_option maxRecDepth 100000 in
theorem s_mean (E : xE) {σ : xM} {ρ : xR} {ks : xKs} (hk : MK ks) (hw : MW ρ) {f n w : Int} (hf : rg f) (hn : rg n) (hw0 : rg w) (hpl : PlOk (σ 47)) : Sp E yX12_mean kX12_mean 3 0 0 [.ref 46, .int (iI f), .int (iI n), .int (iI w)] σ ρ ks (fun r σ' ρ' ks' => r = some (.long (lL (meanA (σ 47) f n w))) ∧ Ask σ σ' ∧ ρ' = ρ ∧ ks' = ks) := by
  obtain ⟨k46, k47, k48, k49, k50, k51, k52, k53, k54⟩ := id hk
  obtain ⟨w1, w2, w3, w10, w11, w14, w15, w16⟩ := id hw
  refine x_enter (own := RX12) (L := [_, _, _, _, _, _, _]) (by decide +kernel) rfl (by exact Nat.le_of_ble_eq_true rfl) rfl (fun p e R s m args below meth c Z hZ hC hR hin => ?_)
  obtain ⟨g1, g2, g3, g4⟩ := id hpl
  have hf13 := g1.1
  have loop : (0 ≤ f ∧ f < σ 47 13) → FanOk (σ 47) f → (1 ≤ n ∧ n ≤ 60) → (0 ≤ w ∧ w ≤ 1) → ∀ (i k : Nat) (t a : Int), t = σ 47 0 + k → i + k = n.toNat → a = sumTo (fun i => isAtF (σ 47) f (σ 47 0 + i)) k → X E p e R s m args below meth c Z 0 0 σ ρ ks 42 [some (.ref 46), some (.int (iI f)), some (.int (iI n)), some (.int (iI w)), some (.long (lL a)), none, some (.int (iI t))] [] := by
    intro hf1 hfo hn1 hw1 i
    have hin : ∀ k : Nat, 0 ≤ sumTo (fun i => isAtF (σ 47) f (σ 47 0 + i)) k ∧ sumTo (fun i => isAtF (σ 47) f (σ 47 0 + i)) k ≤ 9 * k := fun k => sumTo_in (g := fun i => isAtF (σ 47) f (σ 47 0 + i)) (N := k) (M := 9) (fun x _ => isAt_in hfo g2 (t := σ 47 0 + x) (by omega)) k (Nat.le_refl _)
    induction i with
    | zero =>
      intro k t a ht2 hi ha
      have hin2 := hin k
      rw [← ha] at hin2
      refine x_iload (pc := 42) hC dX12_mean_42 rfl ?_
      refine x_aload_n (pc := 44) hC dX12_mean_44 rfl ?_
      refine x_getr (K := 1) (pc := 45) hC fX12_9_12 (by assumption) dX12_mean_45 rfl rfl (by assumption) ?_
      refine x_iconst (pc := 48) hC dX12_mean_48 ?_
      refine x_iald (pc := 49) hC (by assumption) (by omega) dX12_mean_49 ?_
      refine x_iload_n (pc := 50) hC dX12_mean_50 rfl ?_
      refine x_iadd (pc := 51) hC dX12_mean_51 ?_
      refine x_icmp_ge (tgt := 74) (pc := 52) hC (by omega) (by omega) dX12_mean_52 (by decide) (fun c52 => ?_) (fun c52 => by (exfalso; omega))
      refine x_lload (pc := 74) hC dX12_mean_74 rfl ?_
      refine x_iload_n (pc := 76) hC dX12_mean_76 rfl ?_
      refine x_i2l (pc := 77) hC (by omega) dX12_mean_77 ?_
      refine x_iload_n (pc := 78) hC dX12_mean_78 rfl ?_
      refine x_callS1 (As := [_, _, _]) (Bs := [_, _, _]) (pc := 79) hC (s_lowest E (by omega) (by omega) (by omega)) wX12_233 pX12_lowest rfl rfl (by exact Nat.le_of_ble_eq_true rfl) hR (by decide) (by decide) (by decide) rfl dX12_mean_79 ?_
      refine x_lreturn hC hZ dX12_mean_82 (by decide) (by decide) ?_
      exact ⟨congrArg (fun z => some (Value.long (lL z))) (by rw [meanA, if_neg (by omega), show n.toNat = k by omega, ← ha]), Ask.rf σ, rfl, rfl⟩
    | succ i ih =>
      intro k t a ht2 hi ha
      have hia := isAt_in hfo g2 (t := t) (by omega)
      refine x_iload (pc := 42) hC dX12_mean_42 rfl ?_
      refine x_aload_n (pc := 44) hC dX12_mean_44 rfl ?_
      refine x_getr (K := 1) (pc := 45) hC fX12_9_12 (by assumption) dX12_mean_45 rfl rfl (by assumption) ?_
      refine x_iconst (pc := 48) hC dX12_mean_48 ?_
      refine x_iald (pc := 49) hC (by assumption) (by omega) dX12_mean_49 ?_
      refine x_iload_n (pc := 50) hC dX12_mean_50 rfl ?_
      refine x_iadd (pc := 51) hC dX12_mean_51 ?_
      refine x_icmp_ge (tgt := 74) (pc := 52) hC (by omega) (by omega) dX12_mean_52 (by decide) (fun c52 => by (exfalso; omega)) (fun c52 => ?_)
      refine x_lload (pc := 55) hC dX12_mean_55 rfl ?_
      refine x_aload_n (pc := 57) hC dX12_mean_57 rfl ?_
      refine x_iload_n (pc := 58) hC dX12_mean_58 rfl ?_
      refine x_iload (pc := 59) hC dX12_mean_59 rfl ?_
      refine x_callV1 (As := [_, _]) (Bs := [_, _]) (pc := 61) hC (s_isAt E hk hw hfo g2 (by omega) (by omega)) wX12_144_12 pX12_isAt (by assumption) rfl rfl (by exact Nat.le_of_ble_eq_true rfl) hR (by decide) (by decide) (by decide) rfl dX12_mean_61 ?_
      refine x_i2l (pc := 64) hC (by omega) dX12_mean_64 ?_
      refine x_ladd (pc := 65) hC dX12_mean_65 ?_
      refine x_lstore (L' := [_, _, _, _, _, _, _]) (pc := 66) hC dX12_mean_66 rfl rfl rfl ?_
      refine x_iinc (L' := [_, _, _, _, _, _, _]) (pc := 68) hC dX12_mean_68 rfl rfl rfl ?_
      refine x_goto (tgt := 42) (pc := 71) hC dX12_mean_71 (by decide) ?_
      refine ih (k + 1) (t + 1) _ (by omega) (by omega) ?_
      rw [sumTo_s, ← ha, ht2]
  refine x_aload_n (pc := 0) hC dX12_mean_0 rfl ?_
  refine x_iload_n (pc := 1) hC dX12_mean_1 rfl ?_
  refine x_callV1 (As := [_]) (Bs := [_]) (pc := 2) hC (s_isFan E hk hw (by omega) (by omega)) wX12_151_12 pX12_isFan (by assumption) rfl rfl (by exact Nat.le_of_ble_eq_true rfl) hR (by decide) (by decide) (by decide) rfl dX12_mean_2 ?_
  refine x_ifB_eq (tgt := 27) (pc := 5) hC  dX12_mean_5 (by decide) (fun c5 => ?_) (fun c5 => ?_)
  · refine x_ldc2 (pc := 27) hC (-9223372036854775808) qX12_229 (by decide +kernel) dX12_mean_27 ?_
    refine x_lreturn hC hZ dX12_mean_30 (by decide) (by decide) ?_
    exact ⟨congrArg (fun z => some (Value.long (lL z))) (by rw [meanA, if_pos (by omega)]), Ask.rf σ, rfl, rfl⟩
  · refine x_iload_n (pc := 8) hC dX12_mean_8 rfl ?_
    refine x_iconst (pc := 9) hC dX12_mean_9 ?_
    refine x_bipush (pc := 10) hC dX12_mean_10 (by decide +kernel) ?_
    refine x_callS1 (As := [_, _, _]) (Bs := [_, _, _]) (pc := 12) hC (s_in E (by omega) (by omega) (by omega)) wX12_41 pX12_in rfl rfl (by exact Nat.le_of_ble_eq_true rfl) hR (by decide) (by decide) (by decide) rfl dX12_mean_12 ?_
    refine x_ifB_eq (tgt := 27) (pc := 15) hC  dX12_mean_15 (by decide) (fun c15 => ?_) (fun c15 => ?_)
    · refine x_ldc2 (pc := 27) hC (-9223372036854775808) qX12_229 (by decide +kernel) dX12_mean_27 ?_
      refine x_lreturn hC hZ dX12_mean_30 (by decide) (by decide) ?_
      exact ⟨congrArg (fun z => some (Value.long (lL z))) (by rw [meanA, if_pos (by omega)]), Ask.rf σ, rfl, rfl⟩
    · refine x_iload_n (pc := 18) hC dX12_mean_18 rfl ?_
      refine x_iconst (pc := 19) hC dX12_mean_19 ?_
      refine x_iconst (pc := 20) hC dX12_mean_20 ?_
      refine x_callS1 (As := [_, _, _]) (Bs := [_, _, _]) (pc := 21) hC (s_in E (by omega) (by omega) (by omega)) wX12_41 pX12_in rfl rfl (by exact Nat.le_of_ble_eq_true rfl) hR (by decide) (by decide) (by decide) rfl dX12_mean_21 ?_
      refine x_ifB_ne (tgt := 31) (pc := 24) hC  dX12_mean_24 (by decide) (fun c24 => ?_) (fun c24 => ?_)
      · refine x_lconst (z := 0) (pc := 31) hC dX12_mean_31 (by decide +kernel) ?_
        refine x_lstore (L' := [_, _, _, _, _, _, _]) (pc := 32) hC dX12_mean_32 rfl rfl rfl ?_
        refine x_aload_n (pc := 34) hC dX12_mean_34 rfl ?_
        refine x_getr (K := 1) (pc := 35) hC fX12_9_12 (by assumption) dX12_mean_35 rfl rfl (by assumption) ?_
        refine x_iconst (pc := 38) hC dX12_mean_38 ?_
        refine x_iald (pc := 39) hC (by assumption) (by omega) dX12_mean_39 ?_
        refine x_istore (L' := [_, _, _, _, _, _, _]) (pc := 40) hC dX12_mean_40 rfl rfl ?_
        exact loop (by omega) (g1.2 f (by omega) (by omega)) (by omega) (by omega) n.toNat 0 _ 0 (by omega) (by omega) rfl
      · refine x_ldc2 (pc := 27) hC (-9223372036854775808) qX12_229 (by decide +kernel) dX12_mean_27 ?_
        refine x_lreturn hC hZ dX12_mean_30 (by decide) (by decide) ?_
        exact ⟨congrArg (fun z => some (Value.long (lL z))) (by rw [meanA, if_pos (by omega)]), Ask.rf σ, rfl, rfl⟩

def lowH (z : zS) : Nat → Int
  | 0 => 99
  | p + 1 => if z (1 + p) < lowH z p then z (1 + p) else lowH z p
theorem lowH_in {z : zS} (h : SitOk z) : ∀ n, n ≤ 6 → 0 ≤ lowH z n ∧ lowH z n ≤ 99
  | 0, _ => by simp [lowH]
  | n + 1, hn => by
    have := lowH_in h n (by omega)
    have := (h.2 n (by omega) (by omega)).2.1
    unfold lowH; split <;> omega
def evenA (z : zS) (n : Int) : Int := if ¬ (0 ≤ n ∧ n ≤ 60) then -2 else if z 14 = 0 then -5 else greatF (playF z n.toNat) (z 14).toNat - lowH (playF z n.toNat) (z 14).toNat
set_option maxHeartbeats 4000000 in
set_option maxRecDepth 100000 in
theorem s_even (E : xE) {σ : xM} {ρ : xR} {ks : xKs} (hk : MK ks) (hw : MW ρ) {n : Int} (hn : rg n) (hpl : PlOk (σ 47)) (ht : σ 47 0 + 100 < 900000) : Sp E yX12_even kX12_even 6 0 0 [.ref 46, .int (iI n)] σ ρ ks (fun r σ' ρ' ks' => r = some (.int (iI (evenA (σ 47) n))) ∧ Ask σ σ' ∧ ρ' = ρ ∧ ks' = ks) := by
  obtain ⟨k46, k47, k48, k49, k50, k51, k52, k53, k54⟩ := id hk
  obtain ⟨w1, w2, w3, w10, w11, w14, w15, w16⟩ := id hw
  refine x_enter (own := RX12) (L := [_, _, _, _]) (by decide +kernel) rfl (by exact Nat.le_of_ble_eq_true rfl) rfl (fun p e R s m args below meth c Z hZ hC hR hin => ?_)
  have hs14 := hpl.2.1.1
  have loop : ∀ (μ : xM), SitOk (μ 47) → ∀ (i k : Nat) (j a : Int), j = k → a = lowH (μ 47) k → (k : Int) + i = μ 47 14 → (Sc (sw σ 49 (cp49 σ 13)) μ ∧ μ 47 = playF (σ 47) n.toNat ∧ (∀ x, 13 ≤ x ∨ x < 0 → μ 47 x = σ 47 x) ∧ 0 ≤ n ∧ n ≤ 60 ∧ 0 < σ 47 14) → X E p e R s m args below meth c Z 0 0 μ ρ ks 40 [some (.ref 46), some (.int (iI n)), some (.int (iI a)), some (.int (iI j))] [] := by
    intro μ hsi i
    have h6 := hsi.1
    induction i with
    | zero =>
      intro k j a hj ha hi hall
      obtain ⟨hsc, h47, hout, hv0, hv1, h140⟩ := hall
      have h14 := hout 14 (by decide)
      have hlh := lowH_in hsi k (by omega)
      have hgg := (great_play hsi).1
      refine x_iload_n (pc := 40) hC dX12_even_40 rfl ?_
      refine x_aload_n (pc := 41) hC dX12_even_41 rfl ?_
      refine x_getr (K := 1) (pc := 42) hC fX12_9_12 (by assumption) dX12_even_42 rfl rfl (by assumption) ?_
      refine x_bipush (pc := 45) hC dX12_even_45 (by decide +kernel) ?_
      refine x_iald (pc := 47) hC (by assumption) (by omega) dX12_even_47 ?_
      refine x_icmp_ge (tgt := 82) (pc := 48) hC (by omega) (by omega) dX12_even_48 (by decide) (fun c48 => ?_) (fun c48 => by (exfalso; omega))
      refine x_aload_n (pc := 82) hC dX12_even_82 rfl ?_
      refine x_callV1 (As := []) (Bs := []) (pc := 83) hC (s_greatest E hk hw hsi) wX12_187_12 pX12_greatest (by assumption) rfl rfl (by exact Nat.le_of_ble_eq_true rfl) hR (by decide) (by decide) (by decide) rfl dX12_even_83 ?_
      refine x_iload_n (pc := 86) hC dX12_even_86 rfl ?_
      refine x_isub (pc := 87) hC dX12_even_87 ?_
      refine x_istore_n (L' := [_, _, _, _]) (pc := 88) hC dX12_even_88 rfl rfl ?_
      refine x_aload_n (pc := 89) hC dX12_even_89 rfl ?_
      refine x_callV0 (As := []) (Bs := []) (pc := 90) hC (s_goesBack E hk hw) wX12_193_12 pX12_goesBack (by assumption) rfl rfl (by exact Nat.le_of_ble_eq_true rfl) hR (by decide) (by decide) (by decide) rfl dX12_even_90 ?_
      refine x_iload_n (pc := 93) hC dX12_even_93 rfl ?_
      refine x_ireturn hC hZ dX12_even_94 (by decide) (by decide) ?_
      exact ⟨congrArg (fun z => some (Value.int (iI z))) (by rw [evenA, if_neg (by omega), if_neg (by omega), ha, h14, h47, show (σ 47 14).toNat = k by omega]), back_ok hsc hout, rfl, rfl⟩
    | succ i ih =>
      intro k j a hj ha hi hall
      have hlh := lowH_in hsi k (by omega)
      rw [← ha] at hlh
      have hht := (hsi.2 j (by omega) (by omega)).2.1
      refine x_iload_n (pc := 40) hC dX12_even_40 rfl ?_
      refine x_aload_n (pc := 41) hC dX12_even_41 rfl ?_
      refine x_getr (K := 1) (pc := 42) hC fX12_9_12 (by assumption) dX12_even_42 rfl rfl (by assumption) ?_
      refine x_bipush (pc := 45) hC dX12_even_45 (by decide +kernel) ?_
      refine x_iald (pc := 47) hC (by assumption) (by omega) dX12_even_47 ?_
      refine x_icmp_ge (tgt := 82) (pc := 48) hC (by omega) (by omega) dX12_even_48 (by decide) (fun c48 => by (exfalso; omega)) (fun c48 => ?_)
      refine x_aload_n (pc := 51) hC dX12_even_51 rfl ?_
      refine x_getr (K := 1) (pc := 52) hC fX12_9_12 (by assumption) dX12_even_52 rfl rfl (by assumption) ?_
      refine x_iconst (pc := 55) hC dX12_even_55 ?_
      refine x_iload_n (pc := 56) hC dX12_even_56 rfl ?_
      refine x_iadd (pc := 57) hC dX12_even_57 ?_
      refine x_iald (pc := 58) hC (by assumption) (by omega) dX12_even_58 ?_
      refine x_iload_n (pc := 59) hC dX12_even_59 rfl ?_
      refine x_icmp_ge (tgt := 74) (pc := 60) hC (by omega) (by omega) dX12_even_60 (by decide) (fun c60 => ?_) (fun c60 => ?_)
      · refine x_iload_n (pc := 74) hC dX12_even_74 rfl ?_
        refine x_istore_n (L' := [_, _, _, _]) (pc := 75) hC dX12_even_75 rfl rfl ?_
        refine x_iinc (L' := [_, _, _, _]) (pc := 76) hC dX12_even_76 rfl rfl rfl ?_
        refine x_goto (tgt := 40) (pc := 79) hC dX12_even_79 (by decide) ?_
        refine ih (k + 1) (j + 1) _ (by omega) ?_ (by omega) hall
        subst hj
        show _ = if _ then _ else _
        rw [← ha, if_neg (by omega)]
      · refine x_aload_n (pc := 63) hC dX12_even_63 rfl ?_
        refine x_getr (K := 1) (pc := 64) hC fX12_9_12 (by assumption) dX12_even_64 rfl rfl (by assumption) ?_
        refine x_iconst (pc := 67) hC dX12_even_67 ?_
        refine x_iload_n (pc := 68) hC dX12_even_68 rfl ?_
        refine x_iadd (pc := 69) hC dX12_even_69 ?_
        refine x_iald (pc := 70) hC (by assumption) (by omega) dX12_even_70 ?_
        refine x_goto (tgt := 75) (pc := 71) hC dX12_even_71 (by decide) ?_
        refine x_istore_n (L' := [_, _, _, _]) (pc := 75) hC dX12_even_75 rfl rfl ?_
        refine x_iinc (L' := [_, _, _, _]) (pc := 76) hC dX12_even_76 rfl rfl rfl ?_
        refine x_goto (tgt := 40) (pc := 79) hC dX12_even_79 (by decide) ?_
        refine ih (k + 1) (j + 1) _ (by omega) ?_ (by omega) hall
        subst hj
        show _ = if _ then _ else _
        rw [← ha, if_pos c60]
  refine x_iload_n (pc := 0) hC dX12_even_0 rfl ?_
  refine x_iconst (pc := 1) hC dX12_even_1 ?_
  refine x_bipush (pc := 2) hC dX12_even_2 (by decide +kernel) ?_
  refine x_callS1 (As := [_, _, _]) (Bs := [_, _, _]) (pc := 4) hC (s_in E (by omega) (by omega) (by omega)) wX12_41 pX12_in rfl rfl (by exact Nat.le_of_ble_eq_true rfl) hR (by decide) (by decide) (by decide) rfl dX12_even_4 ?_
  refine x_ifB_ne (tgt := 13) (pc := 7) hC  dX12_even_7 (by decide) (fun c7 => ?_) (fun c7 => ?_)
  · refine x_aload_n (pc := 13) hC dX12_even_13 rfl ?_
    refine x_getr (K := 1) (pc := 14) hC fX12_9_12 (by assumption) dX12_even_14 rfl rfl (by assumption) ?_
    refine x_bipush (pc := 17) hC dX12_even_17 (by decide +kernel) ?_
    refine x_iald (pc := 19) hC (by assumption) (by omega) dX12_even_19 ?_
    refine x_if_ne (tgt := 26) (pc := 20) hC (by omega) dX12_even_20 (by decide) (fun c20 => ?_) (fun c20 => ?_)
    · refine x_aload_n (pc := 26) hC dX12_even_26 rfl ?_
      refine x_callV0 (As := []) (Bs := []) (pc := 27) hC (s_keeps E hk hw) wX12_184_12 pX12_keeps (by assumption) rfl rfl (by exact Nat.le_of_ble_eq_true rfl) hR (by decide) (by decide) (by decide) rfl dX12_even_27 ?_
      refine x_aload_n (pc := 30) hC dX12_even_30 rfl ?_
      refine x_iload_n (pc := 31) hC dX12_even_31 rfl ?_
      refine x_callV (As := [_]) (Bs := [_]) (pc := 32) hC (s_goesOn E hk hw (v := n) (by rw [sw_ne _ (by decide)]; exact hpl) (by omega) (by rw [sw_ne _ (by decide)]; omega)) wX12_181_12 pX12_goesOn (by assumption) rfl rfl (by exact Nat.le_of_ble_eq_true rfl) hR (by decide) (by decide) (by decide) rfl dX12_even_32 (fun r32 σ32 ρ32 ks32 q32 => ?_)
      obtain ⟨rfl, rfl, rfl, hsc, h47, h52⟩ := q32
      rw [sw_ne _ (by decide)] at h47
      obtain ⟨hp, h0, hout⟩ := play_pl hpl n.toNat (by omega)
      rw [← h47] at hp h0 hout
      have hsi := hp.2.1
      have h14 := hout 14 (by decide)
      refine x_bipush (pc := 35) hC dX12_even_35 (by decide +kernel) ?_
      refine x_istore_n (L' := [_, _, _, _]) (pc := 37) hC dX12_even_37 rfl rfl ?_
      refine x_iconst (pc := 38) hC dX12_even_38 ?_
      refine x_istore_n (L' := [_, _, _, _]) (pc := 39) hC dX12_even_39 rfl rfl ?_
      exact loop _ hsi (σ 47 14).toNat 0 0 _ rfl rfl (by omega) ⟨hsc, h47, hout, by omega, by omega, by omega⟩
    · refine x_bipush (pc := 23) hC dX12_even_23 (by decide +kernel) ?_
      refine x_ireturn hC hZ dX12_even_25 (by decide) (by decide) ?_
      exact ⟨congrArg (fun z => some (Value.int (iI z))) (by rw [evenA, if_neg (by omega), if_pos (by omega)]), Ask.rf σ, rfl, rfl⟩
  · refine x_bipush (pc := 10) hC dX12_even_10 (by decide +kernel) ?_
    refine x_ireturn hC hZ dX12_even_12 (by decide) (by decide) ?_
    exact ⟨congrArg (fun z => some (Value.int (iI z))) (by rw [evenA, if_pos (by omega)]), Ask.rf σ, rfl, rfl⟩
