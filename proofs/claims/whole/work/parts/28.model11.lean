def grF (z : zS) (n : Nat) : Int := worseF z n / 1000
set_option maxHeartbeats 4000000 in
set_option maxRecDepth 100000 in
theorem s_greatestBy (E : xE) {σ : xM} {ρ : xR} {ks : xKs} (hk : MK ks) (hw : MW ρ) {n : Int} (hn0 : 0 ≤ n ∧ n ≤ 60) (hpl : PlOk (σ 47)) (ht : σ 47 0 + 100 < 900000) : Sp E yX12_greatestBy kX12_greatestBy 7 0 0 [.ref 46, .int (iI n)] σ ρ ks (fun r σ' ρ' ks' => r = some (.int (iI (grF (σ 47) n.toNat))) ∧ Ask σ σ' ∧ ρ' = ρ ∧ ks' = ks) := by
  obtain ⟨k46, k47, k48, k49, k50, k51, k52, k53, k54⟩ := id hk
  obtain ⟨w1, w2, w3, w10, w11, w14, w15, w16⟩ := id hw
  refine x_enter (own := RX12) (L := [_, _]) (by decide +kernel) rfl (by exact Nat.le_of_ble_eq_true rfl) rfl (fun p e R s m args below meth c Z hZ hC hR hin => ?_)
  have hwi := worse_in hpl n.toNat (by omega)
  refine x_aload_n (pc := 0) hC dX12_greatestBy_0 rfl ?_
  refine x_iload_n (pc := 1) hC dX12_greatestBy_1 rfl ?_
  refine x_callV (As := [_]) (Bs := [_]) (pc := 2) hC (s_worseBy E hk hw (v := n) hpl (by omega) (by omega)) wX12_197_12 pX12_worseBy (by assumption) rfl rfl (by exact Nat.le_of_ble_eq_true rfl) hR (by decide) (by decide) (by decide) rfl dX12_greatestBy_2 (fun r2 σ2 ρ2 ks2 q2 => ?_)
  obtain ⟨rfl, ha, rfl, rfl⟩ := q2
  refine x_sipush (pc := 5) hC dX12_greatestBy_5 (by decide +kernel) ?_
  refine x_idiv (pc := 8) hC (by omega) dX12_greatestBy_8 ?_
  refine x_ireturn hC hZ dX12_greatestBy_9 (by decide) (by decide) ?_
  exact ⟨rfl, ha, rfl, rfl⟩

def swZ (z : zS) (a b : Int) : zS := up (up z (62 + a) (z (62 + b))) (62 + b) (z (62 + a))
theorem swZ_ne (z : zS) {a b j : Int} (h1 : j ≠ 62 + a) (h2 : j ≠ 62 + b) : swZ z a b j = z j := by unfold swZ; rw [up_ne _ h2, up_ne _ h1]
theorem swZ_swZ (z : zS) {a b : Int} (h : a ≠ b) : swZ (swZ z a b) a b = z := by
  have e1 : swZ z a b (62 + b) = z (62 + a) := up_eq _ _ _
  have e2 : swZ z a b (62 + a) = z (62 + b) := by unfold swZ; rw [up_ne _ (by omega), up_eq]
  rw [swZ, e1, e2]
  funext j; unfold swZ up
  by_cases h1 : j = 62 + b
  · simp [h1]
  · by_cases h2 : j = 62 + a <;> simp [h1, h2, h]
theorem PlOk.swap {z : zS} (h : PlOk z) {a b : Int} (ha : 0 ≤ a ∧ a < 6) (hb : 0 ≤ b ∧ b < 6) : PlOk (swZ z a b) := by
  have g1 := (h.2.1.2 a ha.1 ha.2).1
  have g2 := (h.2.1.2 b hb.1 hb.2).1
  exact (h.sits ha g2).sits hb g1
set_option maxHeartbeats 4000000 in
set_option maxRecDepth 100000 in
theorem s_changes (E : xE) {σ : xM} {ρ : xR} {ks : xKs} (hk : MK ks) (hw : MW ρ) {a b : Int} (ha : 0 ≤ a ∧ a < 6) (hb : 0 ≤ b ∧ b < 6) : Sp E yX12_changes kX12_changes 0 0 0 [.ref 46, .int (iI a), .int (iI b)] σ ρ ks (Fn none (sw σ 47 (swZ (σ 47) a b)) ρ ks) := by
  obtain ⟨k46, k47, k48, k49, k50, k51, k52, k53, k54⟩ := id hk
  obtain ⟨w1, w2, w3, w10, w11, w14, w15, w16⟩ := id hw
  refine x_enter (own := RX12) (L := [_, _, _, _]) (by decide +kernel) rfl (by exact Nat.le_of_ble_eq_true rfl) rfl (fun p e R s m args below meth c Z hZ hC hR hin => ?_)
  refine x_aload_n (pc := 0) hC dX12_changes_0 rfl ?_
  refine x_getr (K := 1) (pc := 1) hC fX12_9_12 (by assumption) dX12_changes_1 rfl rfl (by assumption) ?_
  refine x_bipush (pc := 4) hC dX12_changes_4 (by decide +kernel) ?_
  refine x_iload_n (pc := 6) hC dX12_changes_6 rfl ?_
  refine x_iadd (pc := 7) hC dX12_changes_7 ?_
  refine x_iald (pc := 8) hC (by assumption) (by omega) dX12_changes_8 ?_
  refine x_istore_n (L' := [_, _, _, _]) (pc := 9) hC dX12_changes_9 rfl rfl ?_
  refine x_aload_n (pc := 10) hC dX12_changes_10 rfl ?_
  refine x_getr (K := 1) (pc := 11) hC fX12_9_12 (by assumption) dX12_changes_11 rfl rfl (by assumption) ?_
  refine x_bipush (pc := 14) hC dX12_changes_14 (by decide +kernel) ?_
  refine x_iload_n (pc := 16) hC dX12_changes_16 rfl ?_
  refine x_iadd (pc := 17) hC dX12_changes_17 ?_
  refine x_aload_n (pc := 18) hC dX12_changes_18 rfl ?_
  refine x_getr (K := 1) (pc := 19) hC fX12_9_12 (by assumption) dX12_changes_19 rfl rfl (by assumption) ?_
  refine x_bipush (pc := 22) hC dX12_changes_22 (by decide +kernel) ?_
  refine x_iload_n (pc := 24) hC dX12_changes_24 rfl ?_
  refine x_iadd (pc := 25) hC dX12_changes_25 ?_
  refine x_iald (pc := 26) hC (by assumption) (by omega) dX12_changes_26 ?_
  refine x_iast (pc := 27) hC (by assumption) (by omega) dX12_changes_27 ?_
  refine X.mem (σ' := sw σ 47 _) (by exact wr_sw _ _ _ _) ?_
  refine x_aload_n (pc := 28) hC dX12_changes_28 rfl ?_
  refine x_getr (K := 1) (pc := 29) hC fX12_9_12 (by assumption) dX12_changes_29 rfl rfl (by assumption) ?_
  refine x_bipush (pc := 32) hC dX12_changes_32 (by decide +kernel) ?_
  refine x_iload_n (pc := 34) hC dX12_changes_34 rfl ?_
  refine x_iadd (pc := 35) hC dX12_changes_35 ?_
  refine x_iload_n (pc := 36) hC dX12_changes_36 rfl ?_
  refine x_iast (pc := 37) hC (by assumption) (by omega) dX12_changes_37 ?_
  refine X.mem (σ' := sw σ 47 _) (by rw [wr_sw, sw_eq, sw_sw]) ?_
  refine x_return hC hZ dX12_changes_38 (by decide) (by decide) ?_
  exact ⟨rfl, rfl, rfl, rfl⟩

def chG (z : zS) (n : Nat) (e : Int) : Int := grF (swZ z (e / 10) (e % 10)) n
def chO (z : zS) (n : Nat) : Nat → Int × Int
  | 0 => (-5, grF z n)
  | a + 1 => mnF (chG z n) (chO z n a).1 (chO z n a).2 (11 * a + 1) (z 14 - 1 - a).toNat
def changeA (z : zS) (n : Int) : Int := if ¬ (1 ≤ n ∧ n ≤ 30) then -2 else (chO z n.toNat (z 14).toNat).1
theorem grF_in {z : zS} (h : PlOk z) (n : Nat) (hn : z 0 + n < 900000) : 0 ≤ grF z n ∧ grF z n ≤ 99 := by
  have := worse_in h n hn
  unfold grF; omega
theorem chG_in {z : zS} (h : PlOk z) (n : Nat) (hn : z 0 + n < 900000) {a b : Int} (ha : 0 ≤ a ∧ a < 6) (hb : 0 ≤ b ∧ b < 6) : chG z n (10 * a + b) = grF (swZ z a b) n ∧ 0 ≤ chG z n (10 * a + b) ∧ chG z n (10 * a + b) ≤ 99 := by
  have e : chG z n (10 * a + b) = grF (swZ z a b) n := by unfold chG; rw [show (10 * a + b) / 10 = a by omega, show (10 * a + b) % 10 = b by omega]
  rw [e]
  exact ⟨rfl, grF_in (h.swap ha hb) n (by rw [swZ_ne _ (by omega) (by omega)]; exact hn)⟩
set_option maxHeartbeats 4000000 in
set_option maxRecDepth 100000 in
theorem s_change (E : xE) {σ : xM} {ρ : xR} {ks : xKs} (hk : MK ks) (hw : MW ρ) {n : Int} (hn0 : rg n) (hpl : PlOk (σ 47)) (ht : σ 47 0 + 100 < 900000) : Sp E yX12_change kX12_change 8 0 0 [.ref 46, .int (iI n)] σ ρ ks (fun r σ' ρ' ks' => r = some (.int (iI (changeA (σ 47) n))) ∧ Ask σ σ' ∧ ρ' = ρ ∧ ks' = ks) := by
  obtain ⟨k46, k47, k48, k49, k50, k51, k52, k53, k54⟩ := id hk
  obtain ⟨w1, w2, w3, w10, w11, w14, w15, w16⟩ := id hw
  refine x_enter (own := RX12) (L := [_, _, _, _, _, _, _]) (by decide +kernel) rfl (by exact Nat.le_of_ble_eq_true rfl) rfl (fun p e R s m args below meth c Z hZ hC hR hin => ?_)
  have hs14 := hpl.2.1.1
  have loop : (1 ≤ n ∧ n ≤ 30) → ∀ (i a : Nat) (a0 lo bb : Int) (μ : xM), a0 = a → i + a = (σ 47 14).toNat → Ask σ μ → (bb, lo) = chO (σ 47) n.toNat a → (0 ≤ lo ∧ lo ≤ 99) → X E p e R s m args below meth c Z 0 0 μ ρ ks 25 [some (.ref 46), some (.int (iI n)), some (.int (iI lo)), some (.int (iI bb)), some (.int (iI a0)), none, none] [] := by
    intro hn1 i
    induction i with
    | zero =>
      intro a a0 lo bb μ ha hi hask hbl hlo
      have hs := hask.s
      have h14m : μ 47 14 = σ 47 14 := congrFun hs 14
      refine x_iload (pc := 25) hC dX12_change_25 rfl ?_
      refine x_aload_n (pc := 27) hC dX12_change_27 rfl ?_
      refine x_getr (K := 1) (pc := 28) hC fX12_9_12 (by assumption) dX12_change_28 rfl rfl (by assumption) ?_
      refine x_bipush (pc := 31) hC dX12_change_31 (by decide +kernel) ?_
      refine x_iald (pc := 33) hC (by assumption) (by omega) dX12_change_33 ?_
      refine x_icmp_ge (tgt := 122) (pc := 34) hC (by omega) (by omega) dX12_change_34 (by decide) (fun c34 => ?_) (fun c34 => by (exfalso; omega))
      refine x_iload_n (pc := 122) hC dX12_change_122 rfl ?_
      refine x_ireturn hC hZ dX12_change_123 (by decide) (by decide) ?_
      exact ⟨congrArg (fun z => some (Value.int (iI z))) (by rw [changeA, if_neg (by omega), show (σ 47 14).toNat = a by omega, ← hbl]), hask, rfl, rfl⟩
    | succ i ih2 =>
      intro a a0 lo bb μ ha hi hask hbl hlo
      have hs := hask.s
      have h14m : μ 47 14 = σ 47 14 := congrFun hs 14
      have hout : (bb, lo) = chO (σ 47) n.toNat a := hbl
      have loopi : ∀ (i k : Nat) (b0 lo1 bb1 : Int) (μ : xM), b0 = a0 + 1 + k → i + k = (σ 47 14 - 1 - a).toNat → (0 ≤ lo1 ∧ lo1 ≤ 99) → a0 < σ 47 14 → Ask σ μ → (bb1, lo1) = mnF (chG (σ 47) n.toNat) bb lo (11 * a0 + 1) k → (bb, lo) = chO (σ 47) n.toNat a → X E p e R s m args below meth c Z 0 0 μ ρ ks 43 [some (.ref 46), some (.int (iI n)), some (.int (iI lo1)), some (.int (iI bb1)), some (.int (iI a0)), some (.int (iI b0)), none] [] := by
        intro i
        induction i with
        | zero =>
          intro k b0 lo1 bb1 μ hb hk1 hl1 ha14 hask hbl hout
          have hs := hask.s
          have h14m : μ 47 14 = σ 47 14 := congrFun hs 14
          refine x_iload (pc := 43) hC dX12_change_43 rfl ?_
          refine x_aload_n (pc := 45) hC dX12_change_45 rfl ?_
          refine x_getr (K := 1) (pc := 46) hC fX12_9_12 (by assumption) dX12_change_46 rfl rfl (by assumption) ?_
          refine x_bipush (pc := 49) hC dX12_change_49 (by decide +kernel) ?_
          refine x_iald (pc := 51) hC (by assumption) (by omega) dX12_change_51 ?_
          refine x_icmp_ge (tgt := 116) (pc := 52) hC (by omega) (by omega) dX12_change_52 (by decide) (fun c52 => ?_) (fun c52 => by (exfalso; omega))
          refine x_iinc (L' := [_, _, _, _, _, _, _]) (pc := 116) hC dX12_change_116 rfl rfl rfl ?_
          refine x_goto (tgt := 25) (pc := 119) hC dX12_change_119 (by decide) ?_
          refine X.drop (xLe_s (xLe_s (xLe_s (xLe_s (xLe_s (xLe_n (xLe_n xLe_0))))))) (ih2 (a + 1) (a0 + 1) _ bb1 _ (by omega) (by omega) hask ?_ hl1)
          show _ = mnF _ _ _ _ _
          rw [← hout, hbl, show (σ 47 14 - 1 - (a : Int)).toNat = k by omega, ha]
        | succ i ih =>
          intro k b0 lo1 bb1 μ hb hk1 hl1 ha14 hask hbl hout
          have hs := hask.s
          have h14m : μ 47 14 = σ 47 14 := congrFun hs 14
          have hcg := chG_in hpl n.toNat (by omega) (a := a0) (b := b0) (by omega) (by omega)
          have hps := hpl.swap (a := a0) (b := b0) (by omega) (by omega)
          have hcr := hcg.2
          rw [hcg.1] at hcr
          refine x_iload (pc := 43) hC dX12_change_43 rfl ?_
          refine x_aload_n (pc := 45) hC dX12_change_45 rfl ?_
          refine x_getr (K := 1) (pc := 46) hC fX12_9_12 (by assumption) dX12_change_46 rfl rfl (by assumption) ?_
          refine x_bipush (pc := 49) hC dX12_change_49 (by decide +kernel) ?_
          refine x_iald (pc := 51) hC (by assumption) (by omega) dX12_change_51 ?_
          refine x_icmp_ge (tgt := 116) (pc := 52) hC (by omega) (by omega) dX12_change_52 (by decide) (fun c52 => by (exfalso; omega)) (fun c52 => ?_)
          refine x_aload_n (pc := 55) hC dX12_change_55 rfl ?_
          refine x_iload (pc := 56) hC dX12_change_56 rfl ?_
          refine x_iload (pc := 58) hC dX12_change_58 rfl ?_
          refine x_callV0 (As := [_, _]) (Bs := [_, _]) (pc := 60) hC (s_changes E hk hw (by omega) (by omega)) wX12_206_12 pX12_changes (by assumption) rfl rfl (by exact Nat.le_of_ble_eq_true rfl) hR (by decide) (by decide) (by decide) rfl dX12_change_60 ?_
          refine x_aload_n (pc := 63) hC dX12_change_63 rfl ?_
          refine x_iload_n (pc := 64) hC dX12_change_64 rfl ?_
          refine x_callV (As := [_]) (Bs := [_]) (pc := 65) hC (s_greatestBy E hk hw (n := n) (by omega) (by rw [sw_eq, hs]; exact hps) (by rw [sw_eq, hs, swZ_ne _ (by omega) (by omega)]; omega)) wX12_203_12 pX12_greatestBy (by assumption) rfl rfl (by exact Nat.le_of_ble_eq_true rfl) hR (by decide) (by decide) (by decide) rfl dX12_change_65 (fun r65 σ65 ρ65 ks65 q65 => ?_)
          obtain ⟨rfl, hg, rfl, rfl⟩ := q65
          rw [sw_eq, hs]
          have hgs := hg.s
          rw [sw_eq, hs] at hgs
          refine x_istore (L' := [_, _, _, _, _, _, _]) (pc := 68) hC dX12_change_68 rfl rfl ?_
          refine x_aload_n (pc := 70) hC dX12_change_70 rfl ?_
          refine x_iload (pc := 71) hC dX12_change_71 rfl ?_
          refine x_iload (pc := 73) hC dX12_change_73 rfl ?_
          refine x_callV0 (As := [_, _]) (Bs := [_, _]) (pc := 75) hC (s_changes E hk hw (by omega) (by omega)) wX12_206_12 pX12_changes (by assumption) rfl rfl (by exact Nat.le_of_ble_eq_true rfl) hR (by decide) (by decide) (by decide) rfl dX12_change_75 ?_
          have hask3 : Ask σ (sw σ65 47 (swZ (σ65 47) a0 b0)) := by
            have a2 := (((AskS.rf σ).ask hask).sw (swZ (σ 47) a0 b0))
            have a3 := (a2.ask (hs ▸ hg)).sw (swZ (σ65 47) a0 b0)
            exact a3.to (by rw [sw_eq, hgs, swZ_swZ _ (by omega)])
          refine x_iload (pc := 78) hC dX12_change_78 rfl ?_
          refine x_iload_n (pc := 80) hC dX12_change_80 rfl ?_
          refine x_icmp_ge (tgt := 95) (pc := 81) hC (by omega) (by omega) dX12_change_81 (by decide) (fun c81 => ?_) (fun c81 => ?_)
          · refine x_iload_n (pc := 95) hC dX12_change_95 rfl ?_
            refine x_istore_n (L' := [_, _, _, _, _, _, _]) (pc := 96) hC dX12_change_96 rfl rfl ?_
            refine x_iload (pc := 97) hC dX12_change_97 rfl ?_
            refine x_iload_n (pc := 99) hC dX12_change_99 rfl ?_
            refine x_icmp_ge (tgt := 108) (pc := 100) hC (by omega) (by omega) dX12_change_100 (by decide) (fun c100 => ?_) (fun c100 => ?_)
            · refine x_iload_n (pc := 108) hC dX12_change_108 rfl ?_
              refine x_istore_n (L' := [_, _, _, _, _, _, _]) (pc := 109) hC dX12_change_109 rfl rfl ?_
              refine x_iinc (L' := [_, _, _, _, _, _, _]) (pc := 110) hC dX12_change_110 rfl rfl rfl ?_
              refine x_goto (tgt := 43) (pc := 113) hC dX12_change_113 (by decide) ?_
              refine X.drop (xLe_s (xLe_s (xLe_s (xLe_s (xLe_s (xLe_s (xLe_n xLe_0))))))) (ih (k + 1) (b0 + 1) _ _ _ (by omega) (by omega) (by omega) (by omega) hask3 ?_ hout)
              rw [mnF_s, ← hbl]
              rw [show 11 * a0 + 1 + (k : Int) = 10 * a0 + b0 by omega, hcg.1]
              rw [if_neg (by omega)]
            · refine x_iload (pc := 103) hC dX12_change_103 rfl ?_
              refine x_goto (tgt := 109) (pc := 105) hC dX12_change_105 (by decide) ?_
              refine x_istore_n (L' := [_, _, _, _, _, _, _]) (pc := 109) hC dX12_change_109 rfl rfl ?_
              refine x_iinc (L' := [_, _, _, _, _, _, _]) (pc := 110) hC dX12_change_110 rfl rfl rfl ?_
              refine x_goto (tgt := 43) (pc := 113) hC dX12_change_113 (by decide) ?_
              exfalso
              omega
          · refine x_bipush (pc := 84) hC dX12_change_84 (by decide +kernel) ?_
            refine x_iload (pc := 86) hC dX12_change_86 rfl ?_
            refine x_imul (pc := 88) hC dX12_change_88 ?_
            refine x_iload (pc := 89) hC dX12_change_89 rfl ?_
            refine x_iadd (pc := 91) hC dX12_change_91 ?_
            refine x_goto (tgt := 96) (pc := 92) hC dX12_change_92 (by decide) ?_
            refine x_istore_n (L' := [_, _, _, _, _, _, _]) (pc := 96) hC dX12_change_96 rfl rfl ?_
            refine x_iload (pc := 97) hC dX12_change_97 rfl ?_
            refine x_iload_n (pc := 99) hC dX12_change_99 rfl ?_
            refine x_icmp_ge (tgt := 108) (pc := 100) hC (by omega) (by omega) dX12_change_100 (by decide) (fun c100 => ?_) (fun c100 => ?_)
            · refine x_iload_n (pc := 108) hC dX12_change_108 rfl ?_
              refine x_istore_n (L' := [_, _, _, _, _, _, _]) (pc := 109) hC dX12_change_109 rfl rfl ?_
              refine x_iinc (L' := [_, _, _, _, _, _, _]) (pc := 110) hC dX12_change_110 rfl rfl rfl ?_
              refine x_goto (tgt := 43) (pc := 113) hC dX12_change_113 (by decide) ?_
              exfalso
              omega
            · refine x_iload (pc := 103) hC dX12_change_103 rfl ?_
              refine x_goto (tgt := 109) (pc := 105) hC dX12_change_105 (by decide) ?_
              refine x_istore_n (L' := [_, _, _, _, _, _, _]) (pc := 109) hC dX12_change_109 rfl rfl ?_
              refine x_iinc (L' := [_, _, _, _, _, _, _]) (pc := 110) hC dX12_change_110 rfl rfl rfl ?_
              refine x_goto (tgt := 43) (pc := 113) hC dX12_change_113 (by decide) ?_
              refine X.drop (xLe_s (xLe_s (xLe_s (xLe_s (xLe_s (xLe_s (xLe_n xLe_0))))))) (ih (k + 1) (b0 + 1) _ _ _ (by omega) (by omega) (by omega) (by omega) hask3 ?_ hout)
              rw [mnF_s, ← hbl]
              rw [show 11 * a0 + 1 + (k : Int) = 10 * a0 + b0 by omega, hcg.1]
              rw [if_pos c81, Int.mul_comm]
      refine x_iload (pc := 25) hC dX12_change_25 rfl ?_
      refine x_aload_n (pc := 27) hC dX12_change_27 rfl ?_
      refine x_getr (K := 1) (pc := 28) hC fX12_9_12 (by assumption) dX12_change_28 rfl rfl (by assumption) ?_
      refine x_bipush (pc := 31) hC dX12_change_31 (by decide +kernel) ?_
      refine x_iald (pc := 33) hC (by assumption) (by omega) dX12_change_33 ?_
      refine x_icmp_ge (tgt := 122) (pc := 34) hC (by omega) (by omega) dX12_change_34 (by decide) (fun c34 => by (exfalso; omega)) (fun c34 => ?_)
      refine x_iload (pc := 37) hC dX12_change_37 rfl ?_
      refine x_iconst (pc := 39) hC dX12_change_39 ?_
      refine x_iadd (pc := 40) hC dX12_change_40 ?_
      refine x_istore (L' := [_, _, _, _, _, _, _]) (pc := 41) hC dX12_change_41 rfl rfl ?_
      refine X.drop (xLe_s (xLe_s (xLe_s (xLe_s (xLe_s (xLe_s (xLe_n xLe_0))))))) (loopi (σ 47 14 - 1 - a).toNat 0 _ _ _ _ (by omega) (by omega) hlo (by omega) hask rfl hout)
  refine x_iload_n (pc := 0) hC dX12_change_0 rfl ?_
  refine x_iconst (pc := 1) hC dX12_change_1 ?_
  refine x_bipush (pc := 2) hC dX12_change_2 (by decide +kernel) ?_
  refine x_callS1 (As := [_, _, _]) (Bs := [_, _, _]) (pc := 4) hC (s_in E (by omega) (by omega) (by omega)) wX12_41 pX12_in rfl rfl (by exact Nat.le_of_ble_eq_true rfl) hR (by decide) (by decide) (by decide) rfl dX12_change_4 ?_
  refine x_ifB_ne (tgt := 13) (pc := 7) hC  dX12_change_7 (by decide) (fun c7 => ?_) (fun c7 => ?_)
  · refine x_aload_n (pc := 13) hC dX12_change_13 rfl ?_
    refine x_iload_n (pc := 14) hC dX12_change_14 rfl ?_
    refine x_callV (As := [_]) (Bs := [_]) (pc := 15) hC (s_greatestBy E hk hw (n := n) (by omega) hpl ht) wX12_203_12 pX12_greatestBy (by assumption) rfl rfl (by exact Nat.le_of_ble_eq_true rfl) hR (by decide) (by decide) (by decide) rfl dX12_change_15 (fun r15 σ15 ρ15 ks15 q15 => ?_)
    obtain ⟨rfl, ha, rfl, rfl⟩ := q15
    have hgi := grF_in hpl n.toNat (by omega)
    refine x_istore_n (L' := [_, _, _, _, _, _, _]) (pc := 18) hC dX12_change_18 rfl rfl ?_
    refine x_bipush (pc := 19) hC dX12_change_19 (by decide +kernel) ?_
    refine x_istore_n (L' := [_, _, _, _, _, _, _]) (pc := 21) hC dX12_change_21 rfl rfl ?_
    refine x_iconst (pc := 22) hC dX12_change_22 ?_
    refine x_istore (L' := [_, _, _, _, _, _, _]) (pc := 23) hC dX12_change_23 rfl rfl ?_
    exact X.drop (xLe_s (xLe_s (xLe_s (xLe_s (xLe_s (xLe_n (xLe_n xLe_0))))))) (loop (by omega) (σ 47 14).toNat 0 0 _ _ _ rfl (by omega) ha rfl hgi)
  · refine x_bipush (pc := 10) hC dX12_change_10 (by decide +kernel) ?_
    refine x_ireturn hC hZ dX12_change_12 (by decide) (by decide) ?_
    exact ⟨congrArg (fun z => some (Value.int (iI z))) (by rw [changeA, if_pos (by omega)]), Ask.rf σ, rfl, rfl⟩

def mtF (z : zS) (a b l : Int) (n : Nat) : Int := sumTo (fun i => bI (isAtF z a (z 0 + i) = isAtF z b (z 0 + i + l))) n
theorem mtF_in (z : zS) (a b l : Int) (n : Nat) : 0 ≤ mtF z a b l n ∧ mtF z a b l n ≤ n := by
  have := sumTo_in (g := fun i => bI (isAtF z a (z 0 + i) = isAtF z b (z 0 + i + l))) (N := n) (M := 1) (fun p _ => by have := bI_01 (isAtF z a (z 0 + p) = isAtF z b (z 0 + p + l)); show 0 ≤ bI _ ∧ bI _ ≤ 1; omega) n (Nat.le_refl _)
  unfold mtF; omega
set_option maxHeartbeats 4000000 in
set_option maxRecDepth 100000 in
theorem s_meetsLate (E : xE) {σ : xM} {ρ : xR} {ks : xKs} (hk : MK ks) (hw : MW ρ) {a b n l : Int} (hpl : PlOk (σ 47)) (ha : 0 ≤ a ∧ a < σ 47 13) (hb : 0 ≤ b ∧ b < σ 47 13) (hn : 1 ≤ n ∧ n ≤ 60) (hl : 0 ≤ l ∧ l ≤ 30) : Sp E yX12_meetsLate kX12_meetsLate 3 0 0 [.ref 46, .int (iI a), .int (iI b), .int (iI n), .int (iI l)] σ ρ ks (Fn (some (.int (iI (mtF (σ 47) a b l n.toNat)))) (σ) ρ ks) := by
  obtain ⟨k46, k47, k48, k49, k50, k51, k52, k53, k54⟩ := id hk
  obtain ⟨w1, w2, w3, w10, w11, w14, w15, w16⟩ := id hw
  refine x_enter (own := RX12) (L := [_, _, _, _, _, _, _]) (by decide +kernel) rfl (by exact Nat.le_of_ble_eq_true rfl) rfl (fun p e R s m args below meth c Z hZ hC hR hin => ?_)
  have hf13 := hpl.1.1
  obtain ⟨g1, g2, g3, g4⟩ := id hpl
  have hfa := g1.2 a (by omega) (by omega)
  have hfb := g1.2 b (by omega) (by omega)
  have loop : ∀ (i k : Nat) (t acc : Int), t = σ 47 0 + k → i + k = n.toNat → acc = mtF (σ 47) a b l k → X E p e R s m args below meth c Z 0 0 σ ρ ks 11 [some (.ref 46), some (.int (iI a)), some (.int (iI b)), some (.int (iI n)), some (.int (iI l)), some (.int (iI acc)), some (.int (iI t))] [] := by
    intro i
    induction i with
    | zero =>
      intro k t acc h1 h2 ha
      refine x_iload (pc := 11) hC dX12_meetsLate_11 rfl ?_
      refine x_aload_n (pc := 13) hC dX12_meetsLate_13 rfl ?_
      refine x_getr (K := 1) (pc := 14) hC fX12_9_12 (by assumption) dX12_meetsLate_14 rfl rfl (by assumption) ?_
      refine x_iconst (pc := 17) hC dX12_meetsLate_17 ?_
      refine x_iald (pc := 18) hC (by assumption) (by omega) dX12_meetsLate_18 ?_
      refine x_iload_n (pc := 19) hC dX12_meetsLate_19 rfl ?_
      refine x_iadd (pc := 20) hC dX12_meetsLate_20 ?_
      refine x_icmp_ge (tgt := 60) (pc := 21) hC (by omega) (by omega) dX12_meetsLate_21 (by decide) (fun c21 => ?_) (fun c21 => by (exfalso; omega))
      refine x_iload (pc := 60) hC dX12_meetsLate_60 rfl ?_
      refine x_ireturn hC hZ dX12_meetsLate_62 (by decide) (by decide) ?_
      exact ⟨congrArg (fun z => some (Value.int (iI z))) (by rw [ha, show n.toNat = k by omega]), rfl, rfl, rfl⟩
    | succ i ih =>
      intro k t acc h1 h2 ha
      have hin := mtF_in (σ 47) a b l k
      rw [← ha] at hin
      have i1 := isAt_in hfa g2 (t := t) (by omega)
      have i2 := isAt_in hfb g2 (t := t + l) (by omega)
      refine x_iload (pc := 11) hC dX12_meetsLate_11 rfl ?_
      refine x_aload_n (pc := 13) hC dX12_meetsLate_13 rfl ?_
      refine x_getr (K := 1) (pc := 14) hC fX12_9_12 (by assumption) dX12_meetsLate_14 rfl rfl (by assumption) ?_
      refine x_iconst (pc := 17) hC dX12_meetsLate_17 ?_
      refine x_iald (pc := 18) hC (by assumption) (by omega) dX12_meetsLate_18 ?_
      refine x_iload_n (pc := 19) hC dX12_meetsLate_19 rfl ?_
      refine x_iadd (pc := 20) hC dX12_meetsLate_20 ?_
      refine x_icmp_ge (tgt := 60) (pc := 21) hC (by omega) (by omega) dX12_meetsLate_21 (by decide) (fun c21 => by (exfalso; omega)) (fun c21 => ?_)
      refine x_iload (pc := 24) hC dX12_meetsLate_24 rfl ?_
      refine x_aload_n (pc := 26) hC dX12_meetsLate_26 rfl ?_
      refine x_iload_n (pc := 27) hC dX12_meetsLate_27 rfl ?_
      refine x_iload (pc := 28) hC dX12_meetsLate_28 rfl ?_
      refine x_callV1 (As := [_, _]) (Bs := [_, _]) (pc := 30) hC (s_isAt E hk hw hfa g2 (by omega) (by omega)) wX12_144_12 pX12_isAt (by assumption) rfl rfl (by exact Nat.le_of_ble_eq_true rfl) hR (by decide) (by decide) (by decide) rfl dX12_meetsLate_30 ?_
      refine x_aload_n (pc := 33) hC dX12_meetsLate_33 rfl ?_
      refine x_iload_n (pc := 34) hC dX12_meetsLate_34 rfl ?_
      refine x_iload (pc := 35) hC dX12_meetsLate_35 rfl ?_
      refine x_iload (pc := 37) hC dX12_meetsLate_37 rfl ?_
      refine x_iadd (pc := 39) hC dX12_meetsLate_39 ?_
      refine x_callV1 (As := [_, _]) (Bs := [_, _]) (pc := 40) hC (s_isAt E hk hw hfb g2 (by omega) (by omega)) wX12_144_12 pX12_isAt (by assumption) rfl rfl (by exact Nat.le_of_ble_eq_true rfl) hR (by decide) (by decide) (by decide) rfl dX12_meetsLate_40 ?_
      refine x_icmp_ne (tgt := 50) (pc := 43) hC (by omega) (by omega) dX12_meetsLate_43 (by decide) (fun c43 => ?_) (fun c43 => ?_)
      · refine x_iconst (pc := 50) hC dX12_meetsLate_50 ?_
        refine x_iadd (pc := 51) hC dX12_meetsLate_51 ?_
        refine x_istore (L' := [_, _, _, _, _, _, _]) (pc := 52) hC dX12_meetsLate_52 rfl rfl ?_
        refine x_iinc (L' := [_, _, _, _, _, _, _]) (pc := 54) hC dX12_meetsLate_54 rfl rfl rfl ?_
        refine x_goto (tgt := 11) (pc := 57) hC dX12_meetsLate_57 (by decide) ?_
        refine ih (k + 1) (t + 1) _ (by omega) (by omega) ?_
        unfold mtF
        rw [sumTo_s]
        rw [ha]
        unfold mtF
        rw [show σ 47 0 + (k : Int) = t by omega, bI_f c43]
      · refine x_iconst (pc := 46) hC dX12_meetsLate_46 ?_
        refine x_goto (tgt := 51) (pc := 47) hC dX12_meetsLate_47 (by decide) ?_
        refine x_iadd (pc := 51) hC dX12_meetsLate_51 ?_
        refine x_istore (L' := [_, _, _, _, _, _, _]) (pc := 52) hC dX12_meetsLate_52 rfl rfl ?_
        refine x_iinc (L' := [_, _, _, _, _, _, _]) (pc := 54) hC dX12_meetsLate_54 rfl rfl rfl ?_
        refine x_goto (tgt := 11) (pc := 57) hC dX12_meetsLate_57 (by decide) ?_
        refine ih (k + 1) (t + 1) _ (by omega) (by omega) ?_
        unfold mtF
        rw [sumTo_s]
        rw [ha]
        unfold mtF
        rw [show σ 47 0 + (k : Int) = t by omega, bI_t c43]
  refine x_iconst (pc := 0) hC dX12_meetsLate_0 ?_
  refine x_istore (L' := [_, _, _, _, _, _, _]) (pc := 1) hC dX12_meetsLate_1 rfl rfl ?_
  refine x_aload_n (pc := 3) hC dX12_meetsLate_3 rfl ?_
  refine x_getr (K := 1) (pc := 4) hC fX12_9_12 (by assumption) dX12_meetsLate_4 rfl rfl (by assumption) ?_
  refine x_iconst (pc := 7) hC dX12_meetsLate_7 ?_
  refine x_iald (pc := 8) hC (by assumption) (by omega) dX12_meetsLate_8 ?_
  refine x_istore (L' := [_, _, _, _, _, _, _]) (pc := 9) hC dX12_meetsLate_9 rfl rfl ?_
  exact loop n.toNat 0 _ _ (by omega) (by omega) rfl

def meetsA (z : zS) (a b n : Int) : Int := if ¬ ((0 ≤ a ∧ a ≤ z 13 - 1) ∧ (0 ≤ b ∧ b ≤ z 13 - 1)) then -1 else if ¬ (a ≠ b ∧ (1 ≤ n ∧ n ≤ 60)) then -2 else mtF z a b 0 n.toNat
set_option maxHeartbeats 4000000 in
set_option maxRecDepth 100000 in
theorem s_meets (E : xE) {σ : xM} {ρ : xR} {ks : xKs} (hk : MK ks) (hw : MW ρ) {a b n : Int} (ha : rg a) (hb : rg b) (hn : rg n) (hpl : PlOk (σ 47)) : Sp E yX12_meets kX12_meets 4 0 0 [.ref 46, .int (iI a), .int (iI b), .int (iI n)] σ ρ ks (Fn (some (.int (iI (meetsA (σ 47) a b n)))) (σ) ρ ks) := by
  obtain ⟨k46, k47, k48, k49, k50, k51, k52, k53, k54⟩ := id hk
  obtain ⟨w1, w2, w3, w10, w11, w14, w15, w16⟩ := id hw
  refine x_enter (own := RX12) (L := [_, _, _, _]) (by decide +kernel) rfl (by exact Nat.le_of_ble_eq_true rfl) rfl (fun p e R s m args below meth c Z hZ hC hR hin => ?_)
  have hf13 := hpl.1.1
  refine x_aload_n (pc := 0) hC dX12_meets_0 rfl ?_
  refine x_iload_n (pc := 1) hC dX12_meets_1 rfl ?_
  refine x_callV1 (As := [_]) (Bs := [_]) (pc := 2) hC (s_isFan E hk hw (by omega) (by omega)) wX12_151_12 pX12_isFan (by assumption) rfl rfl (by exact Nat.le_of_ble_eq_true rfl) hR (by decide) (by decide) (by decide) rfl dX12_meets_2 ?_
  refine x_ifB_eq (tgt := 16) (pc := 5) hC  dX12_meets_5 (by decide) (fun c5 => ?_) (fun c5 => ?_)
  · refine x_iconst (pc := 16) hC dX12_meets_16 ?_
    refine x_ireturn hC hZ dX12_meets_17 (by decide) (by decide) ?_
    exact ⟨congrArg (fun z => some (Value.int (iI z))) (by rw [meetsA, if_pos (by omega)]), rfl, rfl, rfl⟩
  · refine x_aload_n (pc := 8) hC dX12_meets_8 rfl ?_
    refine x_iload_n (pc := 9) hC dX12_meets_9 rfl ?_
    refine x_callV1 (As := [_]) (Bs := [_]) (pc := 10) hC (s_isFan E hk hw (by omega) (by omega)) wX12_151_12 pX12_isFan (by assumption) rfl rfl (by exact Nat.le_of_ble_eq_true rfl) hR (by decide) (by decide) (by decide) rfl dX12_meets_10 ?_
    refine x_ifB_ne (tgt := 18) (pc := 13) hC  dX12_meets_13 (by decide) (fun c13 => ?_) (fun c13 => ?_)
    · refine x_iload_n (pc := 18) hC dX12_meets_18 rfl ?_
      refine x_iload_n (pc := 19) hC dX12_meets_19 rfl ?_
      refine x_icmp_eq (tgt := 33) (pc := 20) hC (by omega) (by omega) dX12_meets_20 (by decide) (fun c20 => ?_) (fun c20 => ?_)
      · refine x_bipush (pc := 33) hC dX12_meets_33 (by decide +kernel) ?_
        refine x_goto (tgt := 46) (pc := 35) hC dX12_meets_35 (by decide) ?_
        refine x_ireturn hC hZ dX12_meets_46 (by decide) (by decide) ?_
        exact ⟨congrArg (fun z => some (Value.int (iI z))) (by rw [meetsA, if_neg (by omega), if_pos (by omega)]), rfl, rfl, rfl⟩
      · refine x_iload_n (pc := 23) hC dX12_meets_23 rfl ?_
        refine x_iconst (pc := 24) hC dX12_meets_24 ?_
        refine x_bipush (pc := 25) hC dX12_meets_25 (by decide +kernel) ?_
        refine x_callS1 (As := [_, _, _]) (Bs := [_, _, _]) (pc := 27) hC (s_in E (by omega) (by omega) (by omega)) wX12_41 pX12_in rfl rfl (by exact Nat.le_of_ble_eq_true rfl) hR (by decide) (by decide) (by decide) rfl dX12_meets_27 ?_
        refine x_ifB_ne (tgt := 38) (pc := 30) hC  dX12_meets_30 (by decide) (fun c30 => ?_) (fun c30 => ?_)
        · refine x_aload_n (pc := 38) hC dX12_meets_38 rfl ?_
          refine x_iload_n (pc := 39) hC dX12_meets_39 rfl ?_
          refine x_iload_n (pc := 40) hC dX12_meets_40 rfl ?_
          refine x_iload_n (pc := 41) hC dX12_meets_41 rfl ?_
          refine x_iconst (pc := 42) hC dX12_meets_42 ?_
          refine x_callV1 (As := [_, _, _, _]) (Bs := [_, _, _, _]) (pc := 43) hC (s_meetsLate E hk hw (l := 0) hpl (by omega) (by omega) (by omega) (by omega)) wX12_212_12 pX12_meetsLate (by assumption) rfl rfl (by exact Nat.le_of_ble_eq_true rfl) hR (by decide) (by decide) (by decide) rfl dX12_meets_43 ?_
          refine x_ireturn hC hZ dX12_meets_46 (by decide) (by decide) ?_
          exact ⟨congrArg (fun z => some (Value.int (iI z))) (by rw [meetsA, if_neg (by omega), if_neg (by omega)]), rfl, rfl, rfl⟩
        · refine x_bipush (pc := 33) hC dX12_meets_33 (by decide +kernel) ?_
          refine x_goto (tgt := 46) (pc := 35) hC dX12_meets_35 (by decide) ?_
          refine x_ireturn hC hZ dX12_meets_46 (by decide) (by decide) ?_
          exact ⟨congrArg (fun z => some (Value.int (iI z))) (by rw [meetsA, if_neg (by omega), if_pos (by omega)]), rfl, rfl, rfl⟩
    · refine x_iconst (pc := 16) hC dX12_meets_16 ?_
      refine x_ireturn hC hZ dX12_meets_17 (by decide) (by decide) ?_
      exact ⟨congrArg (fun z => some (Value.int (iI z))) (by rw [meetsA, if_pos (by omega)]), rfl, rfl, rfl⟩

def lateA (z : zS) (a b n w : Int) : Int := if ¬ ((0 ≤ a ∧ a ≤ z 13 - 1) ∧ (0 ≤ b ∧ b ≤ z 13 - 1) ∧ (0 ≤ w ∧ w ≤ 1)) then -1 else if ¬ (a ≠ b ∧ (1 ≤ n ∧ n ≤ 60)) then -2 else if w = 0 then (mnF (fun l => mtF z a b l n.toNat) 0 1000000 0 30).1 else (mnF (fun l => mtF z a b l n.toNat) 0 1000000 0 30).2
set_option maxHeartbeats 4000000 in
set_option maxRecDepth 100000 in
theorem s_late (E : xE) {σ : xM} {ρ : xR} {ks : xKs} (hk : MK ks) (hw : MW ρ) {a b n w : Int} (ha : rg a) (hb : rg b) (hn : rg n) (hw0 : rg w) (hpl : PlOk (σ 47)) : Sp E yX12_late kX12_late 4 0 0 [.ref 46, .int (iI a), .int (iI b), .int (iI n), .int (iI w)] σ ρ ks (Fn (some (.int (iI (lateA (σ 47) a b n w)))) (σ) ρ ks) := by
  obtain ⟨k46, k47, k48, k49, k50, k51, k52, k53, k54⟩ := id hk
  obtain ⟨w1, w2, w3, w10, w11, w14, w15, w16⟩ := id hw
  refine x_enter (own := RX12) (L := [_, _, _, _, _, _, _, _, _]) (by decide +kernel) rfl (by exact Nat.le_of_ble_eq_true rfl) rfl (fun p e R s m args below meth c Z hZ hC hR hin => ?_)
  have hf13 := hpl.1.1
  have loop : (0 ≤ a ∧ a < σ 47 13) → (0 ≤ b ∧ b < σ 47 13) → a ≠ b → (0 ≤ w ∧ w ≤ 1) → (1 ≤ n ∧ n ≤ 60) → ∀ (i k : Nat) (j bb ll : Int), j = k → i + k = 30 → (bb, ll) = mnF (fun l => mtF (σ 47) a b l n.toNat) 0 1000000 0 k → X E p e R s m args below meth c Z 0 0 σ ρ ks 56 [some (.ref 46), some (.int (iI a)), some (.int (iI b)), some (.int (iI n)), some (.int (iI w)), some (.int (iI bb)), some (.int (iI ll)), some (.int (iI j)), none] [] := by
    intro ha1 hb1 hab hw1 hn1 i
    induction i with
    | zero =>
      intro k j bb ll hj hi hbl
      have hk30 : k = 30 := by omega
      subst hk30
      refine x_iload (pc := 56) hC dX12_late_56 rfl ?_
      refine x_bipush (pc := 58) hC dX12_late_58 (by decide +kernel) ?_
      refine x_icmp_ge (tgt := 112) (pc := 60) hC (by omega) (by omega) dX12_late_60 (by decide) (fun c60 => ?_) (fun c60 => by (exfalso; omega))
      refine x_iload (pc := 112) hC dX12_late_112 rfl ?_
      refine x_if_ne (tgt := 122) (pc := 114) hC (by omega) dX12_late_114 (by decide) (fun c114 => ?_) (fun c114 => ?_)
      · refine x_iload (pc := 122) hC dX12_late_122 rfl ?_
        refine x_ireturn hC hZ dX12_late_124 (by decide) (by decide) ?_
        exact ⟨congrArg (fun z => some (Value.int (iI z))) (by rw [lateA, if_neg (by omega), if_neg (by omega), if_neg (by omega), ← hbl]), rfl, rfl, rfl⟩
      · refine x_iload (pc := 117) hC dX12_late_117 rfl ?_
        refine x_goto (tgt := 124) (pc := 119) hC dX12_late_119 (by decide) ?_
        refine x_ireturn hC hZ dX12_late_124 (by decide) (by decide) ?_
        exact ⟨congrArg (fun z => some (Value.int (iI z))) (by rw [lateA, if_neg (by omega), if_neg (by omega), if_pos (by omega), ← hbl]), rfl, rfl, rfl⟩
    | succ i ih =>
      intro k j bb ll hj hi hbl
      have hgk := mtF_in (σ 47) a b j n.toNat
      have hl1 := mnF_le (fun l => mtF (σ 47) a b l n.toNat) 0 1000000 0 k
      have hl2 := mnF_ge (g := (fun l => mtF (σ 47) a b l n.toNat)) (b := 0) (l := 1000000) (k0 := 0) (N := 30) (M := 0) (by decide) (fun x hx => (mtF_in (σ 47) a b (0 + x) n.toNat).1) k (by omega)
      rw [← hbl] at hl1 hl2
      simp only at hl1 hl2
      refine x_iload (pc := 56) hC dX12_late_56 rfl ?_
      refine x_bipush (pc := 58) hC dX12_late_58 (by decide +kernel) ?_
      refine x_icmp_ge (tgt := 112) (pc := 60) hC (by omega) (by omega) dX12_late_60 (by decide) (fun c60 => by (exfalso; omega)) (fun c60 => ?_)
      refine x_aload_n (pc := 63) hC dX12_late_63 rfl ?_
      refine x_iload_n (pc := 64) hC dX12_late_64 rfl ?_
      refine x_iload_n (pc := 65) hC dX12_late_65 rfl ?_
      refine x_iload_n (pc := 66) hC dX12_late_66 rfl ?_
      refine x_iload (pc := 67) hC dX12_late_67 rfl ?_
      refine x_callV1 (As := [_, _, _, _]) (Bs := [_, _, _, _]) (pc := 69) hC (s_meetsLate E hk hw hpl (by omega) (by omega) (by omega) (by omega)) wX12_212_12 pX12_meetsLate (by assumption) rfl rfl (by exact Nat.le_of_ble_eq_true rfl) hR (by decide) (by decide) (by decide) rfl dX12_late_69 ?_
      refine x_istore (L' := [_, _, _, _, _, _, _, _, _]) (pc := 72) hC dX12_late_72 rfl rfl ?_
      refine x_iload (pc := 74) hC dX12_late_74 rfl ?_
      refine x_iload (pc := 76) hC dX12_late_76 rfl ?_
      refine x_icmp_ge (tgt := 86) (pc := 78) hC (by omega) (by omega) dX12_late_78 (by decide) (fun c78 => ?_) (fun c78 => ?_)
      · refine x_iload (pc := 86) hC dX12_late_86 rfl ?_
        refine x_istore (L' := [_, _, _, _, _, _, _, _, _]) (pc := 88) hC dX12_late_88 rfl rfl ?_
        refine x_iload (pc := 90) hC dX12_late_90 rfl ?_
        refine x_iload (pc := 92) hC dX12_late_92 rfl ?_
        refine x_icmp_ge (tgt := 102) (pc := 94) hC (by omega) (by omega) dX12_late_94 (by decide) (fun c94 => ?_) (fun c94 => ?_)
        · refine x_iload (pc := 102) hC dX12_late_102 rfl ?_
          refine x_istore (L' := [_, _, _, _, _, _, _, _, _]) (pc := 104) hC dX12_late_104 rfl rfl ?_
          refine x_iinc (L' := [_, _, _, _, _, _, _, _, _]) (pc := 106) hC dX12_late_106 rfl rfl rfl ?_
          refine x_goto (tgt := 56) (pc := 109) hC dX12_late_109 (by decide) ?_
          refine X.drop (xLe_s (xLe_s (xLe_s (xLe_s (xLe_s (xLe_s (xLe_s (xLe_s (xLe_n xLe_0))))))))) (ih (k + 1) (j + 1) _ _ (by omega) (by omega) ?_)
          rw [mnF_s, ← hbl]
          rw [show (0 : Int) + k = j by omega]
          rw [if_neg (by omega)]
        · refine x_iload (pc := 97) hC dX12_late_97 rfl ?_
          refine x_goto (tgt := 104) (pc := 99) hC dX12_late_99 (by decide) ?_
          refine x_istore (L' := [_, _, _, _, _, _, _, _, _]) (pc := 104) hC dX12_late_104 rfl rfl ?_
          refine x_iinc (L' := [_, _, _, _, _, _, _, _, _]) (pc := 106) hC dX12_late_106 rfl rfl rfl ?_
          refine x_goto (tgt := 56) (pc := 109) hC dX12_late_109 (by decide) ?_
          exfalso
          omega
      · refine x_iload (pc := 81) hC dX12_late_81 rfl ?_
        refine x_goto (tgt := 88) (pc := 83) hC dX12_late_83 (by decide) ?_
        refine x_istore (L' := [_, _, _, _, _, _, _, _, _]) (pc := 88) hC dX12_late_88 rfl rfl ?_
        refine x_iload (pc := 90) hC dX12_late_90 rfl ?_
        refine x_iload (pc := 92) hC dX12_late_92 rfl ?_
        refine x_icmp_ge (tgt := 102) (pc := 94) hC (by omega) (by omega) dX12_late_94 (by decide) (fun c94 => ?_) (fun c94 => ?_)
        · refine x_iload (pc := 102) hC dX12_late_102 rfl ?_
          refine x_istore (L' := [_, _, _, _, _, _, _, _, _]) (pc := 104) hC dX12_late_104 rfl rfl ?_
          refine x_iinc (L' := [_, _, _, _, _, _, _, _, _]) (pc := 106) hC dX12_late_106 rfl rfl rfl ?_
          refine x_goto (tgt := 56) (pc := 109) hC dX12_late_109 (by decide) ?_
          exfalso
          omega
        · refine x_iload (pc := 97) hC dX12_late_97 rfl ?_
          refine x_goto (tgt := 104) (pc := 99) hC dX12_late_99 (by decide) ?_
          refine x_istore (L' := [_, _, _, _, _, _, _, _, _]) (pc := 104) hC dX12_late_104 rfl rfl ?_
          refine x_iinc (L' := [_, _, _, _, _, _, _, _, _]) (pc := 106) hC dX12_late_106 rfl rfl rfl ?_
          refine x_goto (tgt := 56) (pc := 109) hC dX12_late_109 (by decide) ?_
          refine X.drop (xLe_s (xLe_s (xLe_s (xLe_s (xLe_s (xLe_s (xLe_s (xLe_s (xLe_n xLe_0))))))))) (ih (k + 1) (j + 1) _ _ (by omega) (by omega) ?_)
          rw [mnF_s, ← hbl]
          rw [show (0 : Int) + k = j by omega]
          rw [if_pos c78]
  refine x_aload_n (pc := 0) hC dX12_late_0 rfl ?_
  refine x_iload_n (pc := 1) hC dX12_late_1 rfl ?_
  refine x_callV1 (As := [_]) (Bs := [_]) (pc := 2) hC (s_isFan E hk hw (by omega) (by omega)) wX12_151_12 pX12_isFan (by assumption) rfl rfl (by exact Nat.le_of_ble_eq_true rfl) hR (by decide) (by decide) (by decide) rfl dX12_late_2 ?_
  refine x_ifB_eq (tgt := 26) (pc := 5) hC  dX12_late_5 (by decide) (fun c5 => ?_) (fun c5 => ?_)
  · refine x_iconst (pc := 26) hC dX12_late_26 ?_
    refine x_ireturn hC hZ dX12_late_27 (by decide) (by decide) ?_
    exact ⟨congrArg (fun z => some (Value.int (iI z))) (by rw [lateA, if_pos (by omega)]), rfl, rfl, rfl⟩
  · refine x_aload_n (pc := 8) hC dX12_late_8 rfl ?_
    refine x_iload_n (pc := 9) hC dX12_late_9 rfl ?_
    refine x_callV1 (As := [_]) (Bs := [_]) (pc := 10) hC (s_isFan E hk hw (by omega) (by omega)) wX12_151_12 pX12_isFan (by assumption) rfl rfl (by exact Nat.le_of_ble_eq_true rfl) hR (by decide) (by decide) (by decide) rfl dX12_late_10 ?_
    refine x_ifB_eq (tgt := 26) (pc := 13) hC  dX12_late_13 (by decide) (fun c13 => ?_) (fun c13 => ?_)
    · refine x_iconst (pc := 26) hC dX12_late_26 ?_
      refine x_ireturn hC hZ dX12_late_27 (by decide) (by decide) ?_
      exact ⟨congrArg (fun z => some (Value.int (iI z))) (by rw [lateA, if_pos (by omega)]), rfl, rfl, rfl⟩
    · refine x_iload (pc := 16) hC dX12_late_16 rfl ?_
      refine x_iconst (pc := 18) hC dX12_late_18 ?_
      refine x_iconst (pc := 19) hC dX12_late_19 ?_
      refine x_callS1 (As := [_, _, _]) (Bs := [_, _, _]) (pc := 20) hC (s_in E (by omega) (by omega) (by omega)) wX12_41 pX12_in rfl rfl (by exact Nat.le_of_ble_eq_true rfl) hR (by decide) (by decide) (by decide) rfl dX12_late_20 ?_
      refine x_ifB_ne (tgt := 28) (pc := 23) hC  dX12_late_23 (by decide) (fun c23 => ?_) (fun c23 => ?_)
      · refine x_iload_n (pc := 28) hC dX12_late_28 rfl ?_
        refine x_iload_n (pc := 29) hC dX12_late_29 rfl ?_
        refine x_icmp_eq (tgt := 43) (pc := 30) hC (by omega) (by omega) dX12_late_30 (by decide) (fun c30 => ?_) (fun c30 => ?_)
        · refine x_bipush (pc := 43) hC dX12_late_43 (by decide +kernel) ?_
          refine x_ireturn hC hZ dX12_late_45 (by decide) (by decide) ?_
          exact ⟨congrArg (fun z => some (Value.int (iI z))) (by rw [lateA, if_neg (by omega), if_pos (by omega)]), rfl, rfl, rfl⟩
        · refine x_iload_n (pc := 33) hC dX12_late_33 rfl ?_
          refine x_iconst (pc := 34) hC dX12_late_34 ?_
          refine x_bipush (pc := 35) hC dX12_late_35 (by decide +kernel) ?_
          refine x_callS1 (As := [_, _, _]) (Bs := [_, _, _]) (pc := 37) hC (s_in E (by omega) (by omega) (by omega)) wX12_41 pX12_in rfl rfl (by exact Nat.le_of_ble_eq_true rfl) hR (by decide) (by decide) (by decide) rfl dX12_late_37 ?_
          refine x_ifB_ne (tgt := 46) (pc := 40) hC  dX12_late_40 (by decide) (fun c40 => ?_) (fun c40 => ?_)
          · refine x_iconst (pc := 46) hC dX12_late_46 ?_
            refine x_istore (L' := [_, _, _, _, _, _, _, _, _]) (pc := 47) hC dX12_late_47 rfl rfl ?_
            refine x_ldc (pc := 49) hC (1000000) qX12_196 (by decide +kernel) dX12_late_49 ?_
            refine x_istore (L' := [_, _, _, _, _, _, _, _, _]) (pc := 51) hC dX12_late_51 rfl rfl ?_
            refine x_iconst (pc := 53) hC dX12_late_53 ?_
            refine x_istore (L' := [_, _, _, _, _, _, _, _, _]) (pc := 54) hC dX12_late_54 rfl rfl ?_
            exact X.drop (xLe_s (xLe_s (xLe_s (xLe_s (xLe_s (xLe_s (xLe_s (xLe_s (xLe_n xLe_0))))))))) (loop (by omega) (by omega) (by omega) (by omega) (by omega) 30 0 0 _ _ rfl rfl rfl)
          · refine x_bipush (pc := 43) hC dX12_late_43 (by decide +kernel) ?_
            refine x_ireturn hC hZ dX12_late_45 (by decide) (by decide) ?_
            exact ⟨congrArg (fun z => some (Value.int (iI z))) (by rw [lateA, if_neg (by omega), if_pos (by omega)]), rfl, rfl, rfl⟩
      · refine x_iconst (pc := 26) hC dX12_late_26 ?_
        refine x_ireturn hC hZ dX12_late_27 (by decide) (by decide) ?_
        exact ⟨congrArg (fun z => some (Value.int (iI z))) (by rw [lateA, if_pos (by omega)]), rfl, rfl, rfl⟩

abbrev perP (w : zS) (p : Int) : Prop := ∀ i : Nat, i < 200 → w i = w (i + p)
def perS (w : zS) : Nat → Int → Int
  | 0, p => if perP w p then p else -5
  | m + 1, p => if perP w p then p else perS w m (p + 1)
theorem perP_congr {w w' : zS} {p : Int} (hp : 0 ≤ p ∧ p < 200) (h : ∀ j, 0 ≤ j → j < 400 → w' j = w j) : perP w' p ↔ perP w p := by
  unfold perP
  constructor
  · intro g i hi
    rw [← h _ (by omega) (by omega), ← h _ (by omega) (by omega)]; exact g i hi
  · intro g i hi
    rw [h _ (by omega) (by omega), h _ (by omega) (by omega)]; exact g i hi
def periodA (z : zS) (f : Int) : Int := if ¬ (0 ≤ f ∧ f ≤ z 13 - 1) then -1 else perS (isAtF z f) 199 1
set_option maxHeartbeats 4000000 in
set_option maxRecDepth 100000 in
theorem s_isPeriod (E : xE) {σ : xM} {ρ : xR} {ks : xKs} (hk : MK ks) (hw : MW ρ) {q : Int} (hq : 0 ≤ q ∧ q < 200) (h53 : ∀ x, 0 ≤ x → x < 400 → 0 ≤ σ 53 x ∧ σ 53 x ≤ 9) : Sp E yX12_isPeriod kX12_isPeriod 0 0 0 [.ref 46, .int (iI q)] σ ρ ks (Fn (some (.int (iI (bI (perP (σ 53) q))))) (σ) ρ ks) := by
  obtain ⟨k46, k47, k48, k49, k50, k51, k52, k53, k54⟩ := id hk
  obtain ⟨w1, w2, w3, w10, w11, w14, w15, w16⟩ := id hw
  refine x_enter (own := RX12) (L := [_, _, _]) (by decide +kernel) rfl (by exact Nat.le_of_ble_eq_true rfl) rfl (fun p e R s m args below meth c Z hZ hC hR hin => ?_)
  have loop : ∀ (i k : Nat) (j : Int), j = k → i + k = 200 → (∀ x : Nat, x < k → σ 53 x = σ 53 (x + q)) → X E p e R s m args below meth c Z 0 0 σ ρ ks 2 [some (.ref 46), some (.int (iI q)), some (.int (iI j))] [] := by
    intro i
    induction i with
    | zero =>
      intro k j hj hi hall
      have hk2 : k = 200 := by omega
      subst hk2
      refine x_iload_n (pc := 2) hC dX12_isPeriod_2 rfl ?_
      refine x_sipush (pc := 3) hC dX12_isPeriod_3 (by decide +kernel) ?_
      refine x_icmp_ge (tgt := 34) (pc := 6) hC (by omega) (by omega) dX12_isPeriod_6 (by decide) (fun c6 => ?_) (fun c6 => by (exfalso; omega))
      refine x_iconst (pc := 34) hC dX12_isPeriod_34 ?_
      refine x_zreturn hC hZ (by omega) dX12_isPeriod_35 (by decide) (by decide) ?_
      exact ⟨congrArg (fun z => some (Value.int (iI z))) (by rw [bI_t (show perP _ _ from hall)]), rfl, rfl, rfl⟩
    | succ i ih =>
      intro k j hj hi hall
      have r1 := h53 j (by omega) (by omega)
      have r2 := h53 (j + q) (by omega) (by omega)
      refine x_iload_n (pc := 2) hC dX12_isPeriod_2 rfl ?_
      refine x_sipush (pc := 3) hC dX12_isPeriod_3 (by decide +kernel) ?_
      refine x_icmp_ge (tgt := 34) (pc := 6) hC (by omega) (by omega) dX12_isPeriod_6 (by decide) (fun c6 => by (exfalso; omega)) (fun c6 => ?_)
      refine x_aload_n (pc := 9) hC dX12_isPeriod_9 rfl ?_
      refine x_getr (K := 15) (pc := 10) hC fX12_31_12 (by assumption) dX12_isPeriod_10 rfl rfl (by assumption) ?_
      refine x_iload_n (pc := 13) hC dX12_isPeriod_13 rfl ?_
      refine x_iald (pc := 14) hC (by assumption) (by omega) dX12_isPeriod_14 ?_
      refine x_aload_n (pc := 15) hC dX12_isPeriod_15 rfl ?_
      refine x_getr (K := 15) (pc := 16) hC fX12_31_12 (by assumption) dX12_isPeriod_16 rfl rfl (by assumption) ?_
      refine x_iload_n (pc := 19) hC dX12_isPeriod_19 rfl ?_
      refine x_iload_n (pc := 20) hC dX12_isPeriod_20 rfl ?_
      refine x_iadd (pc := 21) hC dX12_isPeriod_21 ?_
      refine x_iald (pc := 22) hC (by assumption) (by omega) dX12_isPeriod_22 ?_
      refine x_icmp_eq (tgt := 28) (pc := 23) hC (by omega) (by omega) dX12_isPeriod_23 (by decide) (fun c23 => ?_) (fun c23 => ?_)
      · refine x_iinc (L' := [_, _, _]) (pc := 28) hC dX12_isPeriod_28 rfl rfl rfl ?_
        refine x_goto (tgt := 2) (pc := 31) hC dX12_isPeriod_31 (by decide) ?_
        refine ih (k + 1) (j + 1) (by omega) (by omega) (fun x hx => ?_)
        by_cases e : x = k
        · rw [e, ← hj]; exact c23
        · exact hall x (by omega)
      · refine x_iconst (pc := 26) hC dX12_isPeriod_26 ?_
        refine x_zreturn hC hZ (by omega) dX12_isPeriod_27 (by decide) (by decide) ?_
        exact ⟨congrArg (fun z => some (Value.int (iI z))) (by rw [bI_f (fun h => c23 (by have := h k (by omega); rw [hj]; exact this))]), rfl, rfl, rfl⟩
  refine x_iconst (pc := 0) hC dX12_isPeriod_0 ?_
  refine x_istore_n (L' := [_, _, _]) (pc := 1) hC dX12_isPeriod_1 rfl rfl ?_
  exact loop 200 0 0 rfl rfl (fun x hx => by omega)

set_option maxHeartbeats 4000000 in
set_option maxRecDepth 100000 in
theorem s_isLastPeriod (E : xE) {σ : xM} {ρ : xR} {ks : xKs} (hk : MK ks) (hw : MW ρ) {f : Int} (hf : FanOk (σ 47) f) (hsit : SitOk (σ 47)) (hff : 0 ≤ f ∧ f < 4) : Sp E yX12_isLastPeriod kX12_isLastPeriod 3 0 0 [.ref 46, .int (iI f)] σ ρ ks (Fn (some (.int (iI (bI (perP (isAtF (σ 47) f) 200))))) (σ) ρ ks) := by
  obtain ⟨k46, k47, k48, k49, k50, k51, k52, k53, k54⟩ := id hk
  obtain ⟨w1, w2, w3, w10, w11, w14, w15, w16⟩ := id hw
  refine x_enter (own := RX12) (L := [_, _, _]) (by decide +kernel) rfl (by exact Nat.le_of_ble_eq_true rfl) rfl (fun p e R s m args below meth c Z hZ hC hR hin => ?_)
  have loop : ∀ (i k : Nat) (j : Int), j = k → i + k = 200 → (∀ x : Nat, x < k → isAtF (σ 47) f x = isAtF (σ 47) f (x + 200)) → X E p e R s m args below meth c Z 0 0 σ ρ ks 2 [some (.ref 46), some (.int (iI f)), some (.int (iI j))] [] := by
    intro i
    induction i with
    | zero =>
      intro k j hj hi hall
      have hk2 : k = 200 := by omega
      subst hk2
      refine x_iload_n (pc := 2) hC dX12_isLastPeriod_2 rfl ?_
      refine x_sipush (pc := 3) hC dX12_isLastPeriod_3 (by decide +kernel) ?_
      refine x_icmp_ge (tgt := 36) (pc := 6) hC (by omega) (by omega) dX12_isLastPeriod_6 (by decide) (fun c6 => ?_) (fun c6 => by (exfalso; omega))
      refine x_iconst (pc := 36) hC dX12_isLastPeriod_36 ?_
      refine x_zreturn hC hZ (by omega) dX12_isLastPeriod_37 (by decide) (by decide) ?_
      exact ⟨congrArg (fun z => some (Value.int (iI z))) (by rw [bI_t (show perP _ _ from hall)]), rfl, rfl, rfl⟩
    | succ i ih =>
      intro k j hj hi hall
      have r1 := isAt_in hf hsit (t := j) (by omega)
      have r2 := isAt_in hf hsit (t := j + 200) (by omega)
      refine x_iload_n (pc := 2) hC dX12_isLastPeriod_2 rfl ?_
      refine x_sipush (pc := 3) hC dX12_isLastPeriod_3 (by decide +kernel) ?_
      refine x_icmp_ge (tgt := 36) (pc := 6) hC (by omega) (by omega) dX12_isLastPeriod_6 (by decide) (fun c6 => by (exfalso; omega)) (fun c6 => ?_)
      refine x_aload_n (pc := 9) hC dX12_isLastPeriod_9 rfl ?_
      refine x_iload_n (pc := 10) hC dX12_isLastPeriod_10 rfl ?_
      refine x_iload_n (pc := 11) hC dX12_isLastPeriod_11 rfl ?_
      refine x_callV1 (As := [_, _]) (Bs := [_, _]) (pc := 12) hC (s_isAt E hk hw hf hsit hff (by omega)) wX12_144_12 pX12_isAt (by assumption) rfl rfl (by exact Nat.le_of_ble_eq_true rfl) hR (by decide) (by decide) (by decide) rfl dX12_isLastPeriod_12 ?_
      refine x_aload_n (pc := 15) hC dX12_isLastPeriod_15 rfl ?_
      refine x_iload_n (pc := 16) hC dX12_isLastPeriod_16 rfl ?_
      refine x_iload_n (pc := 17) hC dX12_isLastPeriod_17 rfl ?_
      refine x_sipush (pc := 18) hC dX12_isLastPeriod_18 (by decide +kernel) ?_
      refine x_iadd (pc := 21) hC dX12_isLastPeriod_21 ?_
      refine x_callV1 (As := [_, _]) (Bs := [_, _]) (pc := 22) hC (s_isAt E hk hw hf hsit hff (by omega)) wX12_144_12 pX12_isAt (by assumption) rfl rfl (by exact Nat.le_of_ble_eq_true rfl) hR (by decide) (by decide) (by decide) rfl dX12_isLastPeriod_22 ?_
      refine x_icmp_eq (tgt := 30) (pc := 25) hC (by omega) (by omega) dX12_isLastPeriod_25 (by decide) (fun c25 => ?_) (fun c25 => ?_)
      · refine x_iinc (L' := [_, _, _]) (pc := 30) hC dX12_isLastPeriod_30 rfl rfl rfl ?_
        refine x_goto (tgt := 2) (pc := 33) hC dX12_isLastPeriod_33 (by decide) ?_
        refine ih (k + 1) (j + 1) (by omega) (by omega) (fun x hx => ?_)
        by_cases e : x = k
        · rw [e, ← hj]; exact c25
        · exact hall x (by omega)
      · refine x_iconst (pc := 28) hC dX12_isLastPeriod_28 ?_
        refine x_zreturn hC hZ (by omega) dX12_isLastPeriod_29 (by decide) (by decide) ?_
        exact ⟨congrArg (fun z => some (Value.int (iI z))) (by rw [bI_f (fun h => c25 (by have := h k (by omega); rw [hj]; exact this))]), rfl, rfl, rfl⟩
  refine x_iconst (pc := 0) hC dX12_isLastPeriod_0 ?_
  refine x_istore_n (L' := [_, _, _]) (pc := 1) hC dX12_isLastPeriod_1 rfl rfl ?_
  exact loop 200 0 0 rfl rfl (fun x hx => by omega)

set_option maxHeartbeats 4000000 in
set_option maxRecDepth 100000 in
theorem s_period (E : xE) {σ : xM} {ρ : xR} {ks : xKs} (hk : MK ks) (hw : MW ρ) {f : Int} (hf0 : rg f) (hpl : PlOk (σ 47)) : Sp E yX12_period kX12_period 4 0 0 [.ref 46, .int (iI f)] σ ρ ks (fun r σ' ρ' ks' => r = some (.int (iI (periodA (σ 47) f))) ∧ Ask σ σ' ∧ ρ' = ρ ∧ ks' = ks) := by
  obtain ⟨k46, k47, k48, k49, k50, k51, k52, k53, k54⟩ := id hk
  obtain ⟨w1, w2, w3, w10, w11, w14, w15, w16⟩ := id hw
  refine x_enter (own := RX12) (L := [_, _, _]) (by decide +kernel) rfl (by exact Nat.le_of_ble_eq_true rfl) rfl (fun p e R s m args below meth c Z hZ hC hR hin => ?_)
  have hf13 := hpl.1.1
  obtain ⟨g1, g2, g3, g4⟩ := id hpl
  have loop2 : (0 ≤ f ∧ f < σ 47 13) → FanOk (σ 47) f → ∀ (i : Nat) (j : Int), 1 ≤ j → j + i = 200 → perS (isAtF (σ 47) f) i j = perS (isAtF (σ 47) f) 199 1 → X E p e R s m args below meth c Z 0 0 (sw σ 53 (fun x => if 0 ≤ x ∧ x < 400 then isAtF (σ 47) f x else σ 53 x)) ρ ks 39 [some (.ref 46), some (.int (iI f)), some (.int (iI j))] [] := by
    intro hff hfo i
    have hask : Ask σ (sw σ 53 (fun x => if 0 ≤ x ∧ x < 400 then isAtF (σ 47) f x else σ 53 x)) := ⟨fun q x w u v t r => sw_ne _ r _, fun j x y => by rw [sw_ne _ (by decide)]⟩
    induction i with
    | zero =>
      intro j h1 h2 h3
      have hj2 : j = 200 := by omega
      subst hj2
      refine x_iload_n (pc := 39) hC dX12_period_39 rfl ?_
      refine x_sipush (pc := 40) hC dX12_period_40 (by decide +kernel) ?_
      refine x_icmp_ge (tgt := 62) (pc := 43) hC (by omega) (by omega) dX12_period_43 (by decide) (fun c43 => ?_) (fun c43 => by (exfalso; omega))
      refine x_aload_n (pc := 62) hC dX12_period_62 rfl ?_
      refine x_iload_n (pc := 63) hC dX12_period_63 rfl ?_
      refine x_callV1 (As := [_]) (Bs := [_]) (pc := 64) hC (s_isLastPeriod E hk hw (by rw [sw_ne _ (by decide)]; exact hfo) (by rw [sw_ne _ (by decide)]; exact g2) (by omega)) wX12_219_12 pX12_isLastPeriod (by assumption) rfl rfl (by exact Nat.le_of_ble_eq_true rfl) hR (by decide) (by decide) (by decide) rfl dX12_period_64 ?_
      rw [sw_ne _ (by decide)]
      refine x_ifB_eq (tgt := 76) (pc := 67) hC  dX12_period_67 (by decide) (fun c67 => ?_) (fun c67 => ?_)
      · refine x_bipush (pc := 76) hC dX12_period_76 (by decide +kernel) ?_
        refine x_ireturn hC hZ dX12_period_78 (by decide) (by decide) ?_
        refine ⟨congrArg (fun z => some (Value.int (iI z))) ?_, hask, rfl, rfl⟩
        rw [periodA, if_neg (by omega), ← h3]
        exact (if_neg c67).symm
      · refine x_sipush (pc := 70) hC dX12_period_70 (by decide +kernel) ?_
        refine x_goto (tgt := 78) (pc := 73) hC dX12_period_73 (by decide) ?_
        refine x_ireturn hC hZ dX12_period_78 (by decide) (by decide) ?_
        refine ⟨congrArg (fun z => some (Value.int (iI z))) ?_, hask, rfl, rfl⟩
        rw [periodA, if_neg (by omega), ← h3]
        exact (if_pos c67).symm
    | succ i ih =>
      intro j h1 h2 h3
      have hcg : perP (sw σ 53 (fun x => if 0 ≤ x ∧ x < 400 then isAtF (σ 47) f x else σ 53 x) 53) j ↔ perP (isAtF (σ 47) f) j := perP_congr (by omega) (fun x x1 x2 => by rw [sw_eq]; exact if_pos ⟨x1, x2⟩)
      refine x_iload_n (pc := 39) hC dX12_period_39 rfl ?_
      refine x_sipush (pc := 40) hC dX12_period_40 (by decide +kernel) ?_
      refine x_icmp_ge (tgt := 62) (pc := 43) hC (by omega) (by omega) dX12_period_43 (by decide) (fun c43 => by (exfalso; omega)) (fun c43 => ?_)
      refine x_aload_n (pc := 46) hC dX12_period_46 rfl ?_
      refine x_iload_n (pc := 47) hC dX12_period_47 rfl ?_
      refine x_callV1 (As := [_]) (Bs := [_]) (pc := 48) hC (s_isPeriod E hk hw (by omega) (fun x x1 x2 => by rw [sw_eq, if_pos ⟨x1, x2⟩]; exact isAt_in hfo g2 x1)) wX12_216_12 pX12_isPeriod (by assumption) rfl rfl (by exact Nat.le_of_ble_eq_true rfl) hR (by decide) (by decide) (by decide) rfl dX12_period_48 ?_
      refine x_ifB_eq (tgt := 56) (pc := 51) hC  dX12_period_51 (by decide) (fun c51 => ?_) (fun c51 => ?_)
      · refine x_iinc (L' := [_, _, _]) (pc := 56) hC dX12_period_56 rfl rfl rfl ?_
        refine x_goto (tgt := 39) (pc := 59) hC dX12_period_59 (by decide) ?_
        refine ih (j + 1) (by omega) (by omega) ?_
        rw [← h3]
        exact (if_neg (fun h => c51 (hcg.2 h))).symm
      · refine x_iload_n (pc := 54) hC dX12_period_54 rfl ?_
        refine x_ireturn hC hZ dX12_period_55 (by decide) (by decide) ?_
        refine ⟨congrArg (fun z => some (Value.int (iI z))) ?_, hask, rfl, rfl⟩
        rw [periodA, if_neg (by omega), ← h3]
        exact (if_pos (hcg.1 c51)).symm
  have loop1 : (0 ≤ f ∧ f < σ 47 13) → FanOk (σ 47) f → ∀ (i : Nat) (j : Int), 0 ≤ j → j + i = 400 → X E p e R s m args below meth c Z 0 0 (sw σ 53 (fun x => if 0 ≤ x ∧ x < j then isAtF (σ 47) f x else σ 53 x)) ρ ks 12 [some (.ref 46), some (.int (iI f)), some (.int (iI j))] [] := by
    intro hff hfo i
    induction i with
    | zero =>
      intro j h1 h2
      have hj2 : j = 400 := by omega
      subst hj2
      refine x_iload_n (pc := 12) hC dX12_period_12 rfl ?_
      refine x_sipush (pc := 13) hC dX12_period_13 (by decide +kernel) ?_
      refine x_icmp_ge (tgt := 37) (pc := 16) hC (by omega) (by omega) dX12_period_16 (by decide) (fun c16 => ?_) (fun c16 => by (exfalso; omega))
      refine x_iconst (pc := 37) hC dX12_period_37 ?_
      refine x_istore_n (L' := [_, _, _]) (pc := 38) hC dX12_period_38 rfl rfl ?_
      exact loop2 hff hfo 199 1 (by omega) (by omega) rfl
    | succ i ih =>
      intro j h1 h2
      refine x_iload_n (pc := 12) hC dX12_period_12 rfl ?_
      refine x_sipush (pc := 13) hC dX12_period_13 (by decide +kernel) ?_
      refine x_icmp_ge (tgt := 37) (pc := 16) hC (by omega) (by omega) dX12_period_16 (by decide) (fun c16 => by (exfalso; omega)) (fun c16 => ?_)
      refine x_aload_n (pc := 19) hC dX12_period_19 rfl ?_
      refine x_getr (K := 15) (pc := 20) hC fX12_31_12 (by assumption) dX12_period_20 rfl rfl (by assumption) ?_
      refine x_iload_n (pc := 23) hC dX12_period_23 rfl ?_
      refine x_aload_n (pc := 24) hC dX12_period_24 rfl ?_
      refine x_iload_n (pc := 25) hC dX12_period_25 rfl ?_
      refine x_iload_n (pc := 26) hC dX12_period_26 rfl ?_
      refine x_callV1 (As := [_, _]) (Bs := [_, _]) (pc := 27) hC (s_isAt E hk hw (by rw [sw_ne _ (by decide)]; exact hfo) (by rw [sw_ne _ (by decide)]; exact g2) (by omega) (by omega)) wX12_144_12 pX12_isAt (by assumption) rfl rfl (by exact Nat.le_of_ble_eq_true rfl) hR (by decide) (by decide) (by decide) rfl dX12_period_27 ?_
      rw [sw_ne _ (by decide)]
      refine x_iast (pc := 30) hC (by assumption) (by omega) dX12_period_30 ?_
      refine x_iinc (L' := [_, _, _]) (pc := 31) hC dX12_period_31 rfl rfl rfl ?_
      refine x_goto (tgt := 12) (pc := 34) hC dX12_period_34 (by decide) ?_
      refine X.mem ?_ (ih (j + 1) (by omega) (by omega))
      rw [wr_sw, sw_eq, sw_sw]
      congr 1
      funext x
      unfold up
      dsimp only
      by_cases e : x = j
      · rw [if_pos e, if_pos (by omega), e]
      · rw [if_neg e]; by_cases e2 : 0 ≤ x ∧ x < j
        · rw [if_pos e2, if_pos (by omega)]
        · rw [if_neg e2, if_neg (by omega)]
  refine x_aload_n (pc := 0) hC dX12_period_0 rfl ?_
  refine x_iload_n (pc := 1) hC dX12_period_1 rfl ?_
  refine x_callV1 (As := [_]) (Bs := [_]) (pc := 2) hC (s_isFan E hk hw (by omega) (by omega)) wX12_151_12 pX12_isFan (by assumption) rfl rfl (by exact Nat.le_of_ble_eq_true rfl) hR (by decide) (by decide) (by decide) rfl dX12_period_2 ?_
  refine x_ifB_ne (tgt := 10) (pc := 5) hC  dX12_period_5 (by decide) (fun c5 => ?_) (fun c5 => ?_)
  · refine x_iconst (pc := 10) hC dX12_period_10 ?_
    refine x_istore_n (L' := [_, _, _]) (pc := 11) hC dX12_period_11 rfl rfl ?_
    refine X.mem ?_ (loop1 (by omega) (g1.2 f (by omega) (by omega)) 400 0 (by omega) (by omega))
    rw [show (fun x => if 0 ≤ x ∧ x < 0 then isAtF (σ 47) f x else σ 53 x) = σ 53 from funext fun x => if_neg (by omega), sw_id]
  · refine x_iconst (pc := 8) hC dX12_period_8 ?_
    refine x_ireturn hC hZ dX12_period_9 (by decide) (by decide) ?_
    exact ⟨congrArg (fun z => some (Value.int (iI z))) (by rw [periodA, if_pos (by omega)]), Ask.rf σ, rfl, rfl⟩
