def pacedA (z : zS) (f n : Int) : Int := if ¬ (0 ≤ f ∧ f ≤ z 13 - 1) then -1 else if ¬ (1 ≤ n ∧ n ≤ 30) then -2 else (mnF (fun x => worseF (up z (38 + f) x) n.toNat) (-1) 1000000 1 4).1
set_option maxHeartbeats 4000000 in
set_option maxRecDepth 100000 in
theorem s_paced (E : xE) {σ : xM} {ρ : xR} {ks : xKs} (hk : MK ks) (hw : MW ρ) {f n : Int} (hf0 : rg f) (hn0 : rg n) (hpl : PlOk (σ 47)) (ht : σ 47 0 + 100 < 900000) : Sp E yX12_paced kX12_paced 7 0 0 [.ref 46, .int (iI f), .int (iI n)] σ ρ ks (fun r σ' ρ' ks' => r = some (.int (iI (pacedA (σ 47) f n))) ∧ Ask σ σ' ∧ ρ' = ρ ∧ ks' = ks) := by
  obtain ⟨k46, k47, k48, k49, k50, k51, k52, k53, k54⟩ := id hk
  obtain ⟨w1, w2, w3, w10, w11, w14, w15, w16⟩ := id hw
  refine x_enter (own := RX12) (L := [_, _, _, _, _, _, _, _]) (by decide +kernel) rfl (by exact Nat.le_of_ble_eq_true rfl) rfl (fun p e R s m args below meth c Z hZ hC hR hin => ?_)
  have hf13 := hpl.1.1
  have loop : (0 ≤ f ∧ f ≤ σ 47 13 - 1) ∧ (1 ≤ n ∧ n ≤ 30) → ∀ (i k : Nat) (j bb ll : Int) (μ : xM), j = k + 1 → i + k = 4 → (AskS σ μ ∧ ∃ a, μ 47 = up (σ 47) (38 + f) a) → (bb, ll) = mnF (fun x => worseF (up (σ 47) (38 + f) x) n.toNat) (-1) 1000000 1 k → X E p e R s m args below meth c Z 0 0 μ ρ ks 43 [some (.ref 46), some (.int (iI f)), some (.int (iI n)), some (.int (iI (σ 47 (38 + f)))), some (.int (iI bb)), some (.int (iI ll)), some (.int (iI j)), none] [] := by
    intro hc i
    obtain ⟨hf1, hn1⟩ := hc
    induction i with
    | zero =>
      intro k j bb ll μ hj hi hask hbl
      obtain ⟨hask, a0, h47⟩ := hask
      have hk10 : k = 4 := by omega
      subst hk10
      refine x_iload (pc := 43) hC dX12_paced_43 rfl ?_
      refine x_iconst (pc := 45) hC dX12_paced_45 ?_
      refine x_icmp_ge (tgt := 105) (pc := 46) hC (by omega) (by omega) dX12_paced_46 (by decide) (fun c46 => ?_) (fun c46 => by (exfalso; omega))
      refine x_aload_n (pc := 105) hC dX12_paced_105 rfl ?_
      refine x_getr (K := 1) (pc := 106) hC fX12_9_12 (by assumption) dX12_paced_106 rfl rfl (by assumption) ?_
      refine x_bipush (pc := 109) hC dX12_paced_109 (by decide +kernel) ?_
      refine x_iload_n (pc := 111) hC dX12_paced_111 rfl ?_
      refine x_iadd (pc := 112) hC dX12_paced_112 ?_
      refine x_iload_n (pc := 113) hC dX12_paced_113 rfl ?_
      refine x_iast (pc := 114) hC (by assumption) (by omega) dX12_paced_114 ?_
      refine X.mem (σ' := sw μ 47 _) (by exact wr_sw _ _ _ _) ?_
      refine x_iload (pc := 115) hC dX12_paced_115 rfl ?_
      refine x_ireturn hC hZ dX12_paced_117 (by decide) (by decide) ?_
      have a2 := hask.sw (up (μ 47) (38 + f) (σ 47 (38 + f)))
      exact ⟨congrArg (fun z => some (Value.int (iI z))) (by rw [pacedA, if_neg (by omega), if_neg (by omega), ← hbl]), a2.to (by rw [sw_eq, h47, up_up, up_id]), rfl, rfl⟩
    | succ i ih =>
      intro k j bb ll μ hj hi hask hbl
      obtain ⟨hask, a0, h47⟩ := hask
      have hpj : ∀ x : Int, 1 ≤ x ∧ x ≤ 4 → PlOk (up (σ 47) (38 + f) x) := fun x hx => hpl.pace (by omega) hx
      have hwj : ∀ x : Int, 1 ≤ x ∧ x ≤ 4 → 0 ≤ worseF (up (σ 47) (38 + f) x) n.toNat ∧ worseF (up (σ 47) (38 + f) x) n.toNat < 100000 := fun x hx => by
        have := worse_in (hpj x hx) n.toNat (by rw [up_ne _ (by omega)]; omega)
        omega
      have hgk := hwj j (by omega)
      have hl1 := mnF_le (fun x => worseF (up (σ 47) (38 + f) x) n.toNat) (-1) 1000000 1 k
      have hl2 := mnF_ge (g := (fun x => worseF (up (σ 47) (38 + f) x) n.toNat)) (b := -1) (l := 1000000) (k0 := 1) (N := 4) (M := 0) (by decide) (fun x hx => (hwj (1 + x) (by omega)).1) k (by omega)
      rw [← hbl] at hl1 hl2
      simp only at hl1 hl2
      refine x_iload (pc := 43) hC dX12_paced_43 rfl ?_
      refine x_iconst (pc := 45) hC dX12_paced_45 ?_
      refine x_icmp_ge (tgt := 105) (pc := 46) hC (by omega) (by omega) dX12_paced_46 (by decide) (fun c46 => by (exfalso; omega)) (fun c46 => ?_)
      refine x_aload_n (pc := 49) hC dX12_paced_49 rfl ?_
      refine x_getr (K := 1) (pc := 50) hC fX12_9_12 (by assumption) dX12_paced_50 rfl rfl (by assumption) ?_
      refine x_bipush (pc := 53) hC dX12_paced_53 (by decide +kernel) ?_
      refine x_iload_n (pc := 55) hC dX12_paced_55 rfl ?_
      refine x_iadd (pc := 56) hC dX12_paced_56 ?_
      refine x_iload (pc := 57) hC dX12_paced_57 rfl ?_
      refine x_iast (pc := 59) hC (by assumption) (by omega) dX12_paced_59 ?_
      refine X.mem (σ' := sw μ 47 _) (by exact wr_sw _ _ _ _) ?_
      refine X.mem (σ' := sw μ 47 (up (σ 47) (38 + f) j)) (by rw [h47, up_up]) ?_
      refine x_aload_n (pc := 60) hC dX12_paced_60 rfl ?_
      refine x_iload_n (pc := 61) hC dX12_paced_61 rfl ?_
      refine x_callV (As := [_]) (Bs := [_]) (pc := 62) hC (s_worseBy E hk hw (v := n) (by rw [sw_eq]; exact hpj j (by omega)) (by omega) (by rw [sw_eq, up_ne _ (by omega)]; omega)) wX12_197_12 pX12_worseBy (by assumption) rfl rfl (by exact Nat.le_of_ble_eq_true rfl) hR (by decide) (by decide) (by decide) rfl dX12_paced_62 (fun r62 σ62 ρ62 ks62 q62 => ?_)
      obtain ⟨rfl, ha, rfl, rfl⟩ := q62
      rw [sw_eq]
      have hs2 := ha.s
      rw [sw_eq] at hs2
      refine x_istore (L' := [_, _, _, _, _, _, _, _]) (pc := 65) hC dX12_paced_65 rfl rfl ?_
      refine x_iload (pc := 67) hC dX12_paced_67 rfl ?_
      refine x_iload (pc := 69) hC dX12_paced_69 rfl ?_
      refine x_icmp_ge (tgt := 79) (pc := 71) hC (by omega) (by omega) dX12_paced_71 (by decide) (fun c71 => ?_) (fun c71 => ?_)
      · refine x_iload (pc := 79) hC dX12_paced_79 rfl ?_
        refine x_istore (L' := [_, _, _, _, _, _, _, _]) (pc := 81) hC dX12_paced_81 rfl rfl ?_
        refine x_iload (pc := 83) hC dX12_paced_83 rfl ?_
        refine x_iload (pc := 85) hC dX12_paced_85 rfl ?_
        refine x_icmp_ge (tgt := 95) (pc := 87) hC (by omega) (by omega) dX12_paced_87 (by decide) (fun c87 => ?_) (fun c87 => ?_)
        · refine x_iload (pc := 95) hC dX12_paced_95 rfl ?_
          refine x_istore (L' := [_, _, _, _, _, _, _, _]) (pc := 97) hC dX12_paced_97 rfl rfl ?_
          refine x_iinc (L' := [_, _, _, _, _, _, _, _]) (pc := 99) hC dX12_paced_99 rfl rfl rfl ?_
          refine x_goto (tgt := 43) (pc := 102) hC dX12_paced_102 (by decide) ?_
          refine X.drop (xLe_s (xLe_s (xLe_s (xLe_s (xLe_s (xLe_s (xLe_s (xLe_n xLe_0)))))))) (ih (k + 1) (j + 1) _ _ _ (by omega) (by omega) ⟨(hask.sw _).ask ha, j, hs2⟩ ?_)
          rw [mnF_s, ← hbl]
          rw [show (1 : Int) + k = j by omega]
          rw [if_neg (by omega)]
        · refine x_iload (pc := 90) hC dX12_paced_90 rfl ?_
          refine x_goto (tgt := 97) (pc := 92) hC dX12_paced_92 (by decide) ?_
          refine x_istore (L' := [_, _, _, _, _, _, _, _]) (pc := 97) hC dX12_paced_97 rfl rfl ?_
          refine x_iinc (L' := [_, _, _, _, _, _, _, _]) (pc := 99) hC dX12_paced_99 rfl rfl rfl ?_
          refine x_goto (tgt := 43) (pc := 102) hC dX12_paced_102 (by decide) ?_
          exfalso
          omega
      · refine x_iload (pc := 74) hC dX12_paced_74 rfl ?_
        refine x_goto (tgt := 81) (pc := 76) hC dX12_paced_76 (by decide) ?_
        refine x_istore (L' := [_, _, _, _, _, _, _, _]) (pc := 81) hC dX12_paced_81 rfl rfl ?_
        refine x_iload (pc := 83) hC dX12_paced_83 rfl ?_
        refine x_iload (pc := 85) hC dX12_paced_85 rfl ?_
        refine x_icmp_ge (tgt := 95) (pc := 87) hC (by omega) (by omega) dX12_paced_87 (by decide) (fun c87 => ?_) (fun c87 => ?_)
        · refine x_iload (pc := 95) hC dX12_paced_95 rfl ?_
          refine x_istore (L' := [_, _, _, _, _, _, _, _]) (pc := 97) hC dX12_paced_97 rfl rfl ?_
          refine x_iinc (L' := [_, _, _, _, _, _, _, _]) (pc := 99) hC dX12_paced_99 rfl rfl rfl ?_
          refine x_goto (tgt := 43) (pc := 102) hC dX12_paced_102 (by decide) ?_
          exfalso
          omega
        · refine x_iload (pc := 90) hC dX12_paced_90 rfl ?_
          refine x_goto (tgt := 97) (pc := 92) hC dX12_paced_92 (by decide) ?_
          refine x_istore (L' := [_, _, _, _, _, _, _, _]) (pc := 97) hC dX12_paced_97 rfl rfl ?_
          refine x_iinc (L' := [_, _, _, _, _, _, _, _]) (pc := 99) hC dX12_paced_99 rfl rfl rfl ?_
          refine x_goto (tgt := 43) (pc := 102) hC dX12_paced_102 (by decide) ?_
          refine X.drop (xLe_s (xLe_s (xLe_s (xLe_s (xLe_s (xLe_s (xLe_s (xLe_n xLe_0)))))))) (ih (k + 1) (j + 1) _ _ _ (by omega) (by omega) ⟨(hask.sw _).ask ha, j, hs2⟩ ?_)
          rw [mnF_s, ← hbl]
          rw [show (1 : Int) + k = j by omega]
          rw [if_pos c71]
  refine x_aload_n (pc := 0) hC dX12_paced_0 rfl ?_
  refine x_iload_n (pc := 1) hC dX12_paced_1 rfl ?_
  refine x_callV1 (As := [_]) (Bs := [_]) (pc := 2) hC (s_isFan E hk hw (by omega) (by omega)) wX12_151_12 pX12_isFan (by assumption) rfl rfl (by exact Nat.le_of_ble_eq_true rfl) hR (by decide) (by decide) (by decide) rfl dX12_paced_2 ?_
  refine x_ifB_ne (tgt := 10) (pc := 5) hC  dX12_paced_5 (by decide) (fun c5 => ?_) (fun c5 => ?_)
  · refine x_iload_n (pc := 10) hC dX12_paced_10 rfl ?_
    refine x_iconst (pc := 11) hC dX12_paced_11 ?_
    refine x_bipush (pc := 12) hC dX12_paced_12 (by decide +kernel) ?_
    refine x_callS1 (As := [_, _, _]) (Bs := [_, _, _]) (pc := 14) hC (s_in E (by omega) (by omega) (by omega)) wX12_41 pX12_in rfl rfl (by exact Nat.le_of_ble_eq_true rfl) hR (by decide) (by decide) (by decide) rfl dX12_paced_14 ?_
    refine x_ifB_ne (tgt := 23) (pc := 17) hC  dX12_paced_17 (by decide) (fun c17 => ?_) (fun c17 => ?_)
    · refine x_aload_n (pc := 23) hC dX12_paced_23 rfl ?_
      refine x_getr (K := 1) (pc := 24) hC fX12_9_12 (by assumption) dX12_paced_24 rfl rfl (by assumption) ?_
      refine x_bipush (pc := 27) hC dX12_paced_27 (by decide +kernel) ?_
      refine x_iload_n (pc := 29) hC dX12_paced_29 rfl ?_
      refine x_iadd (pc := 30) hC dX12_paced_30 ?_
      refine x_iald (pc := 31) hC (by assumption) (by omega) dX12_paced_31 ?_
      refine x_istore_n (L' := [_, _, _, _, _, _, _, _]) (pc := 32) hC dX12_paced_32 rfl rfl ?_
      refine x_iconst (pc := 33) hC dX12_paced_33 ?_
      refine x_istore (L' := [_, _, _, _, _, _, _, _]) (pc := 34) hC dX12_paced_34 rfl rfl ?_
      refine x_ldc (pc := 36) hC (1000000) qX12_196 (by decide +kernel) dX12_paced_36 ?_
      refine x_istore (L' := [_, _, _, _, _, _, _, _]) (pc := 38) hC dX12_paced_38 rfl rfl ?_
      refine x_iconst (pc := 40) hC dX12_paced_40 ?_
      refine x_istore (L' := [_, _, _, _, _, _, _, _]) (pc := 41) hC dX12_paced_41 rfl rfl ?_
      exact X.drop (xLe_s (xLe_s (xLe_s (xLe_s (xLe_s (xLe_s (xLe_s (xLe_n xLe_0)))))))) (loop ⟨by omega, by omega⟩ 4 0 1 _ _ σ rfl rfl ⟨AskS.rf σ, σ 47 (38 + f), (up_id _ _).symm⟩ rfl)
    · refine x_bipush (pc := 20) hC dX12_paced_20 (by decide +kernel) ?_
      refine x_ireturn hC hZ dX12_paced_22 (by decide) (by decide) ?_
      exact ⟨congrArg (fun z => some (Value.int (iI z))) (by rw [pacedA, if_neg (by omega), if_pos (by omega)]), Ask.rf σ, rfl, rfl⟩
  · refine x_iconst (pc := 8) hC dX12_paced_8 ?_
    refine x_ireturn hC hZ dX12_paced_9 (by decide) (by decide) ?_
    exact ⟨congrArg (fun z => some (Value.int (iI z))) (by rw [pacedA, if_pos (by omega)]), Ask.rf σ, rfl, rfl⟩

def setG (z : zS) (f : Int) (n : Nat) (k : Int) : Int := if k / 10 ≤ k % 10 then worseF (setY z f (k / 10) (k % 10)) n else 1000000
def setA (z : zS) (f n w : Int) : Int := if ¬ ((0 ≤ f ∧ f ≤ z 13 - 1) ∧ 0 ≤ w ∧ w ≤ 1) then -1 else if ¬ (1 ≤ n ∧ n ≤ 30) then -2 else if w = 0 then (mnF (setG z f n.toNat) (-1) 1000000 0 100).1 else (mnF (setG z f n.toNat) (-1) 1000000 0 100).2 / 1000
set_option maxHeartbeats 4000000 in
set_option maxRecDepth 100000 in
theorem s_set (E : xE) {σ : xM} {ρ : xR} {ks : xKs} (hk : MK ks) (hw : MW ρ) {f n w : Int} (hf0 : rg f) (hn0 : rg n) (hw0 : rg w) (hpl : PlOk (σ 47)) (ht : σ 47 0 + 100 < 900000) : Sp E yX12_set kX12_set 7 0 0 [.ref 46, .int (iI f), .int (iI n), .int (iI w)] σ ρ ks (fun r σ' ρ' ks' => r = some (.int (iI (setA (σ 47) f n w))) ∧ Ask σ σ' ∧ ρ' = ρ ∧ ks' = ks) := by
  obtain ⟨k46, k47, k48, k49, k50, k51, k52, k53, k54⟩ := id hk
  obtain ⟨w1, w2, w3, w10, w11, w14, w15, w16⟩ := id hw
  refine x_enter (own := RX12) (L := [_, _, _, _, _, _, _, _, _, _]) (by decide +kernel) rfl (by exact Nat.le_of_ble_eq_true rfl) rfl (fun p e R s m args below meth c Z hZ hC hR hin => ?_)
  have hf13 := hpl.1.1
  have loop : (0 ≤ f ∧ f ≤ σ 47 13 - 1) ∧ (0 ≤ w ∧ w ≤ 1) ∧ (1 ≤ n ∧ n ≤ 30) → ∀ (i k : Nat) (j bb ll : Int) (μ : xM), j = k → i + k = 100 → (AskS σ μ ∧ ∃ a b, μ 47 = setY (σ 47) f a b) → (bb, ll) = mnF (setG (σ 47) f n.toNat) (-1) 1000000 0 k → X E p e R s m args below meth c Z 0 0 μ ρ ks 64 [some (.ref 46), some (.int (iI f)), some (.int (iI n)), some (.int (iI w)), some (.int (iI (σ 47 (30 + f)))), some (.int (iI (σ 47 (34 + f)))), some (.int (iI bb)), some (.int (iI ll)), some (.int (iI j)), none] [] := by
    intro hc i
    obtain ⟨hf1, hw1, hn1⟩ := hc
    have hpj : ∀ x : Int, 0 ≤ x ∧ x < 100 → x / 10 ≤ x % 10 → PlOk (setY (σ 47) f (x / 10) (x % 10)) := fun x hx hx2 => hpl.set (by omega) (by omega)
    have hwj : ∀ x : Int, 0 ≤ x ∧ x < 100 → 0 ≤ setG (σ 47) f n.toNat x ∧ setG (σ 47) f n.toNat x ≤ 1000000 := fun x hx => by
      unfold setG
      split
      · next h =>
        have := worse_in (hpj x hx h) n.toNat (by unfold setY; simp (disch := omega) only [up_ne]; omega)
        omega
      · omega
    induction i with
    | zero =>
      intro k j bb ll μ hj hi hask hbl
      obtain ⟨hask, a0, b0, h47⟩ := hask
      have hk10 : k = 100 := by omega
      subst hk10
      have hl1 := mnF_le (setG (σ 47) f n.toNat) (-1) 1000000 0 100
      have hl2 := mnF_ge (g := (setG (σ 47) f n.toNat)) (b := -1) (l := 1000000) (k0 := 0) (N := 100) (M := 0) (by decide) (fun x hx => (hwj (0 + x) (by omega)).1) 100 (by omega)
      rw [← hbl] at hl1 hl2
      simp only at hl1 hl2
      refine x_iload (pc := 64) hC dX12_set_64 rfl ?_
      refine x_bipush (pc := 66) hC dX12_set_66 (by decide +kernel) ?_
      refine x_icmp_ge (tgt := 157) (pc := 68) hC (by omega) (by omega) dX12_set_68 (by decide) (fun c68 => ?_) (fun c68 => by (exfalso; omega))
      refine x_aload_n (pc := 157) hC dX12_set_157 rfl ?_
      refine x_getr (K := 1) (pc := 158) hC fX12_9_12 (by assumption) dX12_set_158 rfl rfl (by assumption) ?_
      refine x_bipush (pc := 161) hC dX12_set_161 (by decide +kernel) ?_
      refine x_iload_n (pc := 163) hC dX12_set_163 rfl ?_
      refine x_iadd (pc := 164) hC dX12_set_164 ?_
      refine x_iload (pc := 165) hC dX12_set_165 rfl ?_
      refine x_iast (pc := 167) hC (by assumption) (by omega) dX12_set_167 ?_
      refine X.mem (σ' := sw μ 47 _) (by exact wr_sw _ _ _ _) ?_
      refine x_aload_n (pc := 168) hC dX12_set_168 rfl ?_
      refine x_getr (K := 1) (pc := 169) hC fX12_9_12 (by assumption) dX12_set_169 rfl rfl (by assumption) ?_
      refine x_bipush (pc := 172) hC dX12_set_172 (by decide +kernel) ?_
      refine x_iload_n (pc := 174) hC dX12_set_174 rfl ?_
      refine x_iadd (pc := 175) hC dX12_set_175 ?_
      refine x_iload (pc := 176) hC dX12_set_176 rfl ?_
      refine x_iast (pc := 178) hC (by assumption) (by omega) dX12_set_178 ?_
      refine X.mem (σ' := sw μ 47 _) (by rw [wr_sw, sw_eq, sw_sw]) ?_
      refine x_iload_n (pc := 179) hC dX12_set_179 rfl ?_
      refine x_if_ne (tgt := 188) (pc := 180) hC (by omega) dX12_set_180 (by decide) (fun c180 => ?_) (fun c180 => ?_)
      · refine x_iload (pc := 188) hC dX12_set_188 rfl ?_
        refine x_sipush (pc := 190) hC dX12_set_190 (by decide +kernel) ?_
        refine x_idiv (pc := 193) hC (by omega) dX12_set_193 ?_
        refine x_ireturn hC hZ dX12_set_194 (by decide) (by decide) ?_
        have a2 := hask.sw (setY (σ 47) f (σ 47 (30 + f)) (σ 47 (34 + f)))
        rw [setY_id] at a2
        refine ⟨congrArg (fun z => some (Value.int (iI z))) (by rw [setA, if_neg (by omega), if_neg (by omega), if_neg (by omega), ← hbl]), ?_, rfl, rfl⟩
        rw [h47, setY_sw, setY_id]
        exact a2.to (by rw [sw_eq])
      · refine x_iload (pc := 183) hC dX12_set_183 rfl ?_
        refine x_goto (tgt := 194) (pc := 185) hC dX12_set_185 (by decide) ?_
        refine x_ireturn hC hZ dX12_set_194 (by decide) (by decide) ?_
        have a2 := hask.sw (setY (σ 47) f (σ 47 (30 + f)) (σ 47 (34 + f)))
        rw [setY_id] at a2
        refine ⟨congrArg (fun z => some (Value.int (iI z))) (by rw [setA, if_neg (by omega), if_neg (by omega), if_pos (by omega), ← hbl]), ?_, rfl, rfl⟩
        rw [h47, setY_sw, setY_id]
        exact a2.to (by rw [sw_eq])
    | succ i ih =>
      intro k j bb ll μ hj hi hask hbl
      obtain ⟨hask, a0, b0, h47⟩ := hask
      have hgk := hwj j (by omega)
      have hl1 := mnF_le (setG (σ 47) f n.toNat) (-1) 1000000 0 k
      have hl2 := mnF_ge (g := (setG (σ 47) f n.toNat)) (b := -1) (l := 1000000) (k0 := 0) (N := 100) (M := 0) (by decide) (fun x hx => (hwj (0 + x) (by omega)).1) k (by omega)
      rw [← hbl] at hl1 hl2
      simp only at hl1 hl2
      refine x_iload (pc := 64) hC dX12_set_64 rfl ?_
      refine x_bipush (pc := 66) hC dX12_set_66 (by decide +kernel) ?_
      refine x_icmp_ge (tgt := 157) (pc := 68) hC (by omega) (by omega) dX12_set_68 (by decide) (fun c68 => by (exfalso; omega)) (fun c68 => ?_)
      refine x_iload (pc := 71) hC dX12_set_71 rfl ?_
      refine x_bipush (pc := 73) hC dX12_set_73 (by decide +kernel) ?_
      refine x_idiv (pc := 75) hC (by omega) dX12_set_75 ?_
      refine x_iload (pc := 76) hC dX12_set_76 rfl ?_
      refine x_bipush (pc := 78) hC dX12_set_78 (by decide +kernel) ?_
      refine x_irem (pc := 80) hC (by omega) dX12_set_80 ?_
      refine x_icmp_gt (tgt := 151) (pc := 81) hC (by omega) (by omega) dX12_set_81 (by decide) (fun c81 => ?_) (fun c81 => ?_)
      · refine x_iinc (L' := [_, _, _, _, _, _, _, _, _, _]) (pc := 151) hC dX12_set_151 rfl rfl rfl ?_
        refine x_goto (tgt := 64) (pc := 154) hC dX12_set_154 (by decide) ?_
        refine X.drop (xLe_s (xLe_s (xLe_s (xLe_s (xLe_s (xLe_s (xLe_s (xLe_s (xLe_s (xLe_n xLe_0)))))))))) (ih (k + 1) (j + 1) _ _ _ (by omega) (by omega) ⟨hask, a0, b0, h47⟩ ?_)
        rw [mnF_s, ← hbl]
        rw [show (0 : Int) + k = j by omega]
        rw [if_neg (by rw [setG, if_neg (by omega)]; show ¬ 1000000 < ll; omega)]
      · refine x_aload_n (pc := 84) hC dX12_set_84 rfl ?_
        refine x_getr (K := 1) (pc := 85) hC fX12_9_12 (by assumption) dX12_set_85 rfl rfl (by assumption) ?_
        refine x_bipush (pc := 88) hC dX12_set_88 (by decide +kernel) ?_
        refine x_iload_n (pc := 90) hC dX12_set_90 rfl ?_
        refine x_iadd (pc := 91) hC dX12_set_91 ?_
        refine x_iload (pc := 92) hC dX12_set_92 rfl ?_
        refine x_bipush (pc := 94) hC dX12_set_94 (by decide +kernel) ?_
        refine x_idiv (pc := 96) hC (by omega) dX12_set_96 ?_
        refine x_iast (pc := 97) hC (by assumption) (by omega) dX12_set_97 ?_
        refine X.mem (σ' := sw μ 47 _) (by exact wr_sw _ _ _ _) ?_
        refine x_aload_n (pc := 98) hC dX12_set_98 rfl ?_
        refine x_getr (K := 1) (pc := 99) hC fX12_9_12 (by assumption) dX12_set_99 rfl rfl (by assumption) ?_
        refine x_bipush (pc := 102) hC dX12_set_102 (by decide +kernel) ?_
        refine x_iload_n (pc := 104) hC dX12_set_104 rfl ?_
        refine x_iadd (pc := 105) hC dX12_set_105 ?_
        refine x_iload (pc := 106) hC dX12_set_106 rfl ?_
        refine x_bipush (pc := 108) hC dX12_set_108 (by decide +kernel) ?_
        refine x_irem (pc := 110) hC (by omega) dX12_set_110 ?_
        refine x_iast (pc := 111) hC (by assumption) (by omega) dX12_set_111 ?_
        refine X.mem (σ' := sw μ 47 _) (by rw [wr_sw, sw_eq, sw_sw]) ?_
        refine X.mem (σ' := sw μ 47 (setY (σ 47) f (j / 10) (j % 10))) (by rw [h47, setY_sw]) ?_
        have hpp := hpj j (by omega) (by omega)
        have hgj : setG (σ 47) f n.toNat j = worseF (setY (σ 47) f (j / 10) (j % 10)) n.toNat := if_pos (by omega)
        rw [hgj] at hgk
        refine x_aload_n (pc := 112) hC dX12_set_112 rfl ?_
        refine x_iload_n (pc := 113) hC dX12_set_113 rfl ?_
        refine x_callV (As := [_]) (Bs := [_]) (pc := 114) hC (s_worseBy E hk hw (v := n) (by rw [sw_eq]; exact hpp) (by omega) (by rw [sw_eq]; unfold setY; simp (disch := omega) only [up_ne]; omega)) wX12_197_12 pX12_worseBy (by assumption) rfl rfl (by exact Nat.le_of_ble_eq_true rfl) hR (by decide) (by decide) (by decide) rfl dX12_set_114 (fun r114 σ114 ρ114 ks114 q114 => ?_)
        obtain ⟨rfl, ha, rfl, rfl⟩ := q114
        rw [sw_eq]
        have hs2 := ha.s
        rw [sw_eq] at hs2
        refine x_istore (L' := [_, _, _, _, _, _, _, _, _, _]) (pc := 117) hC dX12_set_117 rfl rfl ?_
        refine x_iload (pc := 119) hC dX12_set_119 rfl ?_
        refine x_iload (pc := 121) hC dX12_set_121 rfl ?_
        refine x_icmp_ge (tgt := 131) (pc := 123) hC (by omega) (by omega) dX12_set_123 (by decide) (fun c123 => ?_) (fun c123 => ?_)
        · refine x_iload (pc := 131) hC dX12_set_131 rfl ?_
          refine x_istore (L' := [_, _, _, _, _, _, _, _, _, _]) (pc := 133) hC dX12_set_133 rfl rfl ?_
          refine x_iload (pc := 135) hC dX12_set_135 rfl ?_
          refine x_iload (pc := 137) hC dX12_set_137 rfl ?_
          refine x_icmp_ge (tgt := 147) (pc := 139) hC (by omega) (by omega) dX12_set_139 (by decide) (fun c139 => ?_) (fun c139 => ?_)
          · refine x_iload (pc := 147) hC dX12_set_147 rfl ?_
            refine x_istore (L' := [_, _, _, _, _, _, _, _, _, _]) (pc := 149) hC dX12_set_149 rfl rfl ?_
            refine x_iinc (L' := [_, _, _, _, _, _, _, _, _, _]) (pc := 151) hC dX12_set_151 rfl rfl rfl ?_
            refine x_goto (tgt := 64) (pc := 154) hC dX12_set_154 (by decide) ?_
            refine X.drop (xLe_s (xLe_s (xLe_s (xLe_s (xLe_s (xLe_s (xLe_s (xLe_s (xLe_s (xLe_n xLe_0)))))))))) (ih (k + 1) (j + 1) _ _ _ (by omega) (by omega) ⟨(hask.sw _).ask ha, j / 10, j % 10, hs2⟩ ?_)
            rw [mnF_s, ← hbl]
            rw [show (0 : Int) + k = j by omega, hgj]
            rw [if_neg (by omega)]
          · refine x_iload (pc := 142) hC dX12_set_142 rfl ?_
            refine x_goto (tgt := 149) (pc := 144) hC dX12_set_144 (by decide) ?_
            refine x_istore (L' := [_, _, _, _, _, _, _, _, _, _]) (pc := 149) hC dX12_set_149 rfl rfl ?_
            refine x_iinc (L' := [_, _, _, _, _, _, _, _, _, _]) (pc := 151) hC dX12_set_151 rfl rfl rfl ?_
            refine x_goto (tgt := 64) (pc := 154) hC dX12_set_154 (by decide) ?_
            exfalso
            omega
        · refine x_iload (pc := 126) hC dX12_set_126 rfl ?_
          refine x_goto (tgt := 133) (pc := 128) hC dX12_set_128 (by decide) ?_
          refine x_istore (L' := [_, _, _, _, _, _, _, _, _, _]) (pc := 133) hC dX12_set_133 rfl rfl ?_
          refine x_iload (pc := 135) hC dX12_set_135 rfl ?_
          refine x_iload (pc := 137) hC dX12_set_137 rfl ?_
          refine x_icmp_ge (tgt := 147) (pc := 139) hC (by omega) (by omega) dX12_set_139 (by decide) (fun c139 => ?_) (fun c139 => ?_)
          · refine x_iload (pc := 147) hC dX12_set_147 rfl ?_
            refine x_istore (L' := [_, _, _, _, _, _, _, _, _, _]) (pc := 149) hC dX12_set_149 rfl rfl ?_
            refine x_iinc (L' := [_, _, _, _, _, _, _, _, _, _]) (pc := 151) hC dX12_set_151 rfl rfl rfl ?_
            refine x_goto (tgt := 64) (pc := 154) hC dX12_set_154 (by decide) ?_
            exfalso
            omega
          · refine x_iload (pc := 142) hC dX12_set_142 rfl ?_
            refine x_goto (tgt := 149) (pc := 144) hC dX12_set_144 (by decide) ?_
            refine x_istore (L' := [_, _, _, _, _, _, _, _, _, _]) (pc := 149) hC dX12_set_149 rfl rfl ?_
            refine x_iinc (L' := [_, _, _, _, _, _, _, _, _, _]) (pc := 151) hC dX12_set_151 rfl rfl rfl ?_
            refine x_goto (tgt := 64) (pc := 154) hC dX12_set_154 (by decide) ?_
            refine X.drop (xLe_s (xLe_s (xLe_s (xLe_s (xLe_s (xLe_s (xLe_s (xLe_s (xLe_s (xLe_n xLe_0)))))))))) (ih (k + 1) (j + 1) _ _ _ (by omega) (by omega) ⟨(hask.sw _).ask ha, j / 10, j % 10, hs2⟩ ?_)
            rw [mnF_s, ← hbl]
            rw [show (0 : Int) + k = j by omega, hgj]
            rw [if_pos c123]
  refine x_aload_n (pc := 0) hC dX12_set_0 rfl ?_
  refine x_iload_n (pc := 1) hC dX12_set_1 rfl ?_
  refine x_callV1 (As := [_]) (Bs := [_]) (pc := 2) hC (s_isFan E hk hw (by omega) (by omega)) wX12_151_12 pX12_isFan (by assumption) rfl rfl (by exact Nat.le_of_ble_eq_true rfl) hR (by decide) (by decide) (by decide) rfl dX12_set_2 ?_
  refine x_ifB_eq (tgt := 17) (pc := 5) hC  dX12_set_5 (by decide) (fun c5 => ?_) (fun c5 => ?_)
  · refine x_iconst (pc := 17) hC dX12_set_17 ?_
    refine x_ireturn hC hZ dX12_set_18 (by decide) (by decide) ?_
    exact ⟨congrArg (fun z => some (Value.int (iI z))) (by rw [setA, if_pos (by omega)]), Ask.rf σ, rfl, rfl⟩
  · refine x_iload_n (pc := 8) hC dX12_set_8 rfl ?_
    refine x_iconst (pc := 9) hC dX12_set_9 ?_
    refine x_iconst (pc := 10) hC dX12_set_10 ?_
    refine x_callS1 (As := [_, _, _]) (Bs := [_, _, _]) (pc := 11) hC (s_in E (by omega) (by omega) (by omega)) wX12_41 pX12_in rfl rfl (by exact Nat.le_of_ble_eq_true rfl) hR (by decide) (by decide) (by decide) rfl dX12_set_11 ?_
    refine x_ifB_ne (tgt := 19) (pc := 14) hC  dX12_set_14 (by decide) (fun c14 => ?_) (fun c14 => ?_)
    · refine x_iload_n (pc := 19) hC dX12_set_19 rfl ?_
      refine x_iconst (pc := 20) hC dX12_set_20 ?_
      refine x_bipush (pc := 21) hC dX12_set_21 (by decide +kernel) ?_
      refine x_callS1 (As := [_, _, _]) (Bs := [_, _, _]) (pc := 23) hC (s_in E (by omega) (by omega) (by omega)) wX12_41 pX12_in rfl rfl (by exact Nat.le_of_ble_eq_true rfl) hR (by decide) (by decide) (by decide) rfl dX12_set_23 ?_
      refine x_ifB_ne (tgt := 32) (pc := 26) hC  dX12_set_26 (by decide) (fun c26 => ?_) (fun c26 => ?_)
      · refine x_aload_n (pc := 32) hC dX12_set_32 rfl ?_
        refine x_getr (K := 1) (pc := 33) hC fX12_9_12 (by assumption) dX12_set_33 rfl rfl (by assumption) ?_
        refine x_bipush (pc := 36) hC dX12_set_36 (by decide +kernel) ?_
        refine x_iload_n (pc := 38) hC dX12_set_38 rfl ?_
        refine x_iadd (pc := 39) hC dX12_set_39 ?_
        refine x_iald (pc := 40) hC (by assumption) (by omega) dX12_set_40 ?_
        refine x_istore (L' := [_, _, _, _, _, _, _, _, _, _]) (pc := 41) hC dX12_set_41 rfl rfl ?_
        refine x_aload_n (pc := 43) hC dX12_set_43 rfl ?_
        refine x_getr (K := 1) (pc := 44) hC fX12_9_12 (by assumption) dX12_set_44 rfl rfl (by assumption) ?_
        refine x_bipush (pc := 47) hC dX12_set_47 (by decide +kernel) ?_
        refine x_iload_n (pc := 49) hC dX12_set_49 rfl ?_
        refine x_iadd (pc := 50) hC dX12_set_50 ?_
        refine x_iald (pc := 51) hC (by assumption) (by omega) dX12_set_51 ?_
        refine x_istore (L' := [_, _, _, _, _, _, _, _, _, _]) (pc := 52) hC dX12_set_52 rfl rfl ?_
        refine x_iconst (pc := 54) hC dX12_set_54 ?_
        refine x_istore (L' := [_, _, _, _, _, _, _, _, _, _]) (pc := 55) hC dX12_set_55 rfl rfl ?_
        refine x_ldc (pc := 57) hC (1000000) qX12_196 (by decide +kernel) dX12_set_57 ?_
        refine x_istore (L' := [_, _, _, _, _, _, _, _, _, _]) (pc := 59) hC dX12_set_59 rfl rfl ?_
        refine x_iconst (pc := 61) hC dX12_set_61 ?_
        refine x_istore (L' := [_, _, _, _, _, _, _, _, _, _]) (pc := 62) hC dX12_set_62 rfl rfl ?_
        exact X.drop (xLe_s (xLe_s (xLe_s (xLe_s (xLe_s (xLe_s (xLe_s (xLe_s (xLe_s (xLe_n xLe_0)))))))))) (loop ⟨by omega, by omega, by omega⟩ 100 0 0 _ _ σ rfl rfl ⟨AskS.rf σ, _, _, (setY_id _ _).symm⟩ rfl)
      · refine x_bipush (pc := 29) hC dX12_set_29 (by decide +kernel) ?_
        refine x_ireturn hC hZ dX12_set_31 (by decide) (by decide) ?_
        exact ⟨congrArg (fun z => some (Value.int (iI z))) (by rw [setA, if_neg (by omega), if_pos (by omega)]), Ask.rf σ, rfl, rfl⟩
    · refine x_iconst (pc := 17) hC dX12_set_17 ?_
      refine x_ireturn hC hZ dX12_set_18 (by decide) (by decide) ?_
      exact ⟨congrArg (fun z => some (Value.int (iI z))) (by rw [setA, if_pos (by omega)]), Ask.rf σ, rfl, rfl⟩

def worthA (z : zS) (f n : Int) : Int := if ¬ (0 ≤ f ∧ f ≤ z 13 - 1) then -10001 else if ¬ (1 ≤ n ∧ n ≤ 60) then -10002 else worseF (up z (42 + f) 0) n.toNat % 1000 - worseF (up z (42 + f) 1) n.toNat % 1000
set_option maxHeartbeats 4000000 in
set_option maxRecDepth 100000 in
theorem s_worth (E : xE) {σ : xM} {ρ : xR} {ks : xKs} (hk : MK ks) (hw : MW ρ) {f n : Int} (hf0 : rg f) (hn0 : rg n) (hpl : PlOk (σ 47)) (ht : σ 47 0 + 100 < 900000) : Sp E yX12_worth kX12_worth 7 0 0 [.ref 46, .int (iI f), .int (iI n)] σ ρ ks (fun r σ' ρ' ks' => r = some (.int (iI (worthA (σ 47) f n))) ∧ Ask σ σ' ∧ ρ' = ρ ∧ ks' = ks) := by
  obtain ⟨k46, k47, k48, k49, k50, k51, k52, k53, k54⟩ := id hk
  obtain ⟨w1, w2, w3, w10, w11, w14, w15, w16⟩ := id hw
  refine x_enter (own := RX12) (L := [_, _, _, _, _, _]) (by decide +kernel) rfl (by exact Nat.le_of_ble_eq_true rfl) rfl (fun p e R s m args below meth c Z hZ hC hR hin => ?_)
  have hf13 := hpl.1.1
  refine x_aload_n (pc := 0) hC dX12_worth_0 rfl ?_
  refine x_iload_n (pc := 1) hC dX12_worth_1 rfl ?_
  refine x_callV1 (As := [_]) (Bs := [_]) (pc := 2) hC (s_isFan E hk hw (by omega) (by omega)) wX12_151_12 pX12_isFan (by assumption) rfl rfl (by exact Nat.le_of_ble_eq_true rfl) hR (by decide) (by decide) (by decide) rfl dX12_worth_2 ?_
  refine x_ifB_ne (tgt := 12) (pc := 5) hC  dX12_worth_5 (by decide) (fun c5 => ?_) (fun c5 => ?_)
  · refine x_iload_n (pc := 12) hC dX12_worth_12 rfl ?_
    refine x_iconst (pc := 13) hC dX12_worth_13 ?_
    refine x_bipush (pc := 14) hC dX12_worth_14 (by decide +kernel) ?_
    refine x_callS1 (As := [_, _, _]) (Bs := [_, _, _]) (pc := 16) hC (s_in E (by omega) (by omega) (by omega)) wX12_41 pX12_in rfl rfl (by exact Nat.le_of_ble_eq_true rfl) hR (by decide) (by decide) (by decide) rfl dX12_worth_16 ?_
    refine x_ifB_ne (tgt := 26) (pc := 19) hC  dX12_worth_19 (by decide) (fun c19 => ?_) (fun c19 => ?_)
    · refine x_aload_n (pc := 26) hC dX12_worth_26 rfl ?_
      refine x_getr (K := 1) (pc := 27) hC fX12_9_12 (by assumption) dX12_worth_27 rfl rfl (by assumption) ?_
      refine x_bipush (pc := 30) hC dX12_worth_30 (by decide +kernel) ?_
      refine x_iload_n (pc := 32) hC dX12_worth_32 rfl ?_
      refine x_iadd (pc := 33) hC dX12_worth_33 ?_
      refine x_iald (pc := 34) hC (by assumption) (by omega) dX12_worth_34 ?_
      refine x_istore_n (L' := [_, _, _, _, _, _]) (pc := 35) hC dX12_worth_35 rfl rfl ?_
      have hp0 := hpl.on (f := f) (a := 0) (by omega) (Or.inl rfl)
      have hp1 := hpl.on (f := f) (a := 1) (by omega) (Or.inr rfl)
      have hw0 := worse_in hp0 n.toNat (by rw [up_ne _ (by omega)]; omega)
      have hw1 := worse_in hp1 n.toNat (by rw [up_ne _ (by omega)]; omega)
      refine x_aload_n (pc := 36) hC dX12_worth_36 rfl ?_
      refine x_getr (K := 1) (pc := 37) hC fX12_9_12 (by assumption) dX12_worth_37 rfl rfl (by assumption) ?_
      refine x_bipush (pc := 40) hC dX12_worth_40 (by decide +kernel) ?_
      refine x_iload_n (pc := 42) hC dX12_worth_42 rfl ?_
      refine x_iadd (pc := 43) hC dX12_worth_43 ?_
      refine x_iconst (pc := 44) hC dX12_worth_44 ?_
      refine x_iast (pc := 45) hC (by assumption) (by omega) dX12_worth_45 ?_
      refine X.mem (σ' := sw σ 47 _) (by exact wr_sw _ _ _ _) ?_
      refine x_aload_n (pc := 46) hC dX12_worth_46 rfl ?_
      refine x_iload_n (pc := 47) hC dX12_worth_47 rfl ?_
      refine x_callV (As := [_]) (Bs := [_]) (pc := 48) hC (s_worseBy E hk hw (v := n) (by rw [sw_eq]; exact hp0) (by omega) (by rw [sw_eq, up_ne _ (by omega)]; omega)) wX12_197_12 pX12_worseBy (by assumption) rfl rfl (by exact Nat.le_of_ble_eq_true rfl) hR (by decide) (by decide) (by decide) rfl dX12_worth_48 (fun r48 σ48 ρ48 ks48 q48 => ?_)
      obtain ⟨rfl, ha, rfl, rfl⟩ := q48
      rw [sw_eq]
      have hs2 := ha.s
      rw [sw_eq] at hs2
      refine x_sipush (pc := 51) hC dX12_worth_51 (by decide +kernel) ?_
      refine x_irem (pc := 54) hC (by omega) dX12_worth_54 ?_
      refine x_istore (L' := [_, _, _, _, _, _]) (pc := 55) hC dX12_worth_55 rfl rfl ?_
      refine x_aload_n (pc := 57) hC dX12_worth_57 rfl ?_
      refine x_getr (K := 1) (pc := 58) hC fX12_9_12 (by assumption) dX12_worth_58 rfl rfl (by assumption) ?_
      refine x_bipush (pc := 61) hC dX12_worth_61 (by decide +kernel) ?_
      refine x_iload_n (pc := 63) hC dX12_worth_63 rfl ?_
      refine x_iadd (pc := 64) hC dX12_worth_64 ?_
      refine x_iconst (pc := 65) hC dX12_worth_65 ?_
      refine x_iast (pc := 66) hC (by assumption) (by omega) dX12_worth_66 ?_
      refine X.mem (σ' := sw σ48 47 _) (by exact wr_sw _ _ _ _) ?_
      refine X.mem (σ' := sw σ48 47 (up (σ 47) (42 + f) 1)) (by rw [hs2, up_up]) ?_
      refine x_aload_n (pc := 67) hC dX12_worth_67 rfl ?_
      refine x_iload_n (pc := 68) hC dX12_worth_68 rfl ?_
      refine x_callV (As := [_]) (Bs := [_]) (pc := 69) hC (s_worseBy E hk hw (v := n) (by rw [sw_eq]; exact hp1) (by omega) (by rw [sw_eq, up_ne _ (by omega)]; omega)) wX12_197_12 pX12_worseBy (by assumption) rfl rfl (by exact Nat.le_of_ble_eq_true rfl) hR (by decide) (by decide) (by decide) rfl dX12_worth_69 (fun r69 σ69 ρ69 ks69 q69 => ?_)
      obtain ⟨rfl, hb, rfl, rfl⟩ := q69
      rw [sw_eq]
      have hs3 := hb.s
      rw [sw_eq] at hs3
      refine x_sipush (pc := 72) hC dX12_worth_72 (by decide +kernel) ?_
      refine x_irem (pc := 75) hC (by omega) dX12_worth_75 ?_
      refine x_istore (L' := [_, _, _, _, _, _]) (pc := 76) hC dX12_worth_76 rfl rfl ?_
      refine x_aload_n (pc := 78) hC dX12_worth_78 rfl ?_
      refine x_getr (K := 1) (pc := 79) hC fX12_9_12 (by assumption) dX12_worth_79 rfl rfl (by assumption) ?_
      refine x_bipush (pc := 82) hC dX12_worth_82 (by decide +kernel) ?_
      refine x_iload_n (pc := 84) hC dX12_worth_84 rfl ?_
      refine x_iadd (pc := 85) hC dX12_worth_85 ?_
      refine x_iload_n (pc := 86) hC dX12_worth_86 rfl ?_
      refine x_iast (pc := 87) hC (by assumption) (by omega) dX12_worth_87 ?_
      refine X.mem (σ' := sw σ69 47 _) (by exact wr_sw _ _ _ _) ?_
      refine x_iload (pc := 88) hC dX12_worth_88 rfl ?_
      refine x_iload (pc := 90) hC dX12_worth_90 rfl ?_
      refine x_isub (pc := 92) hC dX12_worth_92 ?_
      refine x_ireturn hC hZ dX12_worth_93 (by decide) (by decide) ?_
      refine ⟨congrArg (fun z => some (Value.int (iI z))) (by rw [worthA, if_neg (by omega), if_neg (by omega)]), ?_, rfl, rfl⟩
      have a2 := (((AskS.rf σ).sw _).ask ha).sw (up (σ 47) (42 + f) 1)
      have a3 := (a2.ask hb).sw (up (σ69 47) (42 + f) (σ 47 (42 + f)))
      exact a3.to (by rw [sw_eq, hs3, up_up, up_id])
    · refine x_sipush (pc := 22) hC dX12_worth_22 (by decide +kernel) ?_
      refine x_ireturn hC hZ dX12_worth_25 (by decide) (by decide) ?_
      exact ⟨congrArg (fun z => some (Value.int (iI z))) (by rw [worthA, if_neg (by omega), if_pos (by omega)]), Ask.rf σ, rfl, rfl⟩
  · refine x_sipush (pc := 8) hC dX12_worth_8 (by decide +kernel) ?_
    refine x_ireturn hC hZ dX12_worth_11 (by decide) (by decide) ?_
    exact ⟨congrArg (fun z => some (Value.int (iI z))) (by rw [worthA, if_pos (by omega)]), Ask.rf σ, rfl, rfl⟩
