/-- the rule's rows -/
def RlAt (σ : xM) (ρ : xR) (ks : xKs) (z : zS) : Prop := σ 1 12 = z 17 ∧ ρ 1 11 = some 17 ∧ ks[17]? = some (1, 12) ∧ ∀ k, 0 ≤ k → k < z 17 → σ 17 (k * 3) = z (86 + k) ∧ σ 17 (k * 3 + 1) = z (90 + k)
set_option maxHeartbeats 4000000 in
set_option maxRecDepth 100000 in
theorem c_ruledFan (E : xE) {σ : xM} {ρ : xR} {ks : xKs} (hk : HK ks ρ) {z : zS} (hrl : RlAt σ ρ ks z) {y : Int} (hru : RuleOk z) (h17 : 0 < z 17) (hy : 0 ≤ y ∧ y ≤ 1000) : Sp E yX1_ruledFan kX1_ruledFan 0 0 0 [.ref 1, .int (iI y)] σ ρ ks (Fn (some (.int (iI (rlF z y)))) (σ) ρ ks) := by
  obtain ⟨k1, k2, r0, r2, hs3⟩ := id hk
  refine x_enter (own := RX1) (L := [_, _, _, _, _]) (by decide +kernel) rfl (by exact Nat.le_of_ble_eq_true rfl) rfl (fun p e R s m args below meth c Z hZ hC hR hin => ?_)
  obtain ⟨g1, g2, g3, g4⟩ := id hrl
  have h170 := hru.1
  have hss := suF_in hru (z 17).toNat 0 (by omega) (by omega)
  have hmm := emod_in (t := y) (d := suF z 0 (z 17).toNat) (by omega)
  have loop2 : ∀ (i : Nat) (k r : Int), 0 ≤ k → k + i = z 17 → 0 ≤ r → r ≤ 1000 → r < suF z k i → rlG z i k r = rlF z y → X E p e R s m args below meth c Z 0 0 σ ρ ks 46 [some (.ref 1), some (.int (iI y)), some (.int (iI (suF z 0 (z 17).toNat))), some (.int (iI r)), some (.int (iI k))] [] := by
    intro i
    induction i with
    | zero =>
      intro k r hk0 hki hr0 hr1 hr2 he
      simp only [suF] at hr2
      exfalso; omega
    | succ i ih =>
      intro k r hk0 hki hr0 hr1 hr2 he
      obtain ⟨s1, s2⟩ := hru.2 k hk0 (by omega)
      obtain ⟨e1, e2⟩ := g4 k hk0 (by omega)
      simp only [suF] at hr2
      have he1 : (if z (90 + k) ≤ r then rlG z i (k + 1) (r - z (90 + k)) else z (86 + k)) = rlF z y := he
      refine x_iload (pc := 46) hC dX1_ruledFan_46 rfl ?_
      refine x_aload_n (pc := 48) hC dX1_ruledFan_48 rfl ?_
      refine x_geti (K := 12) (pc := 49) hC fX1_60_1 (by assumption) dX1_ruledFan_49 rfl rfl ?_
      refine x_icmp_ge (tgt := 89) (pc := 52) hC (by omega) (by omega) dX1_ruledFan_52 (by decide) (fun c52 => by (exfalso; omega)) (fun c52 => ?_)
      refine x_iload_n (pc := 55) hC dX1_ruledFan_55 rfl ?_
      refine x_aload_n (pc := 56) hC dX1_ruledFan_56 rfl ?_
      refine x_getr (K := 11) (pc := 57) hC fX1_57_1 (by assumption) dX1_ruledFan_57 rfl rfl (by assumption) ?_
      refine x_iload (pc := 60) hC dX1_ruledFan_60 rfl ?_
      refine x_iconst (pc := 62) hC dX1_ruledFan_62 ?_
      refine x_imul (pc := 63) hC dX1_ruledFan_63 ?_
      refine x_iconst (pc := 64) hC dX1_ruledFan_64 ?_
      refine x_iadd (pc := 65) hC dX1_ruledFan_65 ?_
      refine x_iald (pc := 66) hC (by assumption) (by omega) dX1_ruledFan_66 ?_
      rw [e2]
      refine x_isub (pc := 67) hC dX1_ruledFan_67 ?_
      refine x_istore_n (L' := [_, _, _, _, _]) (pc := 68) hC dX1_ruledFan_68 rfl rfl ?_
      refine x_iload_n (pc := 69) hC dX1_ruledFan_69 rfl ?_
      refine x_if_ge (tgt := 83) (pc := 70) hC (by omega) dX1_ruledFan_70 (by decide) (fun c70 => ?_) (fun c70 => ?_)
      · refine x_iinc (L' := [_, _, _, _, _]) (pc := 83) hC dX1_ruledFan_83 rfl rfl rfl ?_
        refine x_goto (tgt := 46) (pc := 86) hC dX1_ruledFan_86 (by decide) ?_
        rw [if_pos (by omega)] at he1
        exact ih (k + 1) _ (by omega) (by omega) (by omega) (by omega) (by omega) he1
      · refine x_aload_n (pc := 73) hC dX1_ruledFan_73 rfl ?_
        refine x_getr (K := 11) (pc := 74) hC fX1_57_1 (by assumption) dX1_ruledFan_74 rfl rfl (by assumption) ?_
        refine x_iload (pc := 77) hC dX1_ruledFan_77 rfl ?_
        refine x_iconst (pc := 79) hC dX1_ruledFan_79 ?_
        refine x_imul (pc := 80) hC dX1_ruledFan_80 ?_
        refine x_iald (pc := 81) hC (by assumption) (by omega) dX1_ruledFan_81 ?_
        refine x_ireturn hC hZ dX1_ruledFan_82 (by decide) (by decide) ?_
        rw [if_neg (by omega)] at he1
        exact ⟨congrArg (fun z => some (Value.int (iI z))) (by rw [e1]; exact he1), rfl, rfl, rfl⟩
  have loop : ∀ (i k : Nat) (j a : Int), j = k → (k : Int) + i = z 17 → a = suF z 0 k → X E p e R s m args below meth c Z 0 0 σ ρ ks 4 [some (.ref 1), some (.int (iI y)), some (.int (iI a)), some (.int (iI j)), none] [] := by
    intro i
    induction i with
    | zero =>
      intro k j a hj hi ha
      have hkk : k = (z 17).toNat := by omega
      subst hkk
      subst ha
      refine x_iload_n (pc := 4) hC dX1_ruledFan_4 rfl ?_
      refine x_aload_n (pc := 5) hC dX1_ruledFan_5 rfl ?_
      refine x_geti (K := 12) (pc := 6) hC fX1_60_1 (by assumption) dX1_ruledFan_6 rfl rfl ?_
      refine x_icmp_ge (tgt := 31) (pc := 9) hC (by omega) (by omega) dX1_ruledFan_9 (by decide) (fun c9 => ?_) (fun c9 => by (exfalso; omega))
      refine x_iload_n (pc := 31) hC dX1_ruledFan_31 rfl ?_
      refine x_if_le (tgt := 41) (pc := 32) hC (by omega) dX1_ruledFan_32 (by decide) (fun c32 => by (exfalso; omega)) (fun c32 => ?_)
      refine x_iload_n (pc := 35) hC dX1_ruledFan_35 rfl ?_
      refine x_iload_n (pc := 36) hC dX1_ruledFan_36 rfl ?_
      refine x_irem (pc := 37) hC (by omega) dX1_ruledFan_37 ?_
      refine x_goto (tgt := 42) (pc := 38) hC dX1_ruledFan_38 (by decide) ?_
      refine x_istore_n (L' := [_, _, _, _, _]) (pc := 42) hC dX1_ruledFan_42 rfl rfl ?_
      refine x_iconst (pc := 43) hC dX1_ruledFan_43 ?_
      refine x_istore (L' := [_, _, _, _, _]) (pc := 44) hC dX1_ruledFan_44 rfl rfl ?_
      exact loop2 (z 17).toNat 0 _ (by omega) (by omega) (by omega) (by omega) (by omega) rfl
    | succ i ih =>
      intro k j a hj hi ha
      obtain ⟨s1, s2⟩ := hru.2 j (by omega) (by omega)
      obtain ⟨e1, e2⟩ := g4 j (by omega) (by omega)
      have hsk := suF_in hru k 0 (by omega) (by omega)
      rw [← ha] at hsk
      refine x_iload_n (pc := 4) hC dX1_ruledFan_4 rfl ?_
      refine x_aload_n (pc := 5) hC dX1_ruledFan_5 rfl ?_
      refine x_geti (K := 12) (pc := 6) hC fX1_60_1 (by assumption) dX1_ruledFan_6 rfl rfl ?_
      refine x_icmp_ge (tgt := 31) (pc := 9) hC (by omega) (by omega) dX1_ruledFan_9 (by decide) (fun c9 => by (exfalso; omega)) (fun c9 => ?_)
      refine x_iload_n (pc := 12) hC dX1_ruledFan_12 rfl ?_
      refine x_aload_n (pc := 13) hC dX1_ruledFan_13 rfl ?_
      refine x_getr (K := 11) (pc := 14) hC fX1_57_1 (by assumption) dX1_ruledFan_14 rfl rfl (by assumption) ?_
      refine x_iload_n (pc := 17) hC dX1_ruledFan_17 rfl ?_
      refine x_iconst (pc := 18) hC dX1_ruledFan_18 ?_
      refine x_imul (pc := 19) hC dX1_ruledFan_19 ?_
      refine x_iconst (pc := 20) hC dX1_ruledFan_20 ?_
      refine x_iadd (pc := 21) hC dX1_ruledFan_21 ?_
      refine x_iald (pc := 22) hC (by assumption) (by omega) dX1_ruledFan_22 ?_
      rw [e2]
      refine x_iadd (pc := 23) hC dX1_ruledFan_23 ?_
      refine x_istore_n (L' := [_, _, _, _, _]) (pc := 24) hC dX1_ruledFan_24 rfl rfl ?_
      refine x_iinc (L' := [_, _, _, _, _]) (pc := 25) hC dX1_ruledFan_25 rfl rfl rfl ?_
      refine x_goto (tgt := 4) (pc := 28) hC dX1_ruledFan_28 (by decide) ?_
      refine ih (k + 1) (j + 1) _ (by omega) (by omega) ?_
      rw [suF_s, ← ha, hj, Int.add_zero]
  refine x_iconst (pc := 0) hC dX1_ruledFan_0 ?_
  refine x_istore_n (L' := [_, _, _, _, _]) (pc := 1) hC dX1_ruledFan_1 rfl rfl ?_
  refine x_iconst (pc := 2) hC dX1_ruledFan_2 ?_
  refine x_istore_n (L' := [_, _, _, _, _]) (pc := 3) hC dX1_ruledFan_3 rfl rfl ?_
  exact loop (z 17).toNat 0 0 0 rfl (by omega) rfl
