def hottestA (z : zS) (v : Int) : Int := if ¬ (0 ≤ v ∧ v ≤ 60) then -2 else hotI (playF z v.toNat) (z 14 - 1).toNat
set_option maxHeartbeats 4000000 in
set_option maxRecDepth 100000 in
theorem s_hottest (E : xE) {σ : xM} {ρ : xR} {ks : xKs} (hk : MK ks) (hw : MW ρ) {v : Int} (hv : rg v) (hpl : PlOk (σ 47)) (ht : σ 47 0 + 60 < 900000) : Sp E yX12_hottest kX12_hottest 6 0 0 [.ref 46, .int (iI v)] σ ρ ks (fun r σ' ρ' ks' => r = some (.int (iI (hottestA (σ 47) v))) ∧ Ask σ σ' ∧ ρ' = ρ ∧ ks' = ks) := by
  obtain ⟨k46, k47, k48, k49, k50, k51, k52, k53, k54⟩ := id hk
  obtain ⟨w1, w2, w3, w10, w11, w14, w15, w16⟩ := id hw
  refine x_enter (own := RX12) (L := [_, _, _, _]) (by decide +kernel) rfl (by exact Nat.le_of_ble_eq_true rfl) rfl (fun p e R s m args below meth c Z hZ hC hR hin => ?_)
  have hs14 := hpl.2.1.1
  have loop : ∀ (μ : xM), SitOk (μ 47) → ∀ (n k : Nat) (j a : Int), j = k + 1 → a = hotI (μ 47) k → (n : Int) + k = μ 47 14 - 1 ∨ (μ 47 14 = 0 ∧ n = 0 ∧ k = 0) → (Sc (sw σ 49 (cp49 σ 13)) μ ∧ μ 47 = playF (σ 47) v.toNat ∧ (∀ x, 13 ≤ x ∨ x < 0 → μ 47 x = σ 47 x) ∧ 0 ≤ v ∧ v ≤ 60) → X E p e R s m args below meth c Z 0 0 μ ρ ks 41 [some (.ref 46), some (.int (iI v)), some (.int (iI a)), some (.int (iI j))] [] := by
    intro μ hsi n
    have h6 := hsi.1
    induction n with
    | zero =>
      intro k j a hj ha hn hall
      obtain ⟨hsc, h47, hout, hv0, hv1⟩ := hall
      have h14 := hout 14 (by decide)
      refine x_iload_n (pc := 41) hC dX12_hottest_41 rfl ?_
      refine x_aload_n (pc := 42) hC dX12_hottest_42 rfl ?_
      refine x_getr (K := 1) (pc := 43) hC fX12_9_12 (by assumption) dX12_hottest_43 rfl rfl (by assumption) ?_
      refine x_bipush (pc := 46) hC dX12_hottest_46 (by decide +kernel) ?_
      refine x_iald (pc := 48) hC (by assumption) (by omega) dX12_hottest_48 ?_
      refine x_icmp_ge (tgt := 83) (pc := 49) hC (by omega) (by omega) dX12_hottest_49 (by decide) (fun c49 => ?_) (fun c49 => by (exfalso; omega))
      refine x_aload_n (pc := 83) hC dX12_hottest_83 rfl ?_
      refine x_callV0 (As := []) (Bs := []) (pc := 84) hC (s_goesBack E hk hw) wX12_193_12 pX12_goesBack (by assumption) rfl rfl (by exact Nat.le_of_ble_eq_true rfl) hR (by decide) (by decide) (by decide) rfl dX12_hottest_84 ?_
      refine x_iload_n (pc := 87) hC dX12_hottest_87 rfl ?_
      refine x_ireturn hC hZ dX12_hottest_88 (by decide) (by decide) ?_
      exact ⟨congrArg (fun z => some (Value.int (iI z))) (by rw [hottestA, if_neg (by omega), ha, h47]; congr 1; omega), back_ok hsc hout, rfl, rfl⟩
    | succ n ih =>
      intro k j a hj ha hn hall
      refine x_iload_n (pc := 41) hC dX12_hottest_41 rfl ?_
      refine x_aload_n (pc := 42) hC dX12_hottest_42 rfl ?_
      refine x_getr (K := 1) (pc := 43) hC fX12_9_12 (by assumption) dX12_hottest_43 rfl rfl (by assumption) ?_
      refine x_bipush (pc := 46) hC dX12_hottest_46 (by decide +kernel) ?_
      refine x_iald (pc := 48) hC (by assumption) (by omega) dX12_hottest_48 ?_
      refine x_icmp_ge (tgt := 83) (pc := 49) hC (by omega) (by omega) dX12_hottest_49 (by decide) (fun c49 => by (exfalso; omega)) (fun c49 => ?_)
      have hb2 := hotI_in (z := μ 47) (by omega) k
      rw [← ha] at hb2
      have e1 := (hsi.2 j (by omega) (by omega)).2.1
      have e2 := (hsi.2 a (by omega) (by omega)).2.1
      refine x_aload_n (pc := 52) hC dX12_hottest_52 rfl ?_
      refine x_getr (K := 1) (pc := 53) hC fX12_9_12 (by assumption) dX12_hottest_53 rfl rfl (by assumption) ?_
      refine x_iconst (pc := 56) hC dX12_hottest_56 ?_
      refine x_iload_n (pc := 57) hC dX12_hottest_57 rfl ?_
      refine x_iadd (pc := 58) hC dX12_hottest_58 ?_
      refine x_iald (pc := 59) hC (by assumption) (by omega) dX12_hottest_59 ?_
      refine x_aload_n (pc := 60) hC dX12_hottest_60 rfl ?_
      refine x_getr (K := 1) (pc := 61) hC fX12_9_12 (by assumption) dX12_hottest_61 rfl rfl (by assumption) ?_
      refine x_iconst (pc := 64) hC dX12_hottest_64 ?_
      refine x_iload_n (pc := 65) hC dX12_hottest_65 rfl ?_
      refine x_iadd (pc := 66) hC dX12_hottest_66 ?_
      refine x_iald (pc := 67) hC (by assumption) (by omega) dX12_hottest_67 ?_
      refine x_icmp_le (tgt := 75) (pc := 68) hC (by omega) (by omega) dX12_hottest_68 (by decide) (fun c68 => ?_) (fun c68 => ?_)
      · refine x_iload_n (pc := 75) hC dX12_hottest_75 rfl ?_
        refine x_istore_n (L' := [_, _, _, _]) (pc := 76) hC dX12_hottest_76 rfl rfl ?_
        refine x_iinc (L' := [_, _, _, _]) (pc := 77) hC dX12_hottest_77 rfl rfl rfl ?_
        refine x_goto (tgt := 41) (pc := 80) hC dX12_hottest_80 (by decide) ?_
        refine ih (k + 1) (j + 1) _ (by omega) ?_ (by omega) hall
        subst hj
        rw [ha] at c68
        show _ = if _ then _ else _
        rw [if_neg (by rw [show ((k + 1 : Nat) : Int) = (k : Int) + 1 from rfl, show 1 + ((k : Int) + 1) = 1 + (k + 1) from rfl]; omega)]
        exact ha
      · refine x_iload_n (pc := 71) hC dX12_hottest_71 rfl ?_
        refine x_goto (tgt := 76) (pc := 72) hC dX12_hottest_72 (by decide) ?_
        refine x_istore_n (L' := [_, _, _, _]) (pc := 76) hC dX12_hottest_76 rfl rfl ?_
        refine x_iinc (L' := [_, _, _, _]) (pc := 77) hC dX12_hottest_77 rfl rfl rfl ?_
        refine x_goto (tgt := 41) (pc := 80) hC dX12_hottest_80 (by decide) ?_
        refine ih (k + 1) (j + 1) _ (by omega) ?_ (by omega) hall
        subst hj
        rw [ha] at c68
        show _ = if _ then _ else _
        rw [if_pos (by rw [show ((k + 1 : Nat) : Int) = (k : Int) + 1 from rfl, show 1 + ((k : Int) + 1) = 1 + (k + 1) from rfl]; omega)]
        rfl
  refine x_iload_n (pc := 0) hC dX12_hottest_0 rfl ?_
  refine x_iconst (pc := 1) hC dX12_hottest_1 ?_
  refine x_bipush (pc := 2) hC dX12_hottest_2 (by decide +kernel) ?_
  refine x_callS1 (As := [_, _, _]) (Bs := [_, _, _]) (pc := 4) hC (s_in E (by omega) (by omega) (by omega)) wX12_41 pX12_in rfl rfl (by exact Nat.le_of_ble_eq_true rfl) hR (by decide) (by decide) (by decide) rfl dX12_hottest_4 ?_
  refine x_ifB_ne (tgt := 13) (pc := 7) hC  dX12_hottest_7 (by decide) (fun c7 => ?_) (fun c7 => ?_)
  · refine x_aload_n (pc := 13) hC dX12_hottest_13 rfl ?_
    refine x_callV0 (As := []) (Bs := []) (pc := 14) hC (s_keeps E hk hw) wX12_184_12 pX12_keeps (by assumption) rfl rfl (by exact Nat.le_of_ble_eq_true rfl) hR (by decide) (by decide) (by decide) rfl dX12_hottest_14 ?_
    refine x_aload_n (pc := 17) hC dX12_hottest_17 rfl ?_
    refine x_iload_n (pc := 18) hC dX12_hottest_18 rfl ?_
    refine x_callV (As := [_]) (Bs := [_]) (pc := 19) hC (s_goesOn E hk hw (v := v) (by rw [sw_ne _ (by decide)]; exact hpl) (by omega) (by rw [sw_ne _ (by decide)]; omega)) wX12_181_12 pX12_goesOn (by assumption) rfl rfl (by exact Nat.le_of_ble_eq_true rfl) hR (by decide) (by decide) (by decide) rfl dX12_hottest_19 (fun r19 σ19 ρ19 ks19 q19 => ?_)
    obtain ⟨rfl, rfl, rfl, hsc, h47, h52⟩ := q19
    rw [sw_ne _ (by decide)] at h47
    obtain ⟨hp, h0, hout⟩ := play_pl hpl v.toNat (by omega)
    rw [← h47] at hp h0 hout
    have hsi := hp.2.1
    have h14 := hout 14 (by decide)
    refine x_aload_n (pc := 22) hC dX12_hottest_22 rfl ?_
    refine x_getr (K := 1) (pc := 23) hC fX12_9_12 (by assumption) dX12_hottest_23 rfl rfl (by assumption) ?_
    refine x_bipush (pc := 26) hC dX12_hottest_26 (by decide +kernel) ?_
    refine x_iald (pc := 28) hC (by assumption) (by omega) dX12_hottest_28 ?_
    refine x_if_ne (tgt := 37) (pc := 29) hC (by omega) dX12_hottest_29 (by decide) (fun c29 => ?_) (fun c29 => ?_)
    · refine x_iconst (pc := 37) hC dX12_hottest_37 ?_
      refine x_istore_n (L' := [_, _, _, _]) (pc := 38) hC dX12_hottest_38 rfl rfl ?_
      refine x_iconst (pc := 39) hC dX12_hottest_39 ?_
      refine x_istore_n (L' := [_, _, _, _]) (pc := 40) hC dX12_hottest_40 rfl rfl ?_
      exact loop _ hsi (σ 47 14 - 1).toNat 0 1 _ rfl (by unfold hotI; rw [if_neg c29]) (by omega) ⟨hsc, h47, hout, by omega, by omega⟩
    · refine x_bipush (pc := 32) hC dX12_hottest_32 (by decide +kernel) ?_
      refine x_goto (tgt := 38) (pc := 34) hC dX12_hottest_34 (by decide) ?_
      refine x_istore_n (L' := [_, _, _, _]) (pc := 38) hC dX12_hottest_38 rfl rfl ?_
      refine x_iconst (pc := 39) hC dX12_hottest_39 ?_
      refine x_istore_n (L' := [_, _, _, _]) (pc := 40) hC dX12_hottest_40 rfl rfl ?_
      exact loop _ hsi (σ 47 14 - 1).toNat 0 1 _ rfl (by unfold hotI; rw [if_pos c29]) (by omega) ⟨hsc, h47, hout, by omega, by omega⟩
  · refine x_bipush (pc := 10) hC dX12_hottest_10 (by decide +kernel) ?_
    refine x_ireturn hC hZ dX12_hottest_12 (by decide) (by decide) ?_
    exact ⟨congrArg (fun z => some (Value.int (iI z))) (by rw [hottestA, if_pos (by omega)]), Ask.rf σ, rfl, rfl⟩

def tooHotA (z : zS) (p : Int) : Int := if ¬ (0 ≤ p ∧ p ≤ z 14 - 1) then -1 else tooF z p 61 0
set_option maxHeartbeats 4000000 in
set_option maxRecDepth 100000 in
theorem s_tooHot (E : xE) {σ : xM} {ρ : xR} {ks : xKs} (hk : MK ks) (hw : MW ρ) {q : Int} (hq0 : rg q) (hpl : PlOk (σ 47)) (ht : σ 47 0 + 100 < 900000) : Sp E yX12_tooHot kX12_tooHot 6 0 0 [.ref 46, .int (iI q)] σ ρ ks (fun r σ' ρ' ks' => r = some (.int (iI (tooHotA (σ 47) q))) ∧ Ask σ σ' ∧ ρ' = ρ ∧ ks' = ks) := by
  obtain ⟨k46, k47, k48, k49, k50, k51, k52, k53, k54⟩ := id hk
  obtain ⟨w1, w2, w3, w10, w11, w14, w15, w16⟩ := id hw
  refine x_enter (own := RX12) (L := [_, _, _, _]) (by decide +kernel) rfl (by exact Nat.le_of_ble_eq_true rfl) rfl (fun p e R s m args below meth c Z hZ hC hR hin => ?_)
  have hs14 := hpl.2.1.1
  have hroom := hpl.2.2.1
  have loop : 0 ≤ q ∧ q ≤ σ 47 14 - 1 → ∀ (n k : Nat) (j : Int) (μ : xM), j = k → n + k = 61 → (Sc (sw σ 49 (cp49 σ 13)) μ ∧ μ 47 = playF (σ 47) k) → tooF (σ 47) q n k = tooF (σ 47) q 61 0 → X E p e R s m args below meth c Z 0 0 μ ρ ks 19 [some (.ref 46), some (.int (iI q)), some (.int (iI (-5))), some (.int (iI j))] [] := by
    intro hq n
    induction n with
    | zero =>
      intro k j μ hj hn hall he
      obtain ⟨hsc, h47⟩ := hall
      obtain ⟨hp, h0, hout⟩ := play_pl hpl k (by omega)
      rw [← h47] at hp h0 hout
      refine x_iload_n (pc := 19) hC dX12_tooHot_19 rfl ?_
      refine x_bipush (pc := 20) hC dX12_tooHot_20 (by decide +kernel) ?_
      refine x_icmp_gt (tgt := 76) (pc := 22) hC (by omega) (by omega) dX12_tooHot_22 (by decide) (fun c22 => ?_) (fun c22 => by (exfalso; omega))
      refine x_aload_n (pc := 76) hC dX12_tooHot_76 rfl ?_
      refine x_callV0 (As := []) (Bs := []) (pc := 77) hC (s_goesBack E hk hw) wX12_193_12 pX12_goesBack (by assumption) rfl rfl (by exact Nat.le_of_ble_eq_true rfl) hR (by decide) (by decide) (by decide) rfl dX12_tooHot_77 ?_
      refine x_iload_n (pc := 80) hC dX12_tooHot_80 rfl ?_
      refine x_ireturn hC hZ dX12_tooHot_81 (by decide) (by decide) ?_
      exact ⟨congrArg (fun z => some (Value.int (iI z))) (by rw [tooHotA, if_neg (by omega), ← he]; rfl), back_ok hsc hout, rfl, rfl⟩
    | succ n ih =>
      intro k j μ hj hn hall he
      refine x_iload_n (pc := 19) hC dX12_tooHot_19 rfl ?_
      refine x_bipush (pc := 20) hC dX12_tooHot_20 (by decide +kernel) ?_
      refine x_icmp_gt (tgt := 76) (pc := 22) hC (by omega) (by omega) dX12_tooHot_22 (by decide) (fun c22 => by (exfalso; omega)) (fun c22 => ?_)
      refine x_iload_n (pc := 25) hC dX12_tooHot_25 rfl ?_
      refine x_bipush (pc := 26) hC dX12_tooHot_26 (by decide +kernel) ?_
      refine x_icmp_ne (tgt := 76) (pc := 28) hC (by omega) (by omega) dX12_tooHot_28 (by decide) (fun c28 => by (exfalso; omega)) (fun c28 => ?_)
      obtain ⟨hsc, h47⟩ := hall
      obtain ⟨hp, h0, hout⟩ := play_pl hpl k (by omega)
      rw [← h47] at hp h0 hout
      obtain ⟨g1, g2, g3, g4⟩ := id hp
      have hom := onMany_in g1
      have hht := (g2.2 q (by omega) (by omega)).2.1
      have h20 : μ 47 20 = σ 47 20 := hout 20 (by decide)
      have hr1 := hroom.1
      have hr4 := hroom.2.2.2.1
      have htl : tellsF (μ 47) 218 80 = tellsF (σ 47) 218 80 := tellsF_congr (fun x hx => hout x (Or.inl hx)) (by decide) hr1.1 _
      refine x_aload_n (pc := 31) hC dX12_tooHot_31 rfl ?_
      refine x_getr (K := 1) (pc := 32) hC fX12_9_12 (by assumption) dX12_tooHot_32 rfl rfl (by assumption) ?_
      refine x_iconst (pc := 35) hC dX12_tooHot_35 ?_
      refine x_iload_n (pc := 36) hC dX12_tooHot_36 rfl ?_
      refine x_iadd (pc := 37) hC dX12_tooHot_37 ?_
      refine x_iald (pc := 38) hC (by assumption) (by omega) dX12_tooHot_38 ?_
      refine x_aload_n (pc := 39) hC dX12_tooHot_39 rfl ?_
      refine x_sipush (pc := 40) hC dX12_tooHot_40 (by decide +kernel) ?_
      refine x_bipush (pc := 43) hC dX12_tooHot_43 (by decide +kernel) ?_
      refine x_callV1 (As := [_, _]) (Bs := [_, _]) (pc := 45) hC (s_tellsOf E hk hw (by omega) (by omega)) wX12_130_12 pX12_tellsOf (by assumption) rfl rfl (by exact Nat.le_of_ble_eq_true rfl) hR (by decide) (by decide) (by decide) rfl dX12_tooHot_45 ?_
      rw [htl]
      refine x_icmp_lt (tgt := 55) (pc := 48) hC (by omega) (by omega) dX12_tooHot_48 (by decide) (fun c48 => ?_) (fun c48 => ?_)
      · refine x_bipush (pc := 55) hC dX12_tooHot_55 (by decide +kernel) ?_
        refine x_istore_n (L' := [_, _, _, _]) (pc := 57) hC dX12_tooHot_57 rfl rfl ?_
        refine x_aload_n (pc := 58) hC dX12_tooHot_58 rfl ?_
        refine x_aload_n (pc := 59) hC dX12_tooHot_59 rfl ?_
        refine x_callV1 (As := []) (Bs := []) (pc := 60) hC (s_reachedNow E hk hw g1 g2 (by omega)) wX12_171_12 pX12_reachedNow (by assumption) rfl rfl (by exact Nat.le_of_ble_eq_true rfl) hR (by decide) (by decide) (by decide) rfl dX12_tooHot_60 ?_
        refine x_aload_n (pc := 63) hC dX12_tooHot_63 rfl ?_
        refine x_callV1 (As := []) (Bs := []) (pc := 64) hC (s_onMany E hk hw g1) wX12_174_12 pX12_onMany (by assumption) rfl rfl (by exact Nat.le_of_ble_eq_true rfl) hR (by decide) (by decide) (by decide) rfl dX12_tooHot_64 ?_
        refine x_callV (As := [_, _]) (Bs := [_, _]) (pc := 67) hC (s_goes E hk hw g3 g2 hom (by omega)) wX12_177_12 pX12_goes (by assumption) rfl rfl (by exact Nat.le_of_ble_eq_true rfl) hR (by decide) (by decide) (by decide) rfl dX12_tooHot_67 (fun r67 σ67 ρ67 ks67 q67 => ?_)
        obtain ⟨rfl, rfl, rfl, q1, q2, q3⟩ := q67
        refine x_iinc (L' := [_, _, _, _]) (pc := 70) hC dX12_tooHot_70 rfl rfl rfl ?_
        refine x_goto (tgt := 19) (pc := 73) hC dX12_tooHot_73 (by decide) ?_
        refine ih (k + 1) (j + 1) _ (by omega) (by omega) ⟨hsc.trans q1, by rw [q2, h47]; rfl⟩ ?_
        rw [← he]
        have e3 : ¬ tellsF (σ 47) 218 80 ≤ playF (σ 47) k (1 + q) := by rw [← h47]; omega
        exact (if_neg e3).symm
      · refine x_iload_n (pc := 51) hC dX12_tooHot_51 rfl ?_
        refine x_goto (tgt := 57) (pc := 52) hC dX12_tooHot_52 (by decide) ?_
        refine x_istore_n (L' := [_, _, _, _]) (pc := 57) hC dX12_tooHot_57 rfl rfl ?_
        refine x_aload_n (pc := 58) hC dX12_tooHot_58 rfl ?_
        refine x_aload_n (pc := 59) hC dX12_tooHot_59 rfl ?_
        refine x_callV1 (As := []) (Bs := []) (pc := 60) hC (s_reachedNow E hk hw g1 g2 (by omega)) wX12_171_12 pX12_reachedNow (by assumption) rfl rfl (by exact Nat.le_of_ble_eq_true rfl) hR (by decide) (by decide) (by decide) rfl dX12_tooHot_60 ?_
        refine x_aload_n (pc := 63) hC dX12_tooHot_63 rfl ?_
        refine x_callV1 (As := []) (Bs := []) (pc := 64) hC (s_onMany E hk hw g1) wX12_174_12 pX12_onMany (by assumption) rfl rfl (by exact Nat.le_of_ble_eq_true rfl) hR (by decide) (by decide) (by decide) rfl dX12_tooHot_64 ?_
        refine x_callV (As := [_, _]) (Bs := [_, _]) (pc := 67) hC (s_goes E hk hw g3 g2 hom (by omega)) wX12_177_12 pX12_goes (by assumption) rfl rfl (by exact Nat.le_of_ble_eq_true rfl) hR (by decide) (by decide) (by decide) rfl dX12_tooHot_67 (fun r67 σ67 ρ67 ks67 q67 => ?_)
        obtain ⟨rfl, rfl, rfl, q1, q2, q3⟩ := q67
        refine x_iinc (L' := [_, _, _, _]) (pc := 70) hC dX12_tooHot_70 rfl rfl rfl ?_
        refine x_goto (tgt := 19) (pc := 73) hC dX12_tooHot_73 (by decide) ?_
        refine x_iload_n (pc := 19) hC dX12_tooHot_19 rfl ?_
        refine x_bipush (pc := 20) hC dX12_tooHot_20 (by decide +kernel) ?_
        refine x_icmp_gt (tgt := 76) (pc := 22) hC (by omega) (by omega) dX12_tooHot_22 (by decide) (fun c22 => ?_) (fun c22 => ?_)
        · refine x_aload_n (pc := 76) hC dX12_tooHot_76 rfl ?_
          refine x_callV0 (As := []) (Bs := []) (pc := 77) hC (s_goesBack E hk hw) wX12_193_12 pX12_goesBack (by assumption) rfl rfl (by exact Nat.le_of_ble_eq_true rfl) hR (by decide) (by decide) (by decide) rfl dX12_tooHot_77 ?_
          refine x_iload_n (pc := 80) hC dX12_tooHot_80 rfl ?_
          refine x_ireturn hC hZ dX12_tooHot_81 (by decide) (by decide) ?_
          obtain ⟨b1, b2, b3⟩ := play_pl hpl (k + 1) (by omega)
          have e47 : σ67 47 = playF (σ 47) (k + 1) := by rw [q2, h47]; rfl
          refine ⟨?_, back_ok (hsc.trans q1) (by rw [e47]; exact b3), rfl, rfl⟩
          rw [tooHotA, if_neg (by omega), ← he]
          have e3 : tooF (σ 47) q (n + 1) k = k := if_pos (by rw [← h47, ← htl]; omega)
          rw [e3, hj]
        · refine x_iload_n (pc := 25) hC dX12_tooHot_25 rfl ?_
          refine x_bipush (pc := 26) hC dX12_tooHot_26 (by decide +kernel) ?_
          refine x_icmp_ne (tgt := 76) (pc := 28) hC (by omega) (by omega) dX12_tooHot_28 (by decide) (fun c28 => ?_) (fun c28 => by (exfalso; omega))
          refine x_aload_n (pc := 76) hC dX12_tooHot_76 rfl ?_
          refine x_callV0 (As := []) (Bs := []) (pc := 77) hC (s_goesBack E hk hw) wX12_193_12 pX12_goesBack (by assumption) rfl rfl (by exact Nat.le_of_ble_eq_true rfl) hR (by decide) (by decide) (by decide) rfl dX12_tooHot_77 ?_
          refine x_iload_n (pc := 80) hC dX12_tooHot_80 rfl ?_
          refine x_ireturn hC hZ dX12_tooHot_81 (by decide) (by decide) ?_
          obtain ⟨b1, b2, b3⟩ := play_pl hpl (k + 1) (by omega)
          have e47 : σ67 47 = playF (σ 47) (k + 1) := by rw [q2, h47]; rfl
          refine ⟨?_, back_ok (hsc.trans q1) (by rw [e47]; exact b3), rfl, rfl⟩
          rw [tooHotA, if_neg (by omega), ← he]
          have e3 : tooF (σ 47) q (n + 1) k = k := if_pos (by rw [← h47, ← htl]; omega)
          rw [e3, hj]
  refine x_aload_n (pc := 0) hC dX12_tooHot_0 rfl ?_
  refine x_iload_n (pc := 1) hC dX12_tooHot_1 rfl ?_
  refine x_callV1 (As := [_]) (Bs := [_]) (pc := 2) hC (s_isSitter E hk hw (by omega) (by omega)) wX12_157_12 pX12_isSitter (by assumption) rfl rfl (by exact Nat.le_of_ble_eq_true rfl) hR (by decide) (by decide) (by decide) rfl dX12_tooHot_2 ?_
  refine x_ifB_ne (tgt := 10) (pc := 5) hC  dX12_tooHot_5 (by decide) (fun c5 => ?_) (fun c5 => ?_)
  · refine x_aload_n (pc := 10) hC dX12_tooHot_10 rfl ?_
    refine x_callV0 (As := []) (Bs := []) (pc := 11) hC (s_keeps E hk hw) wX12_184_12 pX12_keeps (by assumption) rfl rfl (by exact Nat.le_of_ble_eq_true rfl) hR (by decide) (by decide) (by decide) rfl dX12_tooHot_11 ?_
    refine x_bipush (pc := 14) hC dX12_tooHot_14 (by decide +kernel) ?_
    refine x_istore_n (L' := [_, _, _, _]) (pc := 16) hC dX12_tooHot_16 rfl rfl ?_
    refine x_iconst (pc := 17) hC dX12_tooHot_17 ?_
    refine x_istore_n (L' := [_, _, _, _]) (pc := 18) hC dX12_tooHot_18 rfl rfl ?_
    exact loop (by omega) 61 0 0 _ rfl rfl ⟨Sc.rf _, by rw [sw_ne _ (by decide)]; rfl⟩ rfl
  · refine x_iconst (pc := 8) hC dX12_tooHot_8 ?_
    refine x_ireturn hC hZ dX12_tooHot_9 (by decide) (by decide) ?_
    exact ⟨congrArg (fun z => some (Value.int (iI z))) (by rw [tooHotA, if_pos (by omega)]), Ask.rf σ, rfl, rfl⟩

set_option maxHeartbeats 4000000 in
set_option maxRecDepth 100000 in
theorem s_heatIn (E : xE) {σ : xM} {ρ : xR} {ks : xKs} (hk : MK ks) (hw : MW ρ) {q x v : Int} (hpl : PlOk (σ 47)) (hq : 0 ≤ q ∧ q < 6) (hx : 0 ≤ x ∧ x ≤ 9) (hv : 0 ≤ v ∧ v ≤ 60) (ht : σ 47 0 + 60 < 900000) : Sp E yX12_heatIn kX12_heatIn 6 0 0 [.ref 46, .int (iI q), .int (iI x), .int (iI v)] σ ρ ks (fun r σ' ρ' ks' => r = some (.int (iI (seatF (σ 47) q x v.toNat))) ∧ Ask σ σ' ∧ ρ' = ρ ∧ ks' = ks) := by
  obtain ⟨k46, k47, k48, k49, k50, k51, k52, k53, k54⟩ := id hk
  obtain ⟨w1, w2, w3, w10, w11, w14, w15, w16⟩ := id hw
  refine x_enter (own := RX12) (L := [_, _, _, _, _, _]) (by decide +kernel) rfl (by exact Nat.le_of_ble_eq_true rfl) rfl (fun p e R s m args below meth c Z hZ hC hR hin => ?_)
  refine x_aload_n (pc := 0) hC dX12_heatIn_0 rfl ?_
  refine x_getr (K := 1) (pc := 1) hC fX12_9_12 (by assumption) dX12_heatIn_1 rfl rfl (by assumption) ?_
  refine x_bipush (pc := 4) hC dX12_heatIn_4 (by decide +kernel) ?_
  refine x_iload_n (pc := 6) hC dX12_heatIn_6 rfl ?_
  refine x_iadd (pc := 7) hC dX12_heatIn_7 ?_
  refine x_iald (pc := 8) hC (by assumption) (by omega) dX12_heatIn_8 ?_
  refine x_istore (L' := [_, _, _, _, _, _]) (pc := 9) hC dX12_heatIn_9 rfl rfl ?_
  refine x_aload_n (pc := 11) hC dX12_heatIn_11 rfl ?_
  refine x_getr (K := 1) (pc := 12) hC fX12_9_12 (by assumption) dX12_heatIn_12 rfl rfl (by assumption) ?_
  refine x_bipush (pc := 15) hC dX12_heatIn_15 (by decide +kernel) ?_
  refine x_iload_n (pc := 17) hC dX12_heatIn_17 rfl ?_
  refine x_iadd (pc := 18) hC dX12_heatIn_18 ?_
  refine x_iload_n (pc := 19) hC dX12_heatIn_19 rfl ?_
  refine x_iast (pc := 20) hC (by assumption) (by omega) dX12_heatIn_20 ?_
  refine X.mem (σ' := sw σ 47 _) (by exact wr_sw _ _ _ _) ?_
  have hpy := hpl.sits (f := q) (a := x) (by omega) (by omega)
  refine x_aload_n (pc := 21) hC dX12_heatIn_21 rfl ?_
  refine x_callV0 (As := []) (Bs := []) (pc := 22) hC (s_keeps E hk hw) wX12_184_12 pX12_keeps (by assumption) rfl rfl (by exact Nat.le_of_ble_eq_true rfl) hR (by decide) (by decide) (by decide) rfl dX12_heatIn_22 ?_
  refine x_aload_n (pc := 25) hC dX12_heatIn_25 rfl ?_
  refine x_iload_n (pc := 26) hC dX12_heatIn_26 rfl ?_
  refine x_callV (As := [_]) (Bs := [_]) (pc := 27) hC (s_goesOn E hk hw (v := v) (by rw [sw_ne _ (by decide), sw_eq]; exact hpy) (by omega) (by rw [sw_ne _ (by decide), sw_eq, up_ne _ (by omega)]; omega)) wX12_181_12 pX12_goesOn (by assumption) rfl rfl (by exact Nat.le_of_ble_eq_true rfl) hR (by decide) (by decide) (by decide) rfl dX12_heatIn_27 (fun r27 σ27 ρ27 ks27 q27 => ?_)
  obtain ⟨rfl, rfl, rfl, hsc, h47, h52⟩ := q27
  rw [sw_ne _ (by decide), sw_eq] at h47
  have hq14 : (up (σ 47) (62 + q) x) 0 = σ 47 0 := up_ne _ (by omega) _
  obtain ⟨hp, h0, hout⟩ := play_pl hpy v.toNat (by omega)
  rw [← h47] at hp h0 hout
  have bk := back_ok (σ := sw σ 47 (up (σ 47) (62 + q) x)) hsc (by rw [sw_eq]; exact hout)
  have b47 := bk.s
  rw [sw_eq, sw_eq] at b47
  refine x_aload_n (pc := 30) hC dX12_heatIn_30 rfl ?_
  refine x_getr (K := 1) (pc := 31) hC fX12_9_12 (by assumption) dX12_heatIn_31 rfl rfl (by assumption) ?_
  refine x_iconst (pc := 34) hC dX12_heatIn_34 ?_
  refine x_iload_n (pc := 35) hC dX12_heatIn_35 rfl ?_
  refine x_iadd (pc := 36) hC dX12_heatIn_36 ?_
  refine x_iald (pc := 37) hC (by assumption) (by omega) dX12_heatIn_37 ?_
  simp (disch := omega) only [sw_eq, up_ne, up_eq]
  refine x_istore (L' := [_, _, _, _, _, _]) (pc := 38) hC dX12_heatIn_38 rfl rfl ?_
  refine x_aload_n (pc := 40) hC dX12_heatIn_40 rfl ?_
  refine x_callV0 (As := []) (Bs := []) (pc := 41) hC (s_goesBack E hk hw) wX12_193_12 pX12_goesBack (by assumption) rfl rfl (by exact Nat.le_of_ble_eq_true rfl) hR (by decide) (by decide) (by decide) rfl dX12_heatIn_41 ?_
  refine x_aload_n (pc := 44) hC dX12_heatIn_44 rfl ?_
  refine x_getr (K := 1) (pc := 45) hC fX12_9_12 (by assumption) dX12_heatIn_45 rfl rfl (by assumption) ?_
  refine x_bipush (pc := 48) hC dX12_heatIn_48 (by decide +kernel) ?_
  refine x_iload_n (pc := 50) hC dX12_heatIn_50 rfl ?_
  refine x_iadd (pc := 51) hC dX12_heatIn_51 ?_
  refine x_iload (pc := 52) hC dX12_heatIn_52 rfl ?_
  refine x_iast (pc := 54) hC (by assumption) (by omega) dX12_heatIn_54 ?_
  refine X.mem (σ' := sw σ27 47 _) (by rw [wr_sw, sw_eq, sw_sw]) ?_
  refine x_iload (pc := 55) hC dX12_heatIn_55 rfl ?_
  refine x_ireturn hC hZ dX12_heatIn_57 (by decide) (by decide) ?_
  refine ⟨congrArg (fun z => some (Value.int (iI z))) (by rw [h47]; rfl), ?_, rfl, rfl⟩
  have a1 : AskS σ (sw σ 47 (up (σ 47) (62 + q) x)) := (AskS.rf σ).sw _
  have a2 := (a1.ask bk).sw (up (cp47 σ27 13) (62 + q) (σ 47 (62 + q)))
  rw [sw_sw] at a2
  exact a2.to (by rw [sw_eq, b47, up_up, up_id])

def seatA (z : zS) (p n w : Int) : Int := if ¬ ((0 ≤ p ∧ p ≤ z 14 - 1) ∧ 0 ≤ w ∧ w ≤ 1) then -1 else if ¬ (1 ≤ n ∧ n ≤ 30) then -2 else if w = 0 then (mnF (fun x => seatF z p x n.toNat) (-1) 1000000 0 10).1 else (mnF (fun x => seatF z p x n.toNat) (-1) 1000000 0 10).2
theorem seatF_in {z : zS} (h : PlOk z) {p x : Int} (hp : 0 ≤ p ∧ p < 6) (hx : 0 ≤ x ∧ x ≤ 9) (n : Nat) (hn : z 0 + n < 900000) : 0 ≤ seatF z p x n ∧ seatF z p x n ≤ 99 := by
  obtain ⟨a, -, -⟩ := play_pl (h.sits hp hx) n (by rw [up_ne _ (by omega)]; exact hn)
  exact (a.2.1.2 p hp.1 hp.2).2.1
set_option maxHeartbeats 4000000 in
set_option maxRecDepth 100000 in
theorem s_seat (E : xE) {σ : xM} {ρ : xR} {ks : xKs} (hk : MK ks) (hw : MW ρ) {q n w : Int} (hq0 : rg q) (hn0 : rg n) (hw0 : rg w) (hpl : PlOk (σ 47)) (ht : σ 47 0 + 100 < 900000) : Sp E yX12_seat kX12_seat 7 0 0 [.ref 46, .int (iI q), .int (iI n), .int (iI w)] σ ρ ks (fun r σ' ρ' ks' => r = some (.int (iI (seatA (σ 47) q n w))) ∧ Ask σ σ' ∧ ρ' = ρ ∧ ks' = ks) := by
  obtain ⟨k46, k47, k48, k49, k50, k51, k52, k53, k54⟩ := id hk
  obtain ⟨w1, w2, w3, w10, w11, w14, w15, w16⟩ := id hw
  refine x_enter (own := RX12) (L := [_, _, _, _, _, _, _, _]) (by decide +kernel) rfl (by exact Nat.le_of_ble_eq_true rfl) rfl (fun p e R s m args below meth c Z hZ hC hR hin => ?_)
  have hs14 := hpl.2.1.1
  have loop : (0 ≤ q ∧ q ≤ σ 47 14 - 1) ∧ (0 ≤ w ∧ w ≤ 1) ∧ (1 ≤ n ∧ n ≤ 30) → ∀ (i k : Nat) (j bb ll : Int) (μ : xM), j = k → i + k = 10 → Ask σ μ → (bb, ll) = mnF (fun x => seatF (σ 47) q x n.toNat) (-1) 1000000 0 k → X E p e R s m args below meth c Z 0 0 μ ρ ks 42 [some (.ref 46), some (.int (iI q)), some (.int (iI n)), some (.int (iI w)), some (.int (iI bb)), some (.int (iI ll)), some (.int (iI j)), none] [] := by
    intro hc i
    obtain ⟨hq1, hw1, hn1⟩ := hc
    induction i with
    | zero =>
      intro k j bb ll μ hj hi hask hbl
      have hk10 : k = 10 := by omega
      subst hk10
      refine x_iload (pc := 42) hC dX12_seat_42 rfl ?_
      refine x_bipush (pc := 44) hC dX12_seat_44 (by decide +kernel) ?_
      refine x_icmp_ge (tgt := 97) (pc := 46) hC (by omega) (by omega) dX12_seat_46 (by decide) (fun c46 => ?_) (fun c46 => by (exfalso; omega))
      refine x_iload_n (pc := 97) hC dX12_seat_97 rfl ?_
      refine x_if_ne (tgt := 106) (pc := 98) hC (by omega) dX12_seat_98 (by decide) (fun c98 => ?_) (fun c98 => ?_)
      · refine x_iload (pc := 106) hC dX12_seat_106 rfl ?_
        refine x_ireturn hC hZ dX12_seat_108 (by decide) (by decide) ?_
        exact ⟨congrArg (fun z => some (Value.int (iI z))) (by rw [seatA, if_neg (by omega), if_neg (by omega), if_neg (by omega), ← hbl]), hask, rfl, rfl⟩
      · refine x_iload (pc := 101) hC dX12_seat_101 rfl ?_
        refine x_goto (tgt := 108) (pc := 103) hC dX12_seat_103 (by decide) ?_
        refine x_ireturn hC hZ dX12_seat_108 (by decide) (by decide) ?_
        exact ⟨congrArg (fun z => some (Value.int (iI z))) (by rw [seatA, if_neg (by omega), if_neg (by omega), if_pos (by omega), ← hbl]), hask, rfl, rfl⟩
    | succ i ih =>
      intro k j bb ll μ hj hi hask hbl
      have hs := hask.s
      have hpm : PlOk (μ 47) := by rw [hs]; exact hpl
      have hgk := seatF_in hpl (p := q) (x := j) (by omega) (by omega) n.toNat (by omega)
      have hl1 := mnF_le (fun x => seatF (σ 47) q x n.toNat) (-1) 1000000 0 k
      have hl2 := mnF_ge (g := (fun x => seatF (σ 47) q x n.toNat)) (b := -1) (l := 1000000) (k0 := 0) (N := 10) (M := 0) (by decide) (fun x hx => (seatF_in hpl (p := q) (x := 0 + x) (by omega) (by omega) n.toNat (by omega)).1) k (by omega)
      rw [← hbl] at hl1 hl2
      simp only at hl1 hl2
      refine x_iload (pc := 42) hC dX12_seat_42 rfl ?_
      refine x_bipush (pc := 44) hC dX12_seat_44 (by decide +kernel) ?_
      refine x_icmp_ge (tgt := 97) (pc := 46) hC (by omega) (by omega) dX12_seat_46 (by decide) (fun c46 => by (exfalso; omega)) (fun c46 => ?_)
      refine x_aload_n (pc := 49) hC dX12_seat_49 rfl ?_
      refine x_iload_n (pc := 50) hC dX12_seat_50 rfl ?_
      refine x_iload (pc := 51) hC dX12_seat_51 rfl ?_
      refine x_iload_n (pc := 53) hC dX12_seat_53 rfl ?_
      refine x_callV (As := [_, _, _]) (Bs := [_, _, _]) (pc := 54) hC (s_heatIn E hk hw hpm (by omega) (by omega) (by omega) (by rw [hs]; omega)) wX12_200_12 pX12_heatIn (by assumption) rfl rfl (by exact Nat.le_of_ble_eq_true rfl) hR (by decide) (by decide) (by decide) rfl dX12_seat_54 (fun r54 σ54 ρ54 ks54 q54 => ?_)
      obtain ⟨rfl, ha, rfl, rfl⟩ := q54
      rw [hs]
      refine x_istore (L' := [_, _, _, _, _, _, _, _]) (pc := 57) hC dX12_seat_57 rfl rfl ?_
      refine x_iload (pc := 59) hC dX12_seat_59 rfl ?_
      refine x_iload (pc := 61) hC dX12_seat_61 rfl ?_
      refine x_icmp_ge (tgt := 71) (pc := 63) hC (by omega) (by omega) dX12_seat_63 (by decide) (fun c63 => ?_) (fun c63 => ?_)
      · refine x_iload (pc := 71) hC dX12_seat_71 rfl ?_
        refine x_istore (L' := [_, _, _, _, _, _, _, _]) (pc := 73) hC dX12_seat_73 rfl rfl ?_
        refine x_iload (pc := 75) hC dX12_seat_75 rfl ?_
        refine x_iload (pc := 77) hC dX12_seat_77 rfl ?_
        refine x_icmp_ge (tgt := 87) (pc := 79) hC (by omega) (by omega) dX12_seat_79 (by decide) (fun c79 => ?_) (fun c79 => ?_)
        · refine x_iload (pc := 87) hC dX12_seat_87 rfl ?_
          refine x_istore (L' := [_, _, _, _, _, _, _, _]) (pc := 89) hC dX12_seat_89 rfl rfl ?_
          refine x_iinc (L' := [_, _, _, _, _, _, _, _]) (pc := 91) hC dX12_seat_91 rfl rfl rfl ?_
          refine x_goto (tgt := 42) (pc := 94) hC dX12_seat_94 (by decide) ?_
          refine X.drop (xLe_s (xLe_s (xLe_s (xLe_s (xLe_s (xLe_s (xLe_s (xLe_n xLe_0)))))))) (ih (k + 1) (j + 1) _ _ _ (by omega) (by omega) (hask.trans ha) ?_)
          rw [mnF_s, ← hbl]
          subst hj
          rw [if_neg (by simp only [Int.zero_add]; omega)]
        · refine x_iload (pc := 82) hC dX12_seat_82 rfl ?_
          refine x_goto (tgt := 89) (pc := 84) hC dX12_seat_84 (by decide) ?_
          refine x_istore (L' := [_, _, _, _, _, _, _, _]) (pc := 89) hC dX12_seat_89 rfl rfl ?_
          refine x_iinc (L' := [_, _, _, _, _, _, _, _]) (pc := 91) hC dX12_seat_91 rfl rfl rfl ?_
          refine x_goto (tgt := 42) (pc := 94) hC dX12_seat_94 (by decide) ?_
          exfalso
          omega
      · refine x_iload (pc := 66) hC dX12_seat_66 rfl ?_
        refine x_goto (tgt := 73) (pc := 68) hC dX12_seat_68 (by decide) ?_
        refine x_istore (L' := [_, _, _, _, _, _, _, _]) (pc := 73) hC dX12_seat_73 rfl rfl ?_
        refine x_iload (pc := 75) hC dX12_seat_75 rfl ?_
        refine x_iload (pc := 77) hC dX12_seat_77 rfl ?_
        refine x_icmp_ge (tgt := 87) (pc := 79) hC (by omega) (by omega) dX12_seat_79 (by decide) (fun c79 => ?_) (fun c79 => ?_)
        · refine x_iload (pc := 87) hC dX12_seat_87 rfl ?_
          refine x_istore (L' := [_, _, _, _, _, _, _, _]) (pc := 89) hC dX12_seat_89 rfl rfl ?_
          refine x_iinc (L' := [_, _, _, _, _, _, _, _]) (pc := 91) hC dX12_seat_91 rfl rfl rfl ?_
          refine x_goto (tgt := 42) (pc := 94) hC dX12_seat_94 (by decide) ?_
          exfalso
          omega
        · refine x_iload (pc := 82) hC dX12_seat_82 rfl ?_
          refine x_goto (tgt := 89) (pc := 84) hC dX12_seat_84 (by decide) ?_
          refine x_istore (L' := [_, _, _, _, _, _, _, _]) (pc := 89) hC dX12_seat_89 rfl rfl ?_
          refine x_iinc (L' := [_, _, _, _, _, _, _, _]) (pc := 91) hC dX12_seat_91 rfl rfl rfl ?_
          refine x_goto (tgt := 42) (pc := 94) hC dX12_seat_94 (by decide) ?_
          refine X.drop (xLe_s (xLe_s (xLe_s (xLe_s (xLe_s (xLe_s (xLe_s (xLe_n xLe_0)))))))) (ih (k + 1) (j + 1) _ _ _ (by omega) (by omega) (hask.trans ha) ?_)
          rw [mnF_s, ← hbl]
          subst hj
          rw [if_pos (by simp only [Int.zero_add]; exact c63)]
          simp only [Int.zero_add]
  refine x_aload_n (pc := 0) hC dX12_seat_0 rfl ?_
  refine x_iload_n (pc := 1) hC dX12_seat_1 rfl ?_
  refine x_callV1 (As := [_]) (Bs := [_]) (pc := 2) hC (s_isSitter E hk hw (by omega) (by omega)) wX12_157_12 pX12_isSitter (by assumption) rfl rfl (by exact Nat.le_of_ble_eq_true rfl) hR (by decide) (by decide) (by decide) rfl dX12_seat_2 ?_
  refine x_ifB_eq (tgt := 17) (pc := 5) hC  dX12_seat_5 (by decide) (fun c5 => ?_) (fun c5 => ?_)
  · refine x_iconst (pc := 17) hC dX12_seat_17 ?_
    refine x_ireturn hC hZ dX12_seat_18 (by decide) (by decide) ?_
    exact ⟨congrArg (fun z => some (Value.int (iI z))) (by rw [seatA, if_pos (by omega)]), Ask.rf σ, rfl, rfl⟩
  · refine x_iload_n (pc := 8) hC dX12_seat_8 rfl ?_
    refine x_iconst (pc := 9) hC dX12_seat_9 ?_
    refine x_iconst (pc := 10) hC dX12_seat_10 ?_
    refine x_callS1 (As := [_, _, _]) (Bs := [_, _, _]) (pc := 11) hC (s_in E (by omega) (by omega) (by omega)) wX12_41 pX12_in rfl rfl (by exact Nat.le_of_ble_eq_true rfl) hR (by decide) (by decide) (by decide) rfl dX12_seat_11 ?_
    refine x_ifB_ne (tgt := 19) (pc := 14) hC  dX12_seat_14 (by decide) (fun c14 => ?_) (fun c14 => ?_)
    · refine x_iload_n (pc := 19) hC dX12_seat_19 rfl ?_
      refine x_iconst (pc := 20) hC dX12_seat_20 ?_
      refine x_bipush (pc := 21) hC dX12_seat_21 (by decide +kernel) ?_
      refine x_callS1 (As := [_, _, _]) (Bs := [_, _, _]) (pc := 23) hC (s_in E (by omega) (by omega) (by omega)) wX12_41 pX12_in rfl rfl (by exact Nat.le_of_ble_eq_true rfl) hR (by decide) (by decide) (by decide) rfl dX12_seat_23 ?_
      refine x_ifB_ne (tgt := 32) (pc := 26) hC  dX12_seat_26 (by decide) (fun c26 => ?_) (fun c26 => ?_)
      · refine x_iconst (pc := 32) hC dX12_seat_32 ?_
        refine x_istore (L' := [_, _, _, _, _, _, _, _]) (pc := 33) hC dX12_seat_33 rfl rfl ?_
        refine x_ldc (pc := 35) hC (1000000) qX12_196 (by decide +kernel) dX12_seat_35 ?_
        refine x_istore (L' := [_, _, _, _, _, _, _, _]) (pc := 37) hC dX12_seat_37 rfl rfl ?_
        refine x_iconst (pc := 39) hC dX12_seat_39 ?_
        refine x_istore (L' := [_, _, _, _, _, _, _, _]) (pc := 40) hC dX12_seat_40 rfl rfl ?_
        exact X.drop (xLe_s (xLe_s (xLe_s (xLe_s (xLe_s (xLe_s (xLe_s (xLe_n xLe_0)))))))) (loop ⟨by omega, by omega, by omega⟩ 10 0 0 _ _ σ rfl rfl (Ask.rf σ) rfl)
      · refine x_bipush (pc := 29) hC dX12_seat_29 (by decide +kernel) ?_
        refine x_ireturn hC hZ dX12_seat_31 (by decide) (by decide) ?_
        exact ⟨congrArg (fun z => some (Value.int (iI z))) (by rw [seatA, if_neg (by omega), if_pos (by omega)]), Ask.rf σ, rfl, rfl⟩
    · refine x_iconst (pc := 17) hC dX12_seat_17 ?_
      refine x_ireturn hC hZ dX12_seat_18 (by decide) (by decide) ?_
      exact ⟨congrArg (fun z => some (Value.int (iI z))) (by rw [seatA, if_pos (by omega)]), Ask.rf σ, rfl, rfl⟩
