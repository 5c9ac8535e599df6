set_option maxHeartbeats 4000000 in
set_option maxRecDepth 100000 in
theorem s_metBy (E : xE) {σ : xM} {ρ : xR} {ks : xKs} (hk : MK ks) (hw : MW ρ) {q : Int} (hfan : FansOk (σ 47)) (hsit : SitOk (σ 47)) (ht : 0 ≤ σ 47 0 ∧ σ 47 0 < 1000000) (hq : 0 ≤ q ∧ q < 6) : Sp E yX12_metBy kX12_metBy 4 0 0 [.ref 46, .int (iI q)] σ ρ ks (Fn (some (.int (iI (metByF (σ 47) q (σ 47 0) (σ 47 13).toNat)))) (σ) ρ ks) := by
  obtain ⟨k46, k47, k48, k49, k50, k51, k52, k53, k54⟩ := id hk
  obtain ⟨w1, w2, w3, w10, w11, w14, w15, w16⟩ := id hw
  have hf13 := hfan.1
  have hs14 := hsit.1
  have hq6 := (hsit.2 q hq.1 hq.2).1
  refine x_enter (own := RX12) (L := [_, _, _, _]) (by decide +kernel) rfl (by exact Nat.le_of_ble_eq_true rfl) rfl (fun p e R s m args below meth c Z hZ hC hR hin => ?_)
  have loop : ∀ (n k : Nat) (j a : Int), j = k → a = chain (fun f => if σ 47 (42 + f) = 1 ∧ bAnd (bShr (reachF (σ 47) f (σ 47 0)) (σ 47 (62 + q))) 1 = 1 then bShl 1 f else 0) k → (k : Int) + n = σ 47 13 → X E p e R s m args below meth c Z 0 0 σ ρ ks 4 [some (.ref 46), some (.int (iI q)), some (.int (iI a)), some (.int (iI j))] [] := by
    intro n
    induction n with
    | zero =>
      intro k j a hj ha hn
      refine x_iload_n (pc := 4) hC dX12_metBy_4 rfl ?_
      refine x_aload_n (pc := 5) hC dX12_metBy_5 rfl ?_
      refine x_getr (K := 1) (pc := 6) hC fX12_9_12 (by assumption) dX12_metBy_6 rfl rfl (by assumption) ?_
      refine x_bipush (pc := 9) hC dX12_metBy_9 (by decide +kernel) ?_
      refine x_iald (pc := 11) hC (by assumption) (by first | omega | exact rg_of _) dX12_metBy_11 ?_
      refine x_icmp_ge (tgt := 71) (pc := 12) hC (by first | omega | exact rg_of _) (by first | omega | exact rg_of _) dX12_metBy_12 (by decide) (fun c12 => ?_) (fun c12 => by (exfalso; omega))
      refine x_iload_n (pc := 71) hC dX12_metBy_71 rfl ?_
      refine x_ireturn hC hZ dX12_metBy_72 (by decide) (by decide) ?_
      refine ⟨congrArg (fun z => some (Value.int (iI z))) ?_, rfl, rfl, rfl⟩
      rw [ha]; unfold metByF; congr 1; omega
    | succ n ih =>
      intro k j a hj ha hn
      refine x_iload_n (pc := 4) hC dX12_metBy_4 rfl ?_
      refine x_aload_n (pc := 5) hC dX12_metBy_5 rfl ?_
      refine x_getr (K := 1) (pc := 6) hC fX12_9_12 (by assumption) dX12_metBy_6 rfl rfl (by assumption) ?_
      refine x_bipush (pc := 9) hC dX12_metBy_9 (by decide +kernel) ?_
      refine x_iald (pc := 11) hC (by assumption) (by first | omega | exact rg_of _) dX12_metBy_11 ?_
      refine x_icmp_ge (tgt := 71) (pc := 12) hC (by first | omega | exact rg_of _) (by first | omega | exact rg_of _) dX12_metBy_12 (by decide) (fun c12 => by (exfalso; omega)) (fun c12 => ?_)
      have hfj := hfan.2 j (by omega) (by omega)
      obtain ⟨-, -, -, -, g5, -⟩ := id hfj
      refine x_iload_n (pc := 15) hC dX12_metBy_15 rfl ?_
      refine x_aload_n (pc := 16) hC dX12_metBy_16 rfl ?_
      refine x_getr (K := 1) (pc := 17) hC fX12_9_12 (by assumption) dX12_metBy_17 rfl rfl (by assumption) ?_
      refine x_bipush (pc := 20) hC dX12_metBy_20 (by decide +kernel) ?_
      refine x_iload_n (pc := 22) hC dX12_metBy_22 rfl ?_
      refine x_iadd (pc := 23) hC dX12_metBy_23 ?_
      refine x_iald (pc := 24) hC (by assumption) (by first | omega | exact rg_of _) dX12_metBy_24 ?_
      refine x_iconst (pc := 25) hC dX12_metBy_25 ?_
      refine x_icmp_ne (tgt := 62) (pc := 26) hC (by first | omega | exact rg_of _) (by first | omega | exact rg_of _) dX12_metBy_26 (by decide) (fun c26 => ?_) (fun c26 => ?_)
      · refine x_iconst (pc := 62) hC dX12_metBy_62 ?_
        refine x_ior (pc := 63) hC dX12_metBy_63 ?_
        refine x_istore_n (L' := [_, _, _, _]) (pc := 64) hC dX12_metBy_64 rfl rfl ?_
        refine x_iinc (L' := [_, _, _, _]) (pc := 65) hC dX12_metBy_65 rfl rfl rfl ?_
        refine x_goto (tgt := 4) (pc := 68) hC dX12_metBy_68 (by decide) ?_
        refine ih (k + 1) (j + 1) _ (by omega) ?_ (by omega)
        subst hj
        subst ha
        first
          | (rw [chain_s, if_pos (And.intro c26 c53)])
          | (rw [chain_s, if_neg (fun h => c26 h.1)])
          | (rw [chain_s, if_neg (fun h => c53 h.2)])
      · refine x_aload_n (pc := 29) hC dX12_metBy_29 rfl ?_
        refine x_iload_n (pc := 30) hC dX12_metBy_30 rfl ?_
        refine x_aload_n (pc := 31) hC dX12_metBy_31 rfl ?_
        refine x_getr (K := 1) (pc := 32) hC fX12_9_12 (by assumption) dX12_metBy_32 rfl rfl (by assumption) ?_
        refine x_iconst (pc := 35) hC dX12_metBy_35 ?_
        refine x_iald (pc := 36) hC (by assumption) (by first | omega | exact rg_of _) dX12_metBy_36 ?_
        refine x_callV1 (As := [_, _]) (Bs := [_, _]) (pc := 37) hC (s_reaches E hk hw (by assumption) (by assumption) (by omega) (by omega)) wX12_154_12 pX12_reaches (by assumption) rfl rfl (by exact Nat.le_of_ble_eq_true rfl) hR (by decide) (by decide) (by decide) rfl dX12_metBy_37 ?_
        refine x_aload_n (pc := 40) hC dX12_metBy_40 rfl ?_
        refine x_getr (K := 1) (pc := 41) hC fX12_9_12 (by assumption) dX12_metBy_41 rfl rfl (by assumption) ?_
        refine x_bipush (pc := 44) hC dX12_metBy_44 (by decide +kernel) ?_
        refine x_iload_n (pc := 46) hC dX12_metBy_46 rfl ?_
        refine x_iadd (pc := 47) hC dX12_metBy_47 ?_
        refine x_iald (pc := 48) hC (by assumption) (by first | omega | exact rg_of _) dX12_metBy_48 ?_
        refine x_ishr (pc := 49) hC dX12_metBy_49 ?_
        refine x_iconst (pc := 50) hC dX12_metBy_50 ?_
        refine x_iand (pc := 51) hC dX12_metBy_51 ?_
        refine x_iconst (pc := 52) hC dX12_metBy_52 ?_
        refine x_icmp_ne (tgt := 62) (pc := 53) hC (by first | omega | exact rg_of _) (by first | omega | exact rg_of _) dX12_metBy_53 (by decide) (fun c53 => ?_) (fun c53 => ?_)
        · refine x_iconst (pc := 62) hC dX12_metBy_62 ?_
          refine x_ior (pc := 63) hC dX12_metBy_63 ?_
          refine x_istore_n (L' := [_, _, _, _]) (pc := 64) hC dX12_metBy_64 rfl rfl ?_
          refine x_iinc (L' := [_, _, _, _]) (pc := 65) hC dX12_metBy_65 rfl rfl rfl ?_
          refine x_goto (tgt := 4) (pc := 68) hC dX12_metBy_68 (by decide) ?_
          refine ih (k + 1) (j + 1) _ (by omega) ?_ (by omega)
          subst hj
          subst ha
          first
            | (rw [chain_s, if_pos (And.intro c26 c53)])
            | (rw [chain_s, if_neg (fun h => c26 h.1)])
            | (rw [chain_s, if_neg (fun h => c53 h.2)])
        · refine x_iconst (pc := 56) hC dX12_metBy_56 ?_
          refine x_iload_n (pc := 57) hC dX12_metBy_57 rfl ?_
          refine x_ishl (pc := 58) hC dX12_metBy_58 ?_
          refine x_goto (tgt := 63) (pc := 59) hC dX12_metBy_59 (by decide) ?_
          refine x_ior (pc := 63) hC dX12_metBy_63 ?_
          refine x_istore_n (L' := [_, _, _, _]) (pc := 64) hC dX12_metBy_64 rfl rfl ?_
          refine x_iinc (L' := [_, _, _, _]) (pc := 65) hC dX12_metBy_65 rfl rfl rfl ?_
          refine x_goto (tgt := 4) (pc := 68) hC dX12_metBy_68 (by decide) ?_
          refine ih (k + 1) (j + 1) _ (by omega) ?_ (by omega)
          subst hj
          subst ha
          first
            | (rw [chain_s, if_pos (And.intro c26 c53)])
            | (rw [chain_s, if_neg (fun h => c26 h.1)])
            | (rw [chain_s, if_neg (fun h => c53 h.2)])
  refine x_iconst (pc := 0) hC dX12_metBy_0 ?_
  refine x_istore_n (L' := [_, _, _, _]) (pc := 1) hC dX12_metBy_1 rfl rfl ?_
  refine x_iconst (pc := 2) hC dX12_metBy_2 ?_
  refine x_istore_n (L' := [_, _, _, _]) (pc := 3) hC dX12_metBy_3 rfl rfl ?_
  exact loop (σ 47 13).toNat 0 0 0 rfl rfl (by omega)

set_option maxHeartbeats 4000000 in
set_option maxRecDepth 100000 in
theorem s_onMany (E : xE) {σ : xM} {ρ : xR} {ks : xKs} (hk : MK ks) (hw : MW ρ) (hfan : FansOk (σ 47)) : Sp E yX12_onMany kX12_onMany 1 0 0 [.ref 46] σ ρ ks (Fn (some (.int (iI (onManyF (σ 47) (σ 47 13).toNat)))) (σ) ρ ks) := by
  obtain ⟨k46, k47, k48, k49, k50, k51, k52, k53, k54⟩ := id hk
  obtain ⟨w1, w2, w3, w10, w11, w14, w15, w16⟩ := id hw
  have hf13 := hfan.1
  refine x_enter (own := RX12) (L := [_, _, _]) (by decide +kernel) rfl (by exact Nat.le_of_ble_eq_true rfl) rfl (fun p e R s m args below meth c Z hZ hC hR hin => ?_)
  have loop : ∀ (n k : Nat) (j a : Int), j = k → a = sumTo (fun f => σ 47 (42 + f)) k → (k : Int) + n = σ 47 13 → X E p e R s m args below meth c Z 0 0 σ ρ ks 4 [some (.ref 46), some (.int (iI a)), some (.int (iI j))] [] := by
    intro n
    induction n with
    | zero =>
      intro k j a hj ha hn
      refine x_iload_n (pc := 4) hC dX12_onMany_4 rfl ?_
      refine x_aload_n (pc := 5) hC dX12_onMany_5 rfl ?_
      refine x_getr (K := 1) (pc := 6) hC fX12_9_12 (by assumption) dX12_onMany_6 rfl rfl (by assumption) ?_
      refine x_bipush (pc := 9) hC dX12_onMany_9 (by decide +kernel) ?_
      refine x_iald (pc := 11) hC (by assumption) (by first | omega | exact rg_of _) dX12_onMany_11 ?_
      refine x_icmp_ge (tgt := 33) (pc := 12) hC (by first | omega | exact rg_of _) (by first | omega | exact rg_of _) dX12_onMany_12 (by decide) (fun c12 => ?_) (fun c12 => by (exfalso; omega))
      refine x_iload_n (pc := 33) hC dX12_onMany_33 rfl ?_
      refine x_ireturn hC hZ dX12_onMany_34 (by decide) (by decide) ?_
      refine ⟨congrArg (fun z => some (Value.int (iI z))) ?_, rfl, rfl, rfl⟩
      rw [ha]; unfold onManyF; congr 1; omega
    | succ n ih =>
      intro k j a hj ha hn
      refine x_iload_n (pc := 4) hC dX12_onMany_4 rfl ?_
      refine x_aload_n (pc := 5) hC dX12_onMany_5 rfl ?_
      refine x_getr (K := 1) (pc := 6) hC fX12_9_12 (by assumption) dX12_onMany_6 rfl rfl (by assumption) ?_
      refine x_bipush (pc := 9) hC dX12_onMany_9 (by decide +kernel) ?_
      refine x_iald (pc := 11) hC (by assumption) (by first | omega | exact rg_of _) dX12_onMany_11 ?_
      refine x_icmp_ge (tgt := 33) (pc := 12) hC (by first | omega | exact rg_of _) (by first | omega | exact rg_of _) dX12_onMany_12 (by decide) (fun c12 => by (exfalso; omega)) (fun c12 => ?_)
      refine x_iload_n (pc := 15) hC dX12_onMany_15 rfl ?_
      refine x_aload_n (pc := 16) hC dX12_onMany_16 rfl ?_
      refine x_getr (K := 1) (pc := 17) hC fX12_9_12 (by assumption) dX12_onMany_17 rfl rfl (by assumption) ?_
      refine x_bipush (pc := 20) hC dX12_onMany_20 (by decide +kernel) ?_
      refine x_iload_n (pc := 22) hC dX12_onMany_22 rfl ?_
      refine x_iadd (pc := 23) hC dX12_onMany_23 ?_
      refine x_iald (pc := 24) hC (by assumption) (by first | omega | exact rg_of _) dX12_onMany_24 ?_
      refine x_iadd (pc := 25) hC dX12_onMany_25 ?_
      refine x_istore_n (L' := [_, _, _]) (pc := 26) hC dX12_onMany_26 rfl rfl ?_
      refine x_iinc (L' := [_, _, _]) (pc := 27) hC dX12_onMany_27 rfl rfl rfl ?_
      refine x_goto (tgt := 4) (pc := 30) hC dX12_onMany_30 (by decide) ?_
      refine ih (k + 1) (j + 1) _ (by omega) ?_ (by omega)
      subst hj
      subst ha
      first
        | (rw [sumTo_s])
  refine x_iconst (pc := 0) hC dX12_onMany_0 ?_
  refine x_istore_n (L' := [_, _, _]) (pc := 1) hC dX12_onMany_1 rfl rfl ?_
  refine x_iconst (pc := 2) hC dX12_onMany_2 ?_
  refine x_istore_n (L' := [_, _, _]) (pc := 3) hC dX12_onMany_3 rfl rfl ?_
  exact loop (σ 47 13).toNat 0 0 0 rfl rfl (by omega)

set_option maxHeartbeats 4000000 in
set_option maxRecDepth 100000 in
theorem s_reachedNow (E : xE) {σ : xM} {ρ : xR} {ks : xKs} (hk : MK ks) (hw : MW ρ) (hfan : FansOk (σ 47)) (hsit : SitOk (σ 47)) (ht : 0 ≤ σ 47 0 ∧ σ 47 0 < 1000000) : Sp E yX12_reachedNow kX12_reachedNow 4 0 0 [.ref 46] σ ρ ks (Fn (some (.int (iI (reachedF (σ 47) (σ 47 0) (σ 47 13).toNat)))) (σ) ρ ks) := by
  obtain ⟨k46, k47, k48, k49, k50, k51, k52, k53, k54⟩ := id hk
  obtain ⟨w1, w2, w3, w10, w11, w14, w15, w16⟩ := id hw
  have hf13 := hfan.1
  have hs14 := hsit.1
  refine x_enter (own := RX12) (L := [_, _, _]) (by decide +kernel) rfl (by exact Nat.le_of_ble_eq_true rfl) rfl (fun p e R s m args below meth c Z hZ hC hR hin => ?_)
  have loop : ∀ (n k : Nat) (j a : Int), j = k → a = chain (fun f => if σ 47 (42 + f) = 1 then reachF (σ 47) f (σ 47 0) else 0) k → (k : Int) + n = σ 47 13 → X E p e R s m args below meth c Z 0 0 σ ρ ks 4 [some (.ref 46), some (.int (iI a)), some (.int (iI j))] [] := by
    intro n
    induction n with
    | zero =>
      intro k j a hj ha hn
      refine x_iload_n (pc := 4) hC dX12_reachedNow_4 rfl ?_
      refine x_aload_n (pc := 5) hC dX12_reachedNow_5 rfl ?_
      refine x_getr (K := 1) (pc := 6) hC fX12_9_12 (by assumption) dX12_reachedNow_6 rfl rfl (by assumption) ?_
      refine x_bipush (pc := 9) hC dX12_reachedNow_9 (by decide +kernel) ?_
      refine x_iald (pc := 11) hC (by assumption) (by first | omega | exact rg_of _) dX12_reachedNow_11 ?_
      refine x_icmp_ge (tgt := 52) (pc := 12) hC (by first | omega | exact rg_of _) (by first | omega | exact rg_of _) dX12_reachedNow_12 (by decide) (fun c12 => ?_) (fun c12 => by (exfalso; omega))
      refine x_iload_n (pc := 52) hC dX12_reachedNow_52 rfl ?_
      refine x_ireturn hC hZ dX12_reachedNow_53 (by decide) (by decide) ?_
      refine ⟨congrArg (fun z => some (Value.int (iI z))) ?_, rfl, rfl, rfl⟩
      rw [ha]; unfold reachedF; congr 1; omega
    | succ n ih =>
      intro k j a hj ha hn
      refine x_iload_n (pc := 4) hC dX12_reachedNow_4 rfl ?_
      refine x_aload_n (pc := 5) hC dX12_reachedNow_5 rfl ?_
      refine x_getr (K := 1) (pc := 6) hC fX12_9_12 (by assumption) dX12_reachedNow_6 rfl rfl (by assumption) ?_
      refine x_bipush (pc := 9) hC dX12_reachedNow_9 (by decide +kernel) ?_
      refine x_iald (pc := 11) hC (by assumption) (by first | omega | exact rg_of _) dX12_reachedNow_11 ?_
      refine x_icmp_ge (tgt := 52) (pc := 12) hC (by first | omega | exact rg_of _) (by first | omega | exact rg_of _) dX12_reachedNow_12 (by decide) (fun c12 => by (exfalso; omega)) (fun c12 => ?_)
      have hfj := hfan.2 j (by omega) (by omega)
      obtain ⟨-, -, -, -, g5, -⟩ := id hfj
      refine x_iload_n (pc := 15) hC dX12_reachedNow_15 rfl ?_
      refine x_aload_n (pc := 16) hC dX12_reachedNow_16 rfl ?_
      refine x_getr (K := 1) (pc := 17) hC fX12_9_12 (by assumption) dX12_reachedNow_17 rfl rfl (by assumption) ?_
      refine x_bipush (pc := 20) hC dX12_reachedNow_20 (by decide +kernel) ?_
      refine x_iload_n (pc := 22) hC dX12_reachedNow_22 rfl ?_
      refine x_iadd (pc := 23) hC dX12_reachedNow_23 ?_
      refine x_iald (pc := 24) hC (by assumption) (by first | omega | exact rg_of _) dX12_reachedNow_24 ?_
      refine x_iconst (pc := 25) hC dX12_reachedNow_25 ?_
      refine x_icmp_ne (tgt := 43) (pc := 26) hC (by first | omega | exact rg_of _) (by first | omega | exact rg_of _) dX12_reachedNow_26 (by decide) (fun c26 => ?_) (fun c26 => ?_)
      · refine x_iconst (pc := 43) hC dX12_reachedNow_43 ?_
        refine x_ior (pc := 44) hC dX12_reachedNow_44 ?_
        refine x_istore_n (L' := [_, _, _]) (pc := 45) hC dX12_reachedNow_45 rfl rfl ?_
        refine x_iinc (L' := [_, _, _]) (pc := 46) hC dX12_reachedNow_46 rfl rfl rfl ?_
        refine x_goto (tgt := 4) (pc := 49) hC dX12_reachedNow_49 (by decide) ?_
        refine ih (k + 1) (j + 1) _ (by omega) ?_ (by omega)
        subst hj
        subst ha
        first
          | (rw [chain_s, if_pos c26])
          | (rw [chain_s, if_neg c26])
      · refine x_aload_n (pc := 29) hC dX12_reachedNow_29 rfl ?_
        refine x_iload_n (pc := 30) hC dX12_reachedNow_30 rfl ?_
        refine x_aload_n (pc := 31) hC dX12_reachedNow_31 rfl ?_
        refine x_getr (K := 1) (pc := 32) hC fX12_9_12 (by assumption) dX12_reachedNow_32 rfl rfl (by assumption) ?_
        refine x_iconst (pc := 35) hC dX12_reachedNow_35 ?_
        refine x_iald (pc := 36) hC (by assumption) (by first | omega | exact rg_of _) dX12_reachedNow_36 ?_
        refine x_callV1 (As := [_, _]) (Bs := [_, _]) (pc := 37) hC (s_reaches E hk hw (by assumption) (by assumption) (by omega) (by omega)) wX12_154_12 pX12_reaches (by assumption) rfl rfl (by exact Nat.le_of_ble_eq_true rfl) hR (by decide) (by decide) (by decide) rfl dX12_reachedNow_37 ?_
        refine x_goto (tgt := 44) (pc := 40) hC dX12_reachedNow_40 (by decide) ?_
        refine x_ior (pc := 44) hC dX12_reachedNow_44 ?_
        refine x_istore_n (L' := [_, _, _]) (pc := 45) hC dX12_reachedNow_45 rfl rfl ?_
        refine x_iinc (L' := [_, _, _]) (pc := 46) hC dX12_reachedNow_46 rfl rfl rfl ?_
        refine x_goto (tgt := 4) (pc := 49) hC dX12_reachedNow_49 (by decide) ?_
        refine ih (k + 1) (j + 1) _ (by omega) ?_ (by omega)
        subst hj
        subst ha
        first
          | (rw [chain_s, if_pos c26])
          | (rw [chain_s, if_neg c26])
  refine x_iconst (pc := 0) hC dX12_reachedNow_0 ?_
  refine x_istore_n (L' := [_, _, _]) (pc := 1) hC dX12_reachedNow_1 rfl rfl ?_
  refine x_iconst (pc := 2) hC dX12_reachedNow_2 ?_
  refine x_istore_n (L' := [_, _, _]) (pc := 3) hC dX12_reachedNow_3 rfl rfl ?_
  exact loop (σ 47 13).toNat 0 0 0 rfl rfl (by omega)

set_option maxHeartbeats 4000000 in
set_option maxRecDepth 100000 in
theorem s_allHeat (E : xE) {σ : xM} {ρ : xR} {ks : xKs} (hk : MK ks) (hw : MW ρ) (hsit : SitOk (σ 47)) : Sp E yX12_allHeat kX12_allHeat 1 0 0 [.ref 46] σ ρ ks (Fn (some (.int (iI (allF (σ 47) (σ 47 14).toNat)))) (σ) ρ ks) := by
  obtain ⟨k46, k47, k48, k49, k50, k51, k52, k53, k54⟩ := id hk
  obtain ⟨w1, w2, w3, w10, w11, w14, w15, w16⟩ := id hw
  have hs14 := hsit.1
  refine x_enter (own := RX12) (L := [_, _, _]) (by decide +kernel) rfl (by exact Nat.le_of_ble_eq_true rfl) rfl (fun p e R s m args below meth c Z hZ hC hR hin => ?_)
  have loop : ∀ (n k : Nat) (j a : Int), j = k → a = sumTo (fun p => σ 47 (1 + p)) k → (k : Int) + n = σ 47 14 → X E p e R s m args below meth c Z 0 0 σ ρ ks 4 [some (.ref 46), some (.int (iI a)), some (.int (iI j))] [] := by
    intro n
    induction n with
    | zero =>
      intro k j a hj ha hn
      refine x_iload_n (pc := 4) hC dX12_allHeat_4 rfl ?_
      refine x_aload_n (pc := 5) hC dX12_allHeat_5 rfl ?_
      refine x_getr (K := 1) (pc := 6) hC fX12_9_12 (by assumption) dX12_allHeat_6 rfl rfl (by assumption) ?_
      refine x_bipush (pc := 9) hC dX12_allHeat_9 (by decide +kernel) ?_
      refine x_iald (pc := 11) hC (by assumption) (by first | omega | exact rg_of _) dX12_allHeat_11 ?_
      refine x_icmp_ge (tgt := 32) (pc := 12) hC (by first | omega | exact rg_of _) (by first | omega | exact rg_of _) dX12_allHeat_12 (by decide) (fun c12 => ?_) (fun c12 => by (exfalso; omega))
      refine x_iload_n (pc := 32) hC dX12_allHeat_32 rfl ?_
      refine x_ireturn hC hZ dX12_allHeat_33 (by decide) (by decide) ?_
      refine ⟨congrArg (fun z => some (Value.int (iI z))) ?_, rfl, rfl, rfl⟩
      rw [ha]; unfold allF; congr 1; omega
    | succ n ih =>
      intro k j a hj ha hn
      refine x_iload_n (pc := 4) hC dX12_allHeat_4 rfl ?_
      refine x_aload_n (pc := 5) hC dX12_allHeat_5 rfl ?_
      refine x_getr (K := 1) (pc := 6) hC fX12_9_12 (by assumption) dX12_allHeat_6 rfl rfl (by assumption) ?_
      refine x_bipush (pc := 9) hC dX12_allHeat_9 (by decide +kernel) ?_
      refine x_iald (pc := 11) hC (by assumption) (by first | omega | exact rg_of _) dX12_allHeat_11 ?_
      refine x_icmp_ge (tgt := 32) (pc := 12) hC (by first | omega | exact rg_of _) (by first | omega | exact rg_of _) dX12_allHeat_12 (by decide) (fun c12 => by (exfalso; omega)) (fun c12 => ?_)
      refine x_iload_n (pc := 15) hC dX12_allHeat_15 rfl ?_
      refine x_aload_n (pc := 16) hC dX12_allHeat_16 rfl ?_
      refine x_getr (K := 1) (pc := 17) hC fX12_9_12 (by assumption) dX12_allHeat_17 rfl rfl (by assumption) ?_
      refine x_iconst (pc := 20) hC dX12_allHeat_20 ?_
      refine x_iload_n (pc := 21) hC dX12_allHeat_21 rfl ?_
      refine x_iadd (pc := 22) hC dX12_allHeat_22 ?_
      refine x_iald (pc := 23) hC (by assumption) (by first | omega | exact rg_of _) dX12_allHeat_23 ?_
      refine x_iadd (pc := 24) hC dX12_allHeat_24 ?_
      refine x_istore_n (L' := [_, _, _]) (pc := 25) hC dX12_allHeat_25 rfl rfl ?_
      refine x_iinc (L' := [_, _, _]) (pc := 26) hC dX12_allHeat_26 rfl rfl rfl ?_
      refine x_goto (tgt := 4) (pc := 29) hC dX12_allHeat_29 (by decide) ?_
      refine ih (k + 1) (j + 1) _ (by omega) ?_ (by omega)
      subst hj
      subst ha
      first
        | (rw [sumTo_s])
  refine x_iconst (pc := 0) hC dX12_allHeat_0 ?_
  refine x_istore_n (L' := [_, _, _]) (pc := 1) hC dX12_allHeat_1 rfl rfl ?_
  refine x_iconst (pc := 2) hC dX12_allHeat_2 ?_
  refine x_istore_n (L' := [_, _, _]) (pc := 3) hC dX12_allHeat_3 rfl rfl ?_
  exact loop (σ 47 14).toNat 0 0 0 rfl rfl (by omega)

set_option maxHeartbeats 4000000 in
set_option maxRecDepth 100000 in
theorem s_greatest (E : xE) {σ : xM} {ρ : xR} {ks : xKs} (hk : MK ks) (hw : MW ρ) (hsit : SitOk (σ 47)) : Sp E yX12_greatest kX12_greatest 1 0 0 [.ref 46] σ ρ ks (Fn (some (.int (iI (greatF (σ 47) (σ 47 14).toNat)))) (σ) ρ ks) := by
  obtain ⟨k46, k47, k48, k49, k50, k51, k52, k53, k54⟩ := id hk
  obtain ⟨w1, w2, w3, w10, w11, w14, w15, w16⟩ := id hw
  have hs14 := hsit.1
  refine x_enter (own := RX12) (L := [_, _, _]) (by decide +kernel) rfl (by exact Nat.le_of_ble_eq_true rfl) rfl (fun p e R s m args below meth c Z hZ hC hR hin => ?_)
  have loop : ∀ (n k : Nat) (j a : Int), j = k → a = greatF (σ 47) k → (k : Int) + n = σ 47 14 → X E p e R s m args below meth c Z 0 0 σ ρ ks 4 [some (.ref 46), some (.int (iI a)), some (.int (iI j))] [] := by
    intro n
    induction n with
    | zero =>
      intro k j a hj ha hn
      refine x_iload_n (pc := 4) hC dX12_greatest_4 rfl ?_
      refine x_aload_n (pc := 5) hC dX12_greatest_5 rfl ?_
      refine x_getr (K := 1) (pc := 6) hC fX12_9_12 (by assumption) dX12_greatest_6 rfl rfl (by assumption) ?_
      refine x_bipush (pc := 9) hC dX12_greatest_9 (by decide +kernel) ?_
      refine x_iald (pc := 11) hC (by assumption) (by first | omega | exact rg_of _) dX12_greatest_11 ?_
      refine x_icmp_ge (tgt := 46) (pc := 12) hC (by first | omega | exact rg_of _) (by first | omega | exact rg_of _) dX12_greatest_12 (by decide) (fun c12 => ?_) (fun c12 => by (exfalso; omega))
      refine x_iload_n (pc := 46) hC dX12_greatest_46 rfl ?_
      refine x_ireturn hC hZ dX12_greatest_47 (by decide) (by decide) ?_
      refine ⟨congrArg (fun z => some (Value.int (iI z))) ?_, rfl, rfl, rfl⟩
      rw [ha]; congr 1; omega
    | succ n ih =>
      intro k j a hj ha hn
      refine x_iload_n (pc := 4) hC dX12_greatest_4 rfl ?_
      refine x_aload_n (pc := 5) hC dX12_greatest_5 rfl ?_
      refine x_getr (K := 1) (pc := 6) hC fX12_9_12 (by assumption) dX12_greatest_6 rfl rfl (by assumption) ?_
      refine x_bipush (pc := 9) hC dX12_greatest_9 (by decide +kernel) ?_
      refine x_iald (pc := 11) hC (by assumption) (by first | omega | exact rg_of _) dX12_greatest_11 ?_
      refine x_icmp_ge (tgt := 46) (pc := 12) hC (by first | omega | exact rg_of _) (by first | omega | exact rg_of _) dX12_greatest_12 (by decide) (fun c12 => by (exfalso; omega)) (fun c12 => ?_)
      have hsk := (hsit.2 j (by omega) (by omega)).2.1
      have hgr := greatF_in (z := σ 47) (N := 6) (fun p hp => (hsit.2 p (by omega) (by omega)).2.1) k (by omega)
      rw [← ha] at hgr
      refine x_aload_n (pc := 15) hC dX12_greatest_15 rfl ?_
      refine x_getr (K := 1) (pc := 16) hC fX12_9_12 (by assumption) dX12_greatest_16 rfl rfl (by assumption) ?_
      refine x_iconst (pc := 19) hC dX12_greatest_19 ?_
      refine x_iload_n (pc := 20) hC dX12_greatest_20 rfl ?_
      refine x_iadd (pc := 21) hC dX12_greatest_21 ?_
      refine x_iald (pc := 22) hC (by assumption) (by first | omega | exact rg_of _) dX12_greatest_22 ?_
      refine x_iload_n (pc := 23) hC dX12_greatest_23 rfl ?_
      refine x_icmp_le (tgt := 38) (pc := 24) hC (by first | omega | exact rg_of _) (by first | omega | exact rg_of _) dX12_greatest_24 (by decide) (fun c24 => ?_) (fun c24 => ?_)
      · refine x_iload_n (pc := 38) hC dX12_greatest_38 rfl ?_
        refine x_istore_n (L' := [_, _, _]) (pc := 39) hC dX12_greatest_39 rfl rfl ?_
        refine x_iinc (L' := [_, _, _]) (pc := 40) hC dX12_greatest_40 rfl rfl rfl ?_
        refine x_goto (tgt := 4) (pc := 43) hC dX12_greatest_43 (by decide) ?_
        refine ih (k + 1) (j + 1) _ (by omega) ?_ (by omega)
        subst hj
        rw [ha] at c24
        show _ = mx2 _ _
        unfold mx2
        first
          | rw [if_pos (by omega)]
          | (rw [if_neg (by omega)]; exact ha)
      · refine x_aload_n (pc := 27) hC dX12_greatest_27 rfl ?_
        refine x_getr (K := 1) (pc := 28) hC fX12_9_12 (by assumption) dX12_greatest_28 rfl rfl (by assumption) ?_
        refine x_iconst (pc := 31) hC dX12_greatest_31 ?_
        refine x_iload_n (pc := 32) hC dX12_greatest_32 rfl ?_
        refine x_iadd (pc := 33) hC dX12_greatest_33 ?_
        refine x_iald (pc := 34) hC (by assumption) (by first | omega | exact rg_of _) dX12_greatest_34 ?_
        refine x_goto (tgt := 39) (pc := 35) hC dX12_greatest_35 (by decide) ?_
        refine x_istore_n (L' := [_, _, _]) (pc := 39) hC dX12_greatest_39 rfl rfl ?_
        refine x_iinc (L' := [_, _, _]) (pc := 40) hC dX12_greatest_40 rfl rfl rfl ?_
        refine x_goto (tgt := 4) (pc := 43) hC dX12_greatest_43 (by decide) ?_
        refine ih (k + 1) (j + 1) _ (by omega) ?_ (by omega)
        subst hj
        rw [ha] at c24
        show _ = mx2 _ _
        unfold mx2
        first
          | rw [if_pos (by omega)]
          | (rw [if_neg (by omega)]; exact ha)
  refine x_iconst (pc := 0) hC dX12_greatest_0 ?_
  refine x_istore_n (L' := [_, _, _]) (pc := 1) hC dX12_greatest_1 rfl rfl ?_
  refine x_iconst (pc := 2) hC dX12_greatest_2 ?_
  refine x_istore_n (L' := [_, _, _]) (pc := 3) hC dX12_greatest_3 rfl rfl ?_
  exact loop (σ 47 14).toNat 0 0 0 rfl rfl (by omega)
