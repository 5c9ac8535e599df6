/-! the hall: at place 1 -/
def HK (ks : xKs) (ρ : xR) : Prop := ks[1]? = some (0, 1) ∧ ks[2]? = some (3, 4) ∧ ρ 1 0 = some 2 ∧ ρ 1 2 = some 3 ∧ SK ks ρ 3 4
def FansAt (σ : xM) (ρ : xR) (ks : xKs) (z : zS) : Prop := σ 1 1 = z 13 ∧ ∀ f, 0 ≤ f → f < z 13 → ∃ q, ρ 2 f = some q ∧ FanAt σ ρ ks q f z
def maskF (z : zS) : Nat → Int
  | 0 => 0
  | n + 1 => if z (42 + n) ≠ 0 then bOr (maskF z n) (bShl 1 n) else maskF z n
def rchF (z : zS) (mask t : Int) : Nat → Int
  | 0 => 0
  | n + 1 => if bAnd (bShr mask n) 1 = 1 then bOr (rchF z mask t n) (reachF z n t) else rchF z mask t n
def mtrF (z : zS) (p t : Int) : Nat → Int
  | 0 => 0
  | n + 1 => if z (42 + n) ≠ 0 ∧ bAnd (bShr (reachF z n t) (z (62 + p))) 1 = 1 then bOr (mtrF z p t n) (bShl 1 n) else mtrF z p t n
set_option maxHeartbeats 4000000 in
set_option maxRecDepth 100000 in
theorem c_onMask (E : xE) {σ : xM} {ρ : xR} {ks : xKs} (hk : HK ks ρ) {z : zS} (hfs : FansAt σ ρ ks z) (hfan : FansOk z)  : Sp E yX1_onMask kX1_onMask 0 0 0 [.ref 1] σ ρ ks (Fn (some (.int (iI (maskF z (z 13).toNat)))) (σ) ρ ks) := by
  obtain ⟨k1, k2, r0, r2, hs3⟩ := id hk
  obtain ⟨c1, cf⟩ := id hfs
  have hf13 := hfan.1
  refine x_enter (own := RX1) (L := [_, _, _, _]) (by decide +kernel) rfl (by exact Nat.le_of_ble_eq_true rfl) rfl (fun p e R s m args below meth c Z hZ hC hR hin => ?_)
  have loop : ∀ (i k : Nat) (j a : Int), j = k → a = maskF z k → (k : Int) + i = z 13 → X E p e R s m args below meth c Z 0 0 σ ρ ks 4 [some (.ref 1), some (.int (iI a)), some (.int (iI j)), none] [] := by
    intro i
    induction i with
    | zero =>
      intro k j a hj ha hi
      refine x_iload_n (pc := 4) hC dX1_onMask_4 rfl ?_
      refine x_aload_n (pc := 5) hC dX1_onMask_5 rfl ?_
      refine x_geti (K := 1) (pc := 6) hC fX1_17_1 (by assumption) dX1_onMask_6 rfl rfl ?_
      refine x_icmp_ge (tgt := 42) (pc := 9) hC (by omega) (by omega) dX1_onMask_9 (by decide) (fun c9 => ?_) (fun c9 => by (exfalso; omega))
      refine x_iload_n (pc := 42) hC dX1_onMask_42 rfl ?_
      refine x_ireturn hC hZ dX1_onMask_43 (by decide) (by decide) ?_
      refine ⟨congrArg (fun z => some (Value.int (iI z))) ?_, rfl, rfl, rfl⟩
      rw [ha, show (z 13).toNat = k by omega]
    | succ i ih =>
      intro k j a hj ha hi
      obtain ⟨q, hr, hfa⟩ := cf j (by omega) (by omega)
      obtain ⟨hq, hfz, htz⟩ := id hfa
      have hci := kci_fam (z (22 + j))
      obtain ⟨a0, a1, a2, a3, a4, a5, a6⟩ := id hfz
      have hfo := hfan.2 j (by omega) (by omega)
      obtain ⟨b1, b2, b3, b4, b5, b6⟩ := id hfo
      refine x_iload_n (pc := 4) hC dX1_onMask_4 rfl ?_
      refine x_aload_n (pc := 5) hC dX1_onMask_5 rfl ?_
      refine x_geti (K := 1) (pc := 6) hC fX1_17_1 (by assumption) dX1_onMask_6 rfl rfl ?_
      refine x_icmp_ge (tgt := 42) (pc := 9) hC (by omega) (by omega) dX1_onMask_9 (by decide) (fun c9 => by (exfalso; omega)) (fun c9 => ?_)
      refine x_aload_n (pc := 12) hC dX1_onMask_12 rfl ?_
      refine x_getr (K := 0) (pc := 13) hC fX1_11_1 (by assumption) dX1_onMask_13 rfl rfl (by assumption) ?_
      refine x_iload_n (pc := 16) hC dX1_onMask_16 rfl ?_
      refine x_aald (pc := 17) hC (by assumption) (by omega) dX1_onMask_17 hr ?_
      refine x_astore_n (L' := [_, _, _, _]) (pc := 18) hC dX1_onMask_18 rfl rfl ?_
      refine x_aload_n (pc := 19) hC dX1_onMask_19 rfl ?_
      refine x_ifnull_r (pc := 20) hC dX1_onMask_20 ?_
      refine x_aload_n (pc := 23) hC dX1_onMask_23 rfl ?_
      refine x_geti (K := 6) (pc := 24) hC (fFX1_108 _ hci) (by assumption) dX1_onMask_24 (tF_isOn _ hci) rfl ?_
      refine x_if_eq (tgt := 36) (pc := 27) hC (by omega) dX1_onMask_27 (by decide) (fun c27 => ?_) (fun c27 => ?_)
      · refine x_iinc (L' := [_, _, _, _]) (pc := 36) hC dX1_onMask_36 rfl rfl rfl ?_
        refine x_goto (tgt := 4) (pc := 39) hC dX1_onMask_39 (by decide) ?_
        refine X.drop (xLe_s (xLe_s (xLe_s (xLe_n xLe_0)))) (ih (k + 1) (j + 1) _ (by omega) ?_ (by omega))
        show _ = if _ then _ else _
        rw [← hj, ← ha, if_neg (by omega)]
      · refine x_iload_n (pc := 30) hC dX1_onMask_30 rfl ?_
        refine x_iconst (pc := 31) hC dX1_onMask_31 ?_
        refine x_iload_n (pc := 32) hC dX1_onMask_32 rfl ?_
        refine x_ishl (pc := 33) hC dX1_onMask_33 ?_
        refine x_ior (pc := 34) hC dX1_onMask_34 ?_
        refine x_istore_n (L' := [_, _, _, _]) (pc := 35) hC dX1_onMask_35 rfl rfl ?_
        refine x_iinc (L' := [_, _, _, _]) (pc := 36) hC dX1_onMask_36 rfl rfl rfl ?_
        refine x_goto (tgt := 4) (pc := 39) hC dX1_onMask_39 (by decide) ?_
        refine X.drop (xLe_s (xLe_s (xLe_s (xLe_n xLe_0)))) (ih (k + 1) (j + 1) _ (by omega) ?_ (by omega))
        show _ = if _ then _ else _
        rw [← hj, ← ha, if_pos (by omega)]
  refine x_iconst (pc := 0) hC dX1_onMask_0 ?_
  refine x_istore_n (L' := [_, _, _, _]) (pc := 1) hC dX1_onMask_1 rfl rfl ?_
  refine x_iconst (pc := 2) hC dX1_onMask_2 ?_
  refine x_istore_n (L' := [_, _, _, _]) (pc := 3) hC dX1_onMask_3 rfl rfl ?_
  exact loop (z 13).toNat 0 0 0 rfl rfl (by omega)

set_option maxHeartbeats 4000000 in
set_option maxRecDepth 100000 in
theorem c_reached (E : xE) {σ : xM} {ρ : xR} {ks : xKs} (hk : HK ks ρ) {z : zS} (hfs : FansAt σ ρ ks z) (hfan : FansOk z) {mask t : Int} (hm : rg mask) (ht : 0 ≤ t ∧ t < 1000000) {r b : Nat} (hsk : SK ks ρ r b) (hsz : SZ σ r b z) (hsit : SitOk z) : Sp E yX1_reached kX1_reached 3 0 0 [.ref 1, .int (iI mask), .int (iI t), .ref r] σ ρ ks (Fn (some (.int (iI (rchF z mask t (z 13).toNat)))) (σ) ρ ks) := by
  obtain ⟨k1, k2, r0, r2, hs3⟩ := id hk
  obtain ⟨c1, cf⟩ := id hfs
  have hf13 := hfan.1
  refine x_enter (own := RX1) (L := [_, _, _, _, _, _, _]) (by decide +kernel) rfl (by exact Nat.le_of_ble_eq_true rfl) rfl (fun p e R s m args below meth c Z hZ hC hR hin => ?_)
  have loop : ∀ (i k : Nat) (j a : Int), j = k → a = rchF z mask t k → (k : Int) + i = z 13 → X E p e R s m args below meth c Z 0 0 σ ρ ks 6 [some (.ref 1), some (.int (iI mask)), some (.int (iI t)), some (.ref r), some (.int (iI a)), some (.int (iI j)), none] [] := by
    intro i
    induction i with
    | zero =>
      intro k j a hj ha hi
      refine x_iload (pc := 6) hC dX1_reached_6 rfl ?_
      refine x_aload_n (pc := 8) hC dX1_reached_8 rfl ?_
      refine x_geti (K := 1) (pc := 9) hC fX1_17_1 (by assumption) dX1_reached_9 rfl rfl ?_
      refine x_icmp_ge (tgt := 57) (pc := 12) hC (by omega) (by omega) dX1_reached_12 (by decide) (fun c12 => ?_) (fun c12 => by (exfalso; omega))
      refine x_iload (pc := 57) hC dX1_reached_57 rfl ?_
      refine x_ireturn hC hZ dX1_reached_59 (by decide) (by decide) ?_
      refine ⟨congrArg (fun z => some (Value.int (iI z))) ?_, rfl, rfl, rfl⟩
      rw [ha, show (z 13).toNat = k by omega]
    | succ i ih =>
      intro k j a hj ha hi
      obtain ⟨q, hr, hfa⟩ := cf j (by omega) (by omega)
      obtain ⟨hq, hfz, htz⟩ := id hfa
      have hci := kci_fam (z (22 + j))
      obtain ⟨a0, a1, a2, a3, a4, a5, a6⟩ := id hfz
      have hfo := hfan.2 j (by omega) (by omega)
      obtain ⟨b1, b2, b3, b4, b5, b6⟩ := id hfo
      refine x_iload (pc := 6) hC dX1_reached_6 rfl ?_
      refine x_aload_n (pc := 8) hC dX1_reached_8 rfl ?_
      refine x_geti (K := 1) (pc := 9) hC fX1_17_1 (by assumption) dX1_reached_9 rfl rfl ?_
      refine x_icmp_ge (tgt := 57) (pc := 12) hC (by first | omega | exact rg_of _) (by first | omega | exact rg_of _) dX1_reached_12 (by decide) (fun c12 => by (exfalso; omega)) (fun c12 => ?_)
      refine x_aload_n (pc := 15) hC dX1_reached_15 rfl ?_
      refine x_getr (K := 0) (pc := 16) hC fX1_11_1 (by assumption) dX1_reached_16 rfl rfl (by assumption) ?_
      refine x_iload (pc := 19) hC dX1_reached_19 rfl ?_
      refine x_aald (pc := 21) hC (by assumption) (by first | omega | exact rg_of _) dX1_reached_21 hr ?_
      refine x_astore (L' := [_, _, _, _, _, _, _]) (pc := 22) hC dX1_reached_22 rfl rfl ?_
      refine x_aload (pc := 24) hC dX1_reached_24 rfl ?_
      refine x_ifnull_r (pc := 26) hC dX1_reached_26 ?_
      refine x_iload_n (pc := 29) hC dX1_reached_29 rfl ?_
      refine x_iload (pc := 30) hC dX1_reached_30 rfl ?_
      refine x_ishr (pc := 32) hC dX1_reached_32 ?_
      refine x_iconst (pc := 33) hC dX1_reached_33 ?_
      refine x_iand (pc := 34) hC dX1_reached_34 ?_
      refine x_iconst (pc := 35) hC dX1_reached_35 ?_
      refine x_icmp_ne (tgt := 51) (pc := 36) hC (by first | omega | exact rg_of _) (by first | omega | exact rg_of _) dX1_reached_36 (by decide) (fun c36 => ?_) (fun c36 => ?_)
      · refine x_iinc (L' := [_, _, _, _, _, _, _]) (pc := 51) hC dX1_reached_51 rfl rfl rfl ?_
        refine x_goto (tgt := 6) (pc := 54) hC dX1_reached_54 (by decide) ?_
        refine X.drop (xLe_s (xLe_s (xLe_s (xLe_s (xLe_s (xLe_s (xLe_n xLe_0))))))) (ih (k + 1) (j + 1) _ (by omega) ?_ (by omega))
        show _ = if _ then _ else _
        rw [← hj, ← ha, if_neg c36]
      · refine x_iload (pc := 39) hC dX1_reached_39 rfl ?_
        refine x_aload (pc := 41) hC dX1_reached_41 rfl ?_
        refine x_iload_n (pc := 43) hC dX1_reached_43 rfl ?_
        refine x_aload_n (pc := 44) hC dX1_reached_44 rfl ?_
        refine x_fanX1_112 (pc := 45) hC hfa hfo (by omega) hsk hsz hsit ht hR (by decide) (by exact Nat.le_of_ble_eq_true rfl) (by decide) rfl dX1_reached_45 ?_
        refine x_ior (pc := 48) hC dX1_reached_48 ?_
        refine x_istore (L' := [_, _, _, _, _, _, _]) (pc := 49) hC dX1_reached_49 rfl rfl ?_
        refine x_iinc (L' := [_, _, _, _, _, _, _]) (pc := 51) hC dX1_reached_51 rfl rfl rfl ?_
        refine x_goto (tgt := 6) (pc := 54) hC dX1_reached_54 (by decide) ?_
        refine X.drop (xLe_s (xLe_s (xLe_s (xLe_s (xLe_s (xLe_s (xLe_n xLe_0))))))) (ih (k + 1) (j + 1) _ (by omega) ?_ (by omega))
        show _ = if _ then _ else _
        rw [← hj, ← ha, if_pos c36]
  refine x_iconst (pc := 0) hC dX1_reached_0 ?_
  refine x_istore (L' := [_, _, _, _, _, _, _]) (pc := 1) hC dX1_reached_1 rfl rfl ?_
  refine x_iconst (pc := 3) hC dX1_reached_3 ?_
  refine x_istore (L' := [_, _, _, _, _, _, _]) (pc := 4) hC dX1_reached_4 rfl rfl ?_
  exact loop (z 13).toNat 0 0 0 rfl rfl (by omega)
