set_option maxHeartbeats 4000000 in
set_option maxRecDepth 100000 in
theorem c_meetersOf (E : xE) {σ : xM} {ρ : xR} {ks : xKs} (hk : HK ks ρ) {z : zS} (hfs : FansAt σ ρ ks z) (hfan : FansOk z) {y t : Int} (hy : 0 ≤ y ∧ y < z 14) (ht : 0 ≤ t ∧ t < 1000000) (hsz : SZ σ 3 4 z) (hsit : SitOk z) : Sp E yX1_meetersOf kX1_meetersOf 3 0 0 [.ref 1, .int (iI y), .int (iI t)] σ ρ ks (Fn (some (.int (iI (mtrF z y t (z 13).toNat)))) (σ) ρ ks) := by
  obtain ⟨k1, k2, r0, r2, hs3⟩ := id hk
  obtain ⟨c1, cf⟩ := id hfs
  have hf13 := hfan.1
  obtain ⟨ko, ⟨kb0, kb1, kb2, kb3, kb4⟩, s0, s1, s2, s3, s4⟩ := id hs3
  obtain ⟨z5, zs⟩ := id hsz
  have hs14 := hsit.1
  obtain ⟨e0, e1, e2⟩ := zs y hy.1 hy.2
  refine x_enter (own := RX1) (L := [_, _, _, _, _, _]) (by decide +kernel) rfl (by exact Nat.le_of_ble_eq_true rfl) rfl (fun p e R s m args below meth c Z hZ hC hR hin => ?_)
  have loop : ∀ (i k : Nat) (j a : Int), j = k → a = mtrF z y t k → (k : Int) + i = z 13 → X E p e R s m args below meth c Z 0 0 σ ρ ks 5 [some (.ref 1), some (.int (iI y)), some (.int (iI t)), some (.int (iI a)), some (.int (iI j)), none] [] := by
    intro i
    induction i with
    | zero =>
      intro k j a hj ha hi
      refine x_iload (pc := 5) hC dX1_meetersOf_5 rfl ?_
      refine x_aload_n (pc := 7) hC dX1_meetersOf_7 rfl ?_
      refine x_geti (K := 1) (pc := 8) hC fX1_17_1 (by assumption) dX1_meetersOf_8 rfl rfl ?_
      refine x_icmp_ge (tgt := 75) (pc := 11) hC (by omega) (by omega) dX1_meetersOf_11 (by decide) (fun c11 => ?_) (fun c11 => by (exfalso; omega))
      refine x_iload_n (pc := 75) hC dX1_meetersOf_75 rfl ?_
      refine x_ireturn hC hZ dX1_meetersOf_76 (by decide) (by decide) ?_
      refine ⟨congrArg (fun z => some (Value.int (iI z))) ?_, rfl, rfl, rfl⟩
      rw [ha, show (z 13).toNat = k by omega]
    | succ i ih =>
      intro k j a hj ha hi
      obtain ⟨q, hr, hfa⟩ := cf j (by omega) (by omega)
      obtain ⟨hq, hfz, htz⟩ := id hfa
      have hci := kci_fam (z (22 + j))
      obtain ⟨a0, a1, a2, a3, a4, a5, a6⟩ := id hfz
      have hfo := hfan.2 j (by omega) (by omega)
      obtain ⟨b1, b2, b3, b4, b5, b6⟩ := id hfo
      refine x_iload (pc := 5) hC dX1_meetersOf_5 rfl ?_
      refine x_aload_n (pc := 7) hC dX1_meetersOf_7 rfl ?_
      refine x_geti (K := 1) (pc := 8) hC fX1_17_1 (by assumption) dX1_meetersOf_8 rfl rfl ?_
      refine x_icmp_ge (tgt := 75) (pc := 11) hC (by first | omega | exact rg_of _) (by first | omega | exact rg_of _) dX1_meetersOf_11 (by decide) (fun c11 => by (exfalso; omega)) (fun c11 => ?_)
      refine x_aload_n (pc := 14) hC dX1_meetersOf_14 rfl ?_
      refine x_getr (K := 0) (pc := 15) hC fX1_11_1 (by assumption) dX1_meetersOf_15 rfl rfl (by assumption) ?_
      refine x_iload (pc := 18) hC dX1_meetersOf_18 rfl ?_
      refine x_aald (pc := 20) hC (by assumption) (by first | omega | exact rg_of _) dX1_meetersOf_20 hr ?_
      refine x_astore (L' := [_, _, _, _, _, _]) (pc := 21) hC dX1_meetersOf_21 rfl rfl ?_
      refine x_aload (pc := 23) hC dX1_meetersOf_23 rfl ?_
      refine x_ifnull_r (pc := 25) hC dX1_meetersOf_25 ?_
      refine x_aload (pc := 28) hC dX1_meetersOf_28 rfl ?_
      refine x_geti (K := 6) (pc := 30) hC (fFX1_108 _ hci) (by assumption) dX1_meetersOf_30 (tF_isOn _ hci) rfl ?_
      refine x_if_eq (tgt := 69) (pc := 33) hC (by first | omega | exact rg_of _) dX1_meetersOf_33 (by decide) (fun c33 => ?_) (fun c33 => ?_)
      · refine x_iinc (L' := [_, _, _, _, _, _]) (pc := 69) hC dX1_meetersOf_69 rfl rfl rfl ?_
        refine x_goto (tgt := 5) (pc := 72) hC dX1_meetersOf_72 (by decide) ?_
        refine X.drop (xLe_s (xLe_s (xLe_s (xLe_s (xLe_s (xLe_n xLe_0)))))) (ih (k + 1) (j + 1) _ (by omega) ?_ (by omega))
        show _ = if _ then _ else _
        rw [← hj, ← ha, if_neg (fun h => by omega)]
      · refine x_aload (pc := 36) hC dX1_meetersOf_36 rfl ?_
        refine x_iload_n (pc := 38) hC dX1_meetersOf_38 rfl ?_
        refine x_aload_n (pc := 39) hC dX1_meetersOf_39 rfl ?_
        refine x_getr (K := 2) (pc := 40) hC fX1_24_1 (by assumption) dX1_meetersOf_40 rfl rfl (by assumption) ?_
        refine x_fanX1_112 (pc := 43) hC hfa hfo (by omega) hs3 hsz hsit ht hR (by decide) (by exact Nat.le_of_ble_eq_true rfl) (by decide) rfl dX1_meetersOf_43 ?_
        refine x_aload_n (pc := 46) hC dX1_meetersOf_46 rfl ?_
        refine x_getr (K := 2) (pc := 47) hC fX1_24_1 (by assumption) dX1_meetersOf_47 rfl rfl (by assumption) ?_
        refine x_getr (K := 0) (pc := 50) hC fX1_116_5 (by assumption) dX1_meetersOf_50 rfl rfl (by assumption) ?_
        refine x_iload_n (pc := 53) hC dX1_meetersOf_53 rfl ?_
        refine x_iald (pc := 54) hC (by assumption) (by first | omega | exact rg_of _) dX1_meetersOf_54 ?_
        rw [e0]
        refine x_ishr (pc := 55) hC dX1_meetersOf_55 ?_
        refine x_iconst (pc := 56) hC dX1_meetersOf_56 ?_
        refine x_iand (pc := 57) hC dX1_meetersOf_57 ?_
        refine x_iconst (pc := 58) hC dX1_meetersOf_58 ?_
        refine x_icmp_ne (tgt := 69) (pc := 59) hC (by first | omega | exact rg_of _) (by first | omega | exact rg_of _) dX1_meetersOf_59 (by decide) (fun c59 => ?_) (fun c59 => ?_)
        · refine x_iinc (L' := [_, _, _, _, _, _]) (pc := 69) hC dX1_meetersOf_69 rfl rfl rfl ?_
          refine x_goto (tgt := 5) (pc := 72) hC dX1_meetersOf_72 (by decide) ?_
          refine X.drop (xLe_s (xLe_s (xLe_s (xLe_s (xLe_s (xLe_n xLe_0)))))) (ih (k + 1) (j + 1) _ (by omega) ?_ (by omega))
          show _ = if _ then _ else _
          rw [← hj, ← ha, if_neg (fun h => c59 h.2)]
        · refine x_iload_n (pc := 62) hC dX1_meetersOf_62 rfl ?_
          refine x_iconst (pc := 63) hC dX1_meetersOf_63 ?_
          refine x_iload (pc := 64) hC dX1_meetersOf_64 rfl ?_
          refine x_ishl (pc := 66) hC dX1_meetersOf_66 ?_
          refine x_ior (pc := 67) hC dX1_meetersOf_67 ?_
          refine x_istore_n (L' := [_, _, _, _, _, _]) (pc := 68) hC dX1_meetersOf_68 rfl rfl ?_
          refine x_iinc (L' := [_, _, _, _, _, _]) (pc := 69) hC dX1_meetersOf_69 rfl rfl rfl ?_
          refine x_goto (tgt := 5) (pc := 72) hC dX1_meetersOf_72 (by decide) ?_
          refine X.drop (xLe_s (xLe_s (xLe_s (xLe_s (xLe_s (xLe_n xLe_0)))))) (ih (k + 1) (j + 1) _ (by omega) ?_ (by omega))
          show _ = if _ then _ else _
          rw [← hj, ← ha, if_pos ⟨by omega, c59⟩]
  refine x_iconst (pc := 0) hC dX1_meetersOf_0 ?_
  refine x_istore_n (L' := [_, _, _, _, _, _]) (pc := 1) hC dX1_meetersOf_1 rfl rfl ?_
  refine x_iconst (pc := 2) hC dX1_meetersOf_2 ?_
  refine x_istore (L' := [_, _, _, _, _, _]) (pc := 3) hC dX1_meetersOf_3 rfl rfl ?_
  exact loop (z 13).toNat 0 0 0 rfl rfl (by omega)

set_option maxHeartbeats 4000000 in
set_option maxRecDepth 100000 in
theorem c_fanOf (E : xE) {σ : xM} {ρ : xR} {ks : xKs} (hk : HK ks ρ) {z : zS} (hfs : FansAt σ ρ ks z) (hfan : FansOk z) {f : Int} {q : Nat} (hf0 : 0 ≤ f ∧ f < z 13) (hr : ρ 2 f = some q) : Sp E yX1_fanOf kX1_fanOf 0 0 0 [.ref 1, .int (iI f)] σ ρ ks (Fn (some (.ref q)) σ ρ ks) := by
  obtain ⟨k1, k2, r0, r2, hs3⟩ := id hk
  obtain ⟨c1, cf⟩ := id hfs
  have hf13 := hfan.1
  refine x_enter (own := RX1) (L := [_, _]) (by decide +kernel) rfl (by exact Nat.le_of_ble_eq_true rfl) rfl (fun p e R s m args below meth c Z hZ hC hR hin => ?_)
  refine x_iload_n (pc := 0) hC dX1_fanOf_0 rfl ?_
  refine x_if_lt (tgt := 21) (pc := 1) hC (by omega) dX1_fanOf_1 (by decide) (fun c1 => by (exfalso; omega)) (fun c1 => ?_)
  refine x_iload_n (pc := 4) hC dX1_fanOf_4 rfl ?_
  refine x_aload_n (pc := 5) hC dX1_fanOf_5 rfl ?_
  refine x_geti (K := 1) (pc := 6) hC fX1_17_1 (by assumption) dX1_fanOf_6 rfl rfl ?_
  refine x_icmp_ge (tgt := 21) (pc := 9) hC (by omega) (by omega) dX1_fanOf_9 (by decide) (fun c9 => by (exfalso; omega)) (fun c9 => ?_)
  refine x_aload_n (pc := 12) hC dX1_fanOf_12 rfl ?_
  refine x_getr (K := 0) (pc := 13) hC fX1_11_1 (by assumption) dX1_fanOf_13 rfl rfl (by assumption) ?_
  refine x_iload_n (pc := 16) hC dX1_fanOf_16 rfl ?_
  refine x_aald (pc := 17) hC (by assumption) (by omega) dX1_fanOf_17 hr ?_
  refine x_goto (tgt := 22) (pc := 18) hC dX1_fanOf_18 (by decide) ?_
  refine x_areturn hC (some _) rfl hZ dX1_fanOf_22 (by decide) (by decide) ?_
  exact ⟨rfl, rfl, rfl, rfl⟩

set_option maxHeartbeats 4000000 in
set_option maxRecDepth 100000 in
theorem c_fanOfN (E : xE) {σ : xM} {ρ : xR} {ks : xKs} (hk : HK ks ρ) {z : zS} (hfs : FansAt σ ρ ks z) (hfan : FansOk z) {f : Int} (hf : rg f) (hf0 : ¬ (0 ≤ f ∧ f ≤ z 13 - 1)) : Sp E yX1_fanOf kX1_fanOf 0 0 0 [.ref 1, .int (iI f)] σ ρ ks (Fn (some .null) σ ρ ks) := by
  obtain ⟨k1, k2, r0, r2, hs3⟩ := id hk
  obtain ⟨c1, cf⟩ := id hfs
  have hf13 := hfan.1
  refine x_enter (own := RX1) (L := [_, _]) (by decide +kernel) rfl (by exact Nat.le_of_ble_eq_true rfl) rfl (fun p e R s m args below meth c Z hZ hC hR hin => ?_)
  refine x_iload_n (pc := 0) hC dX1_fanOf_0 rfl ?_
  refine x_if_lt (tgt := 21) (pc := 1) hC (by omega) dX1_fanOf_1 (by decide) (fun c1 => ?_) (fun c1 => ?_)
  · refine x_null (pc := 21) hC dX1_fanOf_21 ?_
    refine x_areturn hC none rfl hZ dX1_fanOf_22 (by decide) (by decide) ?_
    exact ⟨rfl, rfl, rfl, rfl⟩
  · refine x_iload_n (pc := 4) hC dX1_fanOf_4 rfl ?_
    refine x_aload_n (pc := 5) hC dX1_fanOf_5 rfl ?_
    refine x_geti (K := 1) (pc := 6) hC fX1_17_1 (by assumption) dX1_fanOf_6 rfl rfl ?_
    refine x_icmp_ge (tgt := 21) (pc := 9) hC (by omega) (by omega) dX1_fanOf_9 (by decide) (fun c9 => ?_) (fun c9 => by (exfalso; omega))
    refine x_null (pc := 21) hC dX1_fanOf_21 ?_
    refine x_areturn hC none rfl hZ dX1_fanOf_22 (by decide) (by decide) ?_
    exact ⟨rfl, rfl, rfl, rfl⟩
