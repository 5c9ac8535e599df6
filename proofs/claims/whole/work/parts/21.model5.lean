set_option maxHeartbeats 4000000 in
set_option maxRecDepth 100000 in
theorem s_goesOn (E : xE) {σ : xM} {ρ : xR} {ks : xKs} (hk : MK ks) (hw : MW ρ) {v : Int} (hpl : PlOk (σ 47)) (hv : 0 ≤ v ∧ v ≤ 60) (ht : σ 47 0 + v < 900000) : Sp E yX12_goesOn kX12_goesOn 5 0 0 [.ref 46, .int (iI v)] σ ρ ks (fun r σ' ρ' ks' => r = none ∧ ρ' = ρ ∧ ks' = ks ∧ Sc σ σ' ∧ σ' 47 = playF (σ 47) v.toNat ∧ σ' 52 = playM (σ 47) (m0F (σ 52)) v.toNat) := by
  obtain ⟨k46, k47, k48, k49, k50, k51, k52, k53, k54⟩ := id hk
  obtain ⟨w1, w2, w3, w10, w11, w14, w15, w16⟩ := id hw
  refine x_enter (own := RX12) (L := [_, _, _]) (by decide +kernel) rfl (by exact Nat.le_of_ble_eq_true rfl) rfl (fun p e R s m args below meth c Z hZ hC hR hin => ?_)
  have hf13 := hpl.1.1
  have loop1 : ∀ (n : Nat) (k : Int), 0 ≤ k → k + n = 6 → X E p e R s m args below meth c Z 0 0 (sw σ 52 (fun j => if 0 ≤ j ∧ j < k then 0 else σ 52 j)) ρ ks 2 [some (.ref 46), some (.int (iI v)), some (.int (iI k))] [] := by
    have loop2 : ∀ (n k : Nat) (j : Int) (σ' : xM), j = k → (k : Int) + n = v → Sc σ σ' → σ' 47 = playF (σ 47) k → σ' 52 = playM (σ 47) (m0F (σ 52)) k → X E p e R s m args below meth c Z 0 0 σ' ρ ks 23 [some (.ref 46), some (.int (iI v)), some (.int (iI j))] [] := by
      intro n
      induction n with
      | zero =>
        intro k j σ' hj hn hsc h47 h52
        refine x_iload_n (pc := 23) hC dX12_goesOn_23 rfl ?_
        refine x_iload_n (pc := 24) hC dX12_goesOn_24 rfl ?_
        refine x_icmp_ge (tgt := 46) (pc := 25) hC (by omega) (by omega) dX12_goesOn_25 (by decide) (fun c25 => ?_) (fun c25 => by (exfalso; omega))
        refine x_return hC hZ dX12_goesOn_46 (by decide) (by decide) ?_
        have hk2 : v.toNat = k := by omega
        exact ⟨rfl, rfl, rfl, hsc, by rw [h47, hk2], by rw [h52, hk2]⟩
      | succ n ih =>
        intro k j σ' hj hn hsc h47 h52
        obtain ⟨hp, h0, hout⟩ := play_pl hpl k (by omega)
        rw [← h47] at hp h0 hout
        obtain ⟨g1, g2, g3, g4⟩ := id hp
        have hom := onMany_in g1
        refine x_iload_n (pc := 23) hC dX12_goesOn_23 rfl ?_
        refine x_iload_n (pc := 24) hC dX12_goesOn_24 rfl ?_
        refine x_icmp_ge (tgt := 46) (pc := 25) hC (by omega) (by omega) dX12_goesOn_25 (by decide) (fun c25 => by (exfalso; omega)) (fun c25 => ?_)
        refine x_aload_n (pc := 28) hC dX12_goesOn_28 rfl ?_
        refine x_aload_n (pc := 29) hC dX12_goesOn_29 rfl ?_
        refine x_callV1 (As := []) (Bs := []) (pc := 30) hC (s_reachedNow E hk hw g1 g2 (by omega)) wX12_171_12 pX12_reachedNow (by assumption) rfl rfl (by exact Nat.le_of_ble_eq_true rfl) hR (by decide) (by decide) (by decide) rfl dX12_goesOn_30 ?_
        refine x_aload_n (pc := 33) hC dX12_goesOn_33 rfl ?_
        refine x_callV1 (As := []) (Bs := []) (pc := 34) hC (s_onMany E hk hw g1) wX12_174_12 pX12_onMany (by assumption) rfl rfl (by exact Nat.le_of_ble_eq_true rfl) hR (by decide) (by decide) (by decide) rfl dX12_goesOn_34 ?_
        refine x_callV (As := [_, _]) (Bs := [_, _]) (pc := 37) hC (s_goes E hk hw g3 g2 hom (by omega)) wX12_177_12 pX12_goes (by assumption) rfl rfl (by exact Nat.le_of_ble_eq_true rfl) hR (by decide) (by decide) (by decide) rfl dX12_goesOn_37 (fun r37 σ37 ρ37 ks37 q37 => ?_)
        obtain ⟨rfl, rfl, rfl, q1, q2, q3⟩ := q37
        refine x_iinc (L' := [_, _, _]) (pc := 40) hC dX12_goesOn_40 rfl rfl rfl ?_
        refine x_goto (tgt := 23) (pc := 43) hC dX12_goesOn_43 (by decide) ?_
        refine ih (k + 1) (j + 1) _ (by omega) (by omega) (hsc.trans q1) ?_ ?_
        · rw [q2, h47]; rfl
        · rw [q3, h47, h52]; rfl
    intro n
    induction n with
    | zero =>
      intro k h1 h2
      have h4 : k = 6 := by omega
      subst h4
      refine x_iload_n (pc := 2) hC dX12_goesOn_2 rfl ?_
      refine x_bipush (pc := 3) hC dX12_goesOn_3 (by decide +kernel) ?_
      refine x_icmp_ge (tgt := 21) (pc := 5) hC (by omega) (by omega) dX12_goesOn_5 (by decide) (fun c5 => ?_) (fun c5 => by (exfalso; omega))
      refine x_iconst (pc := 21) hC dX12_goesOn_21 ?_
      refine x_istore_n (L' := [_, _, _]) (pc := 22) hC dX12_goesOn_22 rfl rfl ?_
      refine loop2 v.toNat 0 0 _ rfl (by omega) ⟨fun q' x1 x2 x3 x4 x5 => sw_ne _ x5 _, fun j x1 x2 => by rw [sw_ne _ (by decide)]⟩ (sw_ne _ (by decide) _) (sw_eq _ _ _)
    | succ n ih =>
      intro k h1 h2
      refine x_iload_n (pc := 2) hC dX12_goesOn_2 rfl ?_
      refine x_bipush (pc := 3) hC dX12_goesOn_3 (by decide +kernel) ?_
      refine x_icmp_ge (tgt := 21) (pc := 5) hC (by omega) (by omega) dX12_goesOn_5 (by decide) (fun c5 => by (exfalso; omega)) (fun c5 => ?_)
      refine x_aload_n (pc := 8) hC dX12_goesOn_8 rfl ?_
      refine x_getr (K := 14) (pc := 9) hC fX12_28_12 (by assumption) dX12_goesOn_9 rfl rfl (by assumption) ?_
      refine x_iload_n (pc := 12) hC dX12_goesOn_12 rfl ?_
      refine x_iconst (pc := 13) hC dX12_goesOn_13 ?_
      refine x_iast (pc := 14) hC (by assumption) (by omega) dX12_goesOn_14 ?_
      refine x_iinc (L' := [_, _, _]) (pc := 15) hC dX12_goesOn_15 rfl rfl rfl ?_
      refine x_goto (tgt := 2) (pc := 18) hC dX12_goesOn_18 (by decide) ?_
      refine X.mem ?_ (ih (k + 1) (by omega) (by omega))
      rw [wr_sw, sw_sw, sw_eq]
      congr 1
      funext j
      unfold up
      dsimp only
      by_cases e : j = k
      · rw [if_pos e, if_pos (by omega)]
      · rw [if_neg e]; by_cases e2 : 0 ≤ j ∧ j < k
        · rw [if_pos e2, if_pos (by omega)]
        · rw [if_neg e2, if_neg (by omega)]
  refine x_iconst (pc := 0) hC dX12_goesOn_0 ?_
  refine x_istore_n (L' := [_, _, _]) (pc := 1) hC dX12_goesOn_1 rfl rfl ?_
  refine X.mem ?_ (loop1 6 0 (by omega) (by omega))
  rw [show (fun j => if 0 ≤ j ∧ j < 0 then 0 else σ 52 j) = σ 52 from funext fun j => if_neg (by omega), sw_id]

set_option maxHeartbeats 4000000 in
set_option maxRecDepth 100000 in
theorem s_worseBy (E : xE) {σ : xM} {ρ : xR} {ks : xKs} (hk : MK ks) (hw : MW ρ) {v : Int} (hpl : PlOk (σ 47)) (hv : 0 ≤ v ∧ v ≤ 60) (ht : σ 47 0 + v < 900000) : Sp E yX12_worseBy kX12_worseBy 6 0 0 [.ref 46, .int (iI v)] σ ρ ks (fun r σ' ρ' ks' => r = some (.int (iI (worseF (σ 47) v.toNat))) ∧ Ask σ σ' ∧ ρ' = ρ ∧ ks' = ks) := by
  obtain ⟨k46, k47, k48, k49, k50, k51, k52, k53, k54⟩ := id hk
  obtain ⟨w1, w2, w3, w10, w11, w14, w15, w16⟩ := id hw
  have hs14 := hpl.2.1.1
  refine x_enter (own := RX12) (L := [_, _, _]) (by decide +kernel) rfl (by exact Nat.le_of_ble_eq_true rfl) rfl (fun p e R s m args below meth c Z hZ hC hR hin => ?_)
  refine x_aload_n (pc := 0) hC dX12_worseBy_0 rfl ?_
  refine x_callV0 (As := []) (Bs := []) (pc := 1) hC (s_keeps E hk hw) wX12_184_12 pX12_keeps (by assumption) rfl rfl (by exact Nat.le_of_ble_eq_true rfl) hR (by decide) (by decide) (by decide) rfl dX12_worseBy_1 ?_
  refine x_aload_n (pc := 4) hC dX12_worseBy_4 rfl ?_
  refine x_iload_n (pc := 5) hC dX12_worseBy_5 rfl ?_
  refine x_callV (As := [_]) (Bs := [_]) (pc := 6) hC (s_goesOn E hk hw (v := v) (by rw [sw_ne _ (by decide)]; exact hpl) (by omega) (by rw [sw_ne _ (by decide)]; omega)) wX12_181_12 pX12_goesOn (by assumption) rfl rfl (by exact Nat.le_of_ble_eq_true rfl) hR (by decide) (by decide) (by decide) rfl dX12_worseBy_6 (fun r6 σ6 ρ6 ks6 q6 => ?_)
  obtain ⟨rfl, rfl, rfl, hsc, h47, h52⟩ := q6
  rw [sw_ne _ (by decide)] at h47
  obtain ⟨hp, h0, hout⟩ := play_pl hpl v.toNat (by omega)
  rw [← h47] at hp h0 hout
  have hsi := hp.2.1
  have h14 := hout 14 (by decide)
  have hgp := great_play hsi
  rw [h14] at hgp
  refine x_sipush (pc := 9) hC dX12_worseBy_9 (by decide +kernel) ?_
  refine x_aload_n (pc := 12) hC dX12_worseBy_12 rfl ?_
  refine x_callV1 (As := []) (Bs := []) (pc := 13) hC (s_greatest E hk hw hsi) wX12_187_12 pX12_greatest (by assumption) rfl rfl (by exact Nat.le_of_ble_eq_true rfl) hR (by decide) (by decide) (by decide) rfl dX12_worseBy_13 ?_
  refine x_imul (pc := 16) hC dX12_worseBy_16 ?_
  refine x_aload_n (pc := 17) hC dX12_worseBy_17 rfl ?_
  refine x_callV1 (As := []) (Bs := []) (pc := 18) hC (s_allHeat E hk hw hsi) wX12_190_12 pX12_allHeat (by assumption) rfl rfl (by exact Nat.le_of_ble_eq_true rfl) hR (by decide) (by decide) (by decide) rfl dX12_worseBy_18 ?_
  refine x_iadd (pc := 21) hC dX12_worseBy_21 ?_
  refine x_istore_n (L' := [_, _, _]) (pc := 22) hC dX12_worseBy_22 rfl rfl ?_
  refine x_aload_n (pc := 23) hC dX12_worseBy_23 rfl ?_
  refine x_callV0 (As := []) (Bs := []) (pc := 24) hC (s_goesBack E hk hw) wX12_193_12 pX12_goesBack (by assumption) rfl rfl (by exact Nat.le_of_ble_eq_true rfl) hR (by decide) (by decide) (by decide) rfl dX12_worseBy_24 ?_
  refine x_iload_n (pc := 27) hC dX12_worseBy_27 rfl ?_
  refine x_ireturn hC hZ dX12_worseBy_28 (by decide) (by decide) ?_
  exact ⟨by rw [h14, h47]; rfl, back_ok hsc hout, rfl, rfl⟩

theorem s_isSitterW (E : xE) {σ : xM} {ρ : xR} {ks : xKs} (hk : MK ks) (hw : MW ρ) {v : Int} (hv : -2147483748 ≤ v ∧ v < 2147483648) (hz : 0 ≤ σ 47 14 ∧ σ 47 14 ≤ 6) : Sp E yX12_isSitter kX12_isSitter 2 0 0 [.ref 46, .int (iI v)] σ ρ ks (Fn (some (.int (iI (bI (0 ≤ v ∧ v ≤ σ 47 14 - 1))))) σ ρ ks) := by
  by_cases h : -2147483648 ≤ v
  · exact s_isSitter E hk hw ⟨h, hv.2⟩ hz
  · have e : iI v = iI (v + 4294967296) := by
      have := Int32.ofInt_add v 4294967296
      rw [iI, iI, this, show Int32.ofInt 4294967296 = 0 by decide +kernel, Int32.add_zero]
    have h2 := s_isSitter E hk hw (v := v + 4294967296) ⟨by omega, by omega⟩ hz
    rw [e]
    rw [bI_f (by omega)] at h2 ⊢
    exact h2
def thenF (z m : zS) (v w : Int) : Int :=
  if ¬ (0 ≤ w ∧ w ≤ 1) ∧ ¬ (0 ≤ w - 10 ∧ w - 10 ≤ z 14 - 1) ∧ ¬ (0 ≤ w - 20 ∧ w - 20 ≤ z 14 - 1) then -1 else if ¬ (0 ≤ v ∧ v ≤ 60) then -2
  else if w = 0 then greatF (playF z v.toNat) (z 14).toNat else if w = 1 then allF (playF z v.toNat) (z 14).toNat
  else if w < 20 then playF z v.toNat (1 + w - 10) else playM z (m0F m) v.toNat (w - 20)
set_option maxHeartbeats 4000000 in
set_option maxRecDepth 100000 in
theorem s_then (E : xE) {σ : xM} {ρ : xR} {ks : xKs} (hk : MK ks) (hw : MW ρ) {v w : Int} (hpl : PlOk (σ 47)) (hv : rg v) (hw0 : rg w) (ht : σ 47 0 + 60 < 900000) : Sp E yX12_then kX12_then 6 0 0 [.ref 46, .int (iI v), .int (iI w)] σ ρ ks (fun r σ' ρ' ks' => r = some (.int (iI (thenF (σ 47) (σ 52) v w))) ∧ Ask σ σ' ∧ ρ' = ρ ∧ ks' = ks) := by
  obtain ⟨k46, k47, k48, k49, k50, k51, k52, k53, k54⟩ := id hk
  obtain ⟨w1, w2, w3, w10, w11, w14, w15, w16⟩ := id hw
  have hs14 := hpl.2.1.1
  refine x_enter (own := RX12) (L := [_, _, _, _]) (by decide +kernel) rfl (by exact Nat.le_of_ble_eq_true rfl) rfl (fun p e R s m args below meth c Z hZ hC hR hin => ?_)
  refine x_iload_n (pc := 0) hC dX12_then_0 rfl ?_
  refine x_iconst (pc := 1) hC dX12_then_1 ?_
  refine x_iconst (pc := 2) hC dX12_then_2 ?_
  refine x_callS1 (As := [_, _, _]) (Bs := [_, _, _]) (pc := 3) hC (s_in E (by omega) (by omega) (by omega)) wX12_41 pX12_in rfl rfl (by exact Nat.le_of_ble_eq_true rfl) hR (by decide) (by decide) (by decide) rfl dX12_then_3 ?_
  refine x_ifB_ne (tgt := 33) (pc := 6) hC  dX12_then_6 (by decide) (fun c6 => ?_) (fun c6 => ?_)
  · refine x_iload_n (pc := 33) hC dX12_then_33 rfl ?_
    refine x_iconst (pc := 34) hC dX12_then_34 ?_
    refine x_bipush (pc := 35) hC dX12_then_35 (by decide +kernel) ?_
    refine x_callS1 (As := [_, _, _]) (Bs := [_, _, _]) (pc := 37) hC (s_in E (by omega) (by omega) (by omega)) wX12_41 pX12_in rfl rfl (by exact Nat.le_of_ble_eq_true rfl) hR (by decide) (by decide) (by decide) rfl dX12_then_37 ?_
    refine x_ifB_ne (tgt := 46) (pc := 40) hC  dX12_then_40 (by decide) (fun c40 => ?_) (fun c40 => ?_)
    · refine x_aload_n (pc := 46) hC dX12_then_46 rfl ?_
      refine x_callV0 (As := []) (Bs := []) (pc := 47) hC (s_keeps E hk hw) wX12_184_12 pX12_keeps (by assumption) rfl rfl (by exact Nat.le_of_ble_eq_true rfl) hR (by decide) (by decide) (by decide) rfl dX12_then_47 ?_
      refine x_aload_n (pc := 50) hC dX12_then_50 rfl ?_
      refine x_iload_n (pc := 51) hC dX12_then_51 rfl ?_
      refine x_callV (As := [_]) (Bs := [_]) (pc := 52) hC (s_goesOn E hk hw (v := v) (by rw [sw_ne _ (by decide)]; exact hpl) (by omega) (by rw [sw_ne _ (by decide)]; omega)) wX12_181_12 pX12_goesOn (by assumption) rfl rfl (by exact Nat.le_of_ble_eq_true rfl) hR (by decide) (by decide) (by decide) rfl dX12_then_52 (fun r52 σ52 ρ52 ks52 q52 => ?_)
      obtain ⟨rfl, rfl, rfl, hsc, h47, h52⟩ := q52
      rw [sw_ne _ (by decide)] at h47
      obtain ⟨hp, h0, hout⟩ := play_pl hpl v.toNat (by omega)
      rw [← h47] at hp h0 hout
      have hsi := hp.2.1
      have h14 := hout 14 (by decide)
      have hgp := great_play hsi
      rw [h14] at hgp
      refine x_iload_n (pc := 55) hC dX12_then_55 rfl ?_
      refine x_if_ne (tgt := 66) (pc := 56) hC (by omega) dX12_then_56 (by decide) (fun c56 => ?_) (fun c56 => ?_)
      · refine x_iload_n (pc := 66) hC dX12_then_66 rfl ?_
        refine x_iconst (pc := 67) hC dX12_then_67 ?_
        refine x_icmp_ne (tgt := 78) (pc := 68) hC (by omega) (by omega) dX12_then_68 (by decide) (fun c68 => ?_) (fun c68 => ?_)
        · refine x_iload_n (pc := 78) hC dX12_then_78 rfl ?_
          refine x_bipush (pc := 79) hC dX12_then_79 (by decide +kernel) ?_
          refine x_icmp_ge (tgt := 98) (pc := 81) hC (by omega) (by omega) dX12_then_81 (by decide) (fun c81 => ?_) (fun c81 => ?_)
          · refine x_aload_n (pc := 98) hC dX12_then_98 rfl ?_
            refine x_getr (K := 14) (pc := 99) hC fX12_28_12 (by assumption) dX12_then_99 rfl rfl (by assumption) ?_
            refine x_iload_n (pc := 102) hC dX12_then_102 rfl ?_
            refine x_bipush (pc := 103) hC dX12_then_103 (by decide +kernel) ?_
            refine x_isub (pc := 105) hC dX12_then_105 ?_
            refine x_iald (pc := 106) hC (by assumption) (by omega) dX12_then_106 ?_
            refine x_istore_n (L' := [_, _, _, _]) (pc := 107) hC dX12_then_107 rfl rfl ?_
            refine x_aload_n (pc := 108) hC dX12_then_108 rfl ?_
            refine x_callV0 (As := []) (Bs := []) (pc := 109) hC (s_goesBack E hk hw) wX12_193_12 pX12_goesBack (by assumption) rfl rfl (by exact Nat.le_of_ble_eq_true rfl) hR (by decide) (by decide) (by decide) rfl dX12_then_109 ?_
            refine x_iload_n (pc := 112) hC dX12_then_112 rfl ?_
            refine x_ireturn hC hZ dX12_then_113 (by decide) (by decide) ?_
            exact ⟨congrArg (fun z => some (Value.int (iI z))) (by unfold thenF; rw [if_neg (by omega), if_neg (by omega), if_neg (by omega), if_neg (by omega), if_neg (by omega)]; rw [h52, sw_ne _ (by decide), sw_ne _ (by decide)]), back_ok hsc hout, rfl, rfl⟩
          · refine x_aload_n (pc := 84) hC dX12_then_84 rfl ?_
            refine x_getr (K := 1) (pc := 85) hC fX12_9_12 (by assumption) dX12_then_85 rfl rfl (by assumption) ?_
            refine x_iconst (pc := 88) hC dX12_then_88 ?_
            refine x_iload_n (pc := 89) hC dX12_then_89 rfl ?_
            refine x_iadd (pc := 90) hC dX12_then_90 ?_
            refine x_bipush (pc := 91) hC dX12_then_91 (by decide +kernel) ?_
            refine x_isub (pc := 93) hC dX12_then_93 ?_
            refine x_iald (pc := 94) hC (by assumption) (by omega) dX12_then_94 ?_
            refine x_goto (tgt := 107) (pc := 95) hC dX12_then_95 (by decide) ?_
            refine x_istore_n (L' := [_, _, _, _]) (pc := 107) hC dX12_then_107 rfl rfl ?_
            refine x_aload_n (pc := 108) hC dX12_then_108 rfl ?_
            refine x_callV0 (As := []) (Bs := []) (pc := 109) hC (s_goesBack E hk hw) wX12_193_12 pX12_goesBack (by assumption) rfl rfl (by exact Nat.le_of_ble_eq_true rfl) hR (by decide) (by decide) (by decide) rfl dX12_then_109 ?_
            refine x_iload_n (pc := 112) hC dX12_then_112 rfl ?_
            refine x_ireturn hC hZ dX12_then_113 (by decide) (by decide) ?_
            exact ⟨congrArg (fun z => some (Value.int (iI z))) (by unfold thenF; rw [if_neg (by omega), if_neg (by omega), if_neg (by omega), if_neg (by omega), if_pos (by omega)]; rw [h47]), back_ok hsc hout, rfl, rfl⟩
        · refine x_aload_n (pc := 71) hC dX12_then_71 rfl ?_
          refine x_callV1 (As := []) (Bs := []) (pc := 72) hC (s_allHeat E hk hw hsi) wX12_190_12 pX12_allHeat (by assumption) rfl rfl (by exact Nat.le_of_ble_eq_true rfl) hR (by decide) (by decide) (by decide) rfl dX12_then_72 ?_
          refine x_goto (tgt := 107) (pc := 75) hC dX12_then_75 (by decide) ?_
          refine x_istore_n (L' := [_, _, _, _]) (pc := 107) hC dX12_then_107 rfl rfl ?_
          refine x_aload_n (pc := 108) hC dX12_then_108 rfl ?_
          refine x_callV0 (As := []) (Bs := []) (pc := 109) hC (s_goesBack E hk hw) wX12_193_12 pX12_goesBack (by assumption) rfl rfl (by exact Nat.le_of_ble_eq_true rfl) hR (by decide) (by decide) (by decide) rfl dX12_then_109 ?_
          refine x_iload_n (pc := 112) hC dX12_then_112 rfl ?_
          refine x_ireturn hC hZ dX12_then_113 (by decide) (by decide) ?_
          exact ⟨congrArg (fun z => some (Value.int (iI z))) (by unfold thenF; rw [if_neg (by omega), if_neg (by omega), if_neg (by omega), if_pos (by omega)]; rw [h14, h47]), back_ok hsc hout, rfl, rfl⟩
      · refine x_aload_n (pc := 59) hC dX12_then_59 rfl ?_
        refine x_callV1 (As := []) (Bs := []) (pc := 60) hC (s_greatest E hk hw hsi) wX12_187_12 pX12_greatest (by assumption) rfl rfl (by exact Nat.le_of_ble_eq_true rfl) hR (by decide) (by decide) (by decide) rfl dX12_then_60 ?_
        refine x_goto (tgt := 107) (pc := 63) hC dX12_then_63 (by decide) ?_
        refine x_istore_n (L' := [_, _, _, _]) (pc := 107) hC dX12_then_107 rfl rfl ?_
        refine x_aload_n (pc := 108) hC dX12_then_108 rfl ?_
        refine x_callV0 (As := []) (Bs := []) (pc := 109) hC (s_goesBack E hk hw) wX12_193_12 pX12_goesBack (by assumption) rfl rfl (by exact Nat.le_of_ble_eq_true rfl) hR (by decide) (by decide) (by decide) rfl dX12_then_109 ?_
        refine x_iload_n (pc := 112) hC dX12_then_112 rfl ?_
        refine x_ireturn hC hZ dX12_then_113 (by decide) (by decide) ?_
        exact ⟨congrArg (fun z => some (Value.int (iI z))) (by unfold thenF; rw [if_neg (by omega), if_neg (by omega), if_pos (by omega)]; rw [h14, h47]), back_ok hsc hout, rfl, rfl⟩
    · refine x_bipush (pc := 43) hC dX12_then_43 (by decide +kernel) ?_
      refine x_ireturn hC hZ dX12_then_45 (by decide) (by decide) ?_
      exact ⟨congrArg (fun z => some (Value.int (iI z))) (by unfold thenF; rw [if_neg (by omega), if_pos (by omega)]), Ask.rf σ, rfl, rfl⟩
  · refine x_aload_n (pc := 9) hC dX12_then_9 rfl ?_
    refine x_iload_n (pc := 10) hC dX12_then_10 rfl ?_
    refine x_bipush (pc := 11) hC dX12_then_11 (by decide +kernel) ?_
    refine x_isub (pc := 13) hC dX12_then_13 ?_
    refine x_callV1 (As := [_]) (Bs := [_]) (pc := 14) hC (s_isSitterW E hk hw (by omega) (by omega)) wX12_157_12 pX12_isSitter (by assumption) rfl rfl (by exact Nat.le_of_ble_eq_true rfl) hR (by decide) (by decide) (by decide) rfl dX12_then_14 ?_
    refine x_ifB_ne (tgt := 33) (pc := 17) hC  dX12_then_17 (by decide) (fun c17 => ?_) (fun c17 => ?_)
    · refine x_iload_n (pc := 33) hC dX12_then_33 rfl ?_
      refine x_iconst (pc := 34) hC dX12_then_34 ?_
      refine x_bipush (pc := 35) hC dX12_then_35 (by decide +kernel) ?_
      refine x_callS1 (As := [_, _, _]) (Bs := [_, _, _]) (pc := 37) hC (s_in E (by omega) (by omega) (by omega)) wX12_41 pX12_in rfl rfl (by exact Nat.le_of_ble_eq_true rfl) hR (by decide) (by decide) (by decide) rfl dX12_then_37 ?_
      refine x_ifB_ne (tgt := 46) (pc := 40) hC  dX12_then_40 (by decide) (fun c40 => ?_) (fun c40 => ?_)
      · refine x_aload_n (pc := 46) hC dX12_then_46 rfl ?_
        refine x_callV0 (As := []) (Bs := []) (pc := 47) hC (s_keeps E hk hw) wX12_184_12 pX12_keeps (by assumption) rfl rfl (by exact Nat.le_of_ble_eq_true rfl) hR (by decide) (by decide) (by decide) rfl dX12_then_47 ?_
        refine x_aload_n (pc := 50) hC dX12_then_50 rfl ?_
        refine x_iload_n (pc := 51) hC dX12_then_51 rfl ?_
        refine x_callV (As := [_]) (Bs := [_]) (pc := 52) hC (s_goesOn E hk hw (v := v) (by rw [sw_ne _ (by decide)]; exact hpl) (by omega) (by rw [sw_ne _ (by decide)]; omega)) wX12_181_12 pX12_goesOn (by assumption) rfl rfl (by exact Nat.le_of_ble_eq_true rfl) hR (by decide) (by decide) (by decide) rfl dX12_then_52 (fun r52 σ52 ρ52 ks52 q52 => ?_)
        obtain ⟨rfl, rfl, rfl, hsc, h47, h52⟩ := q52
        rw [sw_ne _ (by decide)] at h47
        obtain ⟨hp, h0, hout⟩ := play_pl hpl v.toNat (by omega)
        rw [← h47] at hp h0 hout
        have hsi := hp.2.1
        have h14 := hout 14 (by decide)
        have hgp := great_play hsi
        rw [h14] at hgp
        refine x_iload_n (pc := 55) hC dX12_then_55 rfl ?_
        refine x_if_ne (tgt := 66) (pc := 56) hC (by omega) dX12_then_56 (by decide) (fun c56 => ?_) (fun c56 => ?_)
        · refine x_iload_n (pc := 66) hC dX12_then_66 rfl ?_
          refine x_iconst (pc := 67) hC dX12_then_67 ?_
          refine x_icmp_ne (tgt := 78) (pc := 68) hC (by omega) (by omega) dX12_then_68 (by decide) (fun c68 => ?_) (fun c68 => ?_)
          · refine x_iload_n (pc := 78) hC dX12_then_78 rfl ?_
            refine x_bipush (pc := 79) hC dX12_then_79 (by decide +kernel) ?_
            refine x_icmp_ge (tgt := 98) (pc := 81) hC (by omega) (by omega) dX12_then_81 (by decide) (fun c81 => ?_) (fun c81 => ?_)
            · refine x_aload_n (pc := 98) hC dX12_then_98 rfl ?_
              refine x_getr (K := 14) (pc := 99) hC fX12_28_12 (by assumption) dX12_then_99 rfl rfl (by assumption) ?_
              refine x_iload_n (pc := 102) hC dX12_then_102 rfl ?_
              refine x_bipush (pc := 103) hC dX12_then_103 (by decide +kernel) ?_
              refine x_isub (pc := 105) hC dX12_then_105 ?_
              refine x_iald (pc := 106) hC (by assumption) (by omega) dX12_then_106 ?_
              refine x_istore_n (L' := [_, _, _, _]) (pc := 107) hC dX12_then_107 rfl rfl ?_
              refine x_aload_n (pc := 108) hC dX12_then_108 rfl ?_
              refine x_callV0 (As := []) (Bs := []) (pc := 109) hC (s_goesBack E hk hw) wX12_193_12 pX12_goesBack (by assumption) rfl rfl (by exact Nat.le_of_ble_eq_true rfl) hR (by decide) (by decide) (by decide) rfl dX12_then_109 ?_
              refine x_iload_n (pc := 112) hC dX12_then_112 rfl ?_
              refine x_ireturn hC hZ dX12_then_113 (by decide) (by decide) ?_
              exact ⟨congrArg (fun z => some (Value.int (iI z))) (by unfold thenF; rw [if_neg (by omega), if_neg (by omega), if_neg (by omega), if_neg (by omega), if_neg (by omega)]; rw [h52, sw_ne _ (by decide), sw_ne _ (by decide)]), back_ok hsc hout, rfl, rfl⟩
            · refine x_aload_n (pc := 84) hC dX12_then_84 rfl ?_
              refine x_getr (K := 1) (pc := 85) hC fX12_9_12 (by assumption) dX12_then_85 rfl rfl (by assumption) ?_
              refine x_iconst (pc := 88) hC dX12_then_88 ?_
              refine x_iload_n (pc := 89) hC dX12_then_89 rfl ?_
              refine x_iadd (pc := 90) hC dX12_then_90 ?_
              refine x_bipush (pc := 91) hC dX12_then_91 (by decide +kernel) ?_
              refine x_isub (pc := 93) hC dX12_then_93 ?_
              refine x_iald (pc := 94) hC (by assumption) (by omega) dX12_then_94 ?_
              refine x_goto (tgt := 107) (pc := 95) hC dX12_then_95 (by decide) ?_
              refine x_istore_n (L' := [_, _, _, _]) (pc := 107) hC dX12_then_107 rfl rfl ?_
              refine x_aload_n (pc := 108) hC dX12_then_108 rfl ?_
              refine x_callV0 (As := []) (Bs := []) (pc := 109) hC (s_goesBack E hk hw) wX12_193_12 pX12_goesBack (by assumption) rfl rfl (by exact Nat.le_of_ble_eq_true rfl) hR (by decide) (by decide) (by decide) rfl dX12_then_109 ?_
              refine x_iload_n (pc := 112) hC dX12_then_112 rfl ?_
              refine x_ireturn hC hZ dX12_then_113 (by decide) (by decide) ?_
              exact ⟨congrArg (fun z => some (Value.int (iI z))) (by unfold thenF; rw [if_neg (by omega), if_neg (by omega), if_neg (by omega), if_neg (by omega), if_pos (by omega)]; rw [h47]), back_ok hsc hout, rfl, rfl⟩
          · refine x_aload_n (pc := 71) hC dX12_then_71 rfl ?_
            refine x_callV1 (As := []) (Bs := []) (pc := 72) hC (s_allHeat E hk hw hsi) wX12_190_12 pX12_allHeat (by assumption) rfl rfl (by exact Nat.le_of_ble_eq_true rfl) hR (by decide) (by decide) (by decide) rfl dX12_then_72 ?_
            refine x_goto (tgt := 107) (pc := 75) hC dX12_then_75 (by decide) ?_
            refine x_istore_n (L' := [_, _, _, _]) (pc := 107) hC dX12_then_107 rfl rfl ?_
            refine x_aload_n (pc := 108) hC dX12_then_108 rfl ?_
            refine x_callV0 (As := []) (Bs := []) (pc := 109) hC (s_goesBack E hk hw) wX12_193_12 pX12_goesBack (by assumption) rfl rfl (by exact Nat.le_of_ble_eq_true rfl) hR (by decide) (by decide) (by decide) rfl dX12_then_109 ?_
            refine x_iload_n (pc := 112) hC dX12_then_112 rfl ?_
            refine x_ireturn hC hZ dX12_then_113 (by decide) (by decide) ?_
            exact ⟨congrArg (fun z => some (Value.int (iI z))) (by unfold thenF; rw [if_neg (by omega), if_neg (by omega), if_neg (by omega), if_pos (by omega)]; rw [h14, h47]), back_ok hsc hout, rfl, rfl⟩
        · refine x_aload_n (pc := 59) hC dX12_then_59 rfl ?_
          refine x_callV1 (As := []) (Bs := []) (pc := 60) hC (s_greatest E hk hw hsi) wX12_187_12 pX12_greatest (by assumption) rfl rfl (by exact Nat.le_of_ble_eq_true rfl) hR (by decide) (by decide) (by decide) rfl dX12_then_60 ?_
          refine x_goto (tgt := 107) (pc := 63) hC dX12_then_63 (by decide) ?_
          refine x_istore_n (L' := [_, _, _, _]) (pc := 107) hC dX12_then_107 rfl rfl ?_
          refine x_aload_n (pc := 108) hC dX12_then_108 rfl ?_
          refine x_callV0 (As := []) (Bs := []) (pc := 109) hC (s_goesBack E hk hw) wX12_193_12 pX12_goesBack (by assumption) rfl rfl (by exact Nat.le_of_ble_eq_true rfl) hR (by decide) (by decide) (by decide) rfl dX12_then_109 ?_
          refine x_iload_n (pc := 112) hC dX12_then_112 rfl ?_
          refine x_ireturn hC hZ dX12_then_113 (by decide) (by decide) ?_
          exact ⟨congrArg (fun z => some (Value.int (iI z))) (by unfold thenF; rw [if_neg (by omega), if_neg (by omega), if_pos (by omega)]; rw [h14, h47]), back_ok hsc hout, rfl, rfl⟩
      · refine x_bipush (pc := 43) hC dX12_then_43 (by decide +kernel) ?_
        refine x_ireturn hC hZ dX12_then_45 (by decide) (by decide) ?_
        exact ⟨congrArg (fun z => some (Value.int (iI z))) (by unfold thenF; rw [if_neg (by omega), if_pos (by omega)]), Ask.rf σ, rfl, rfl⟩
    · refine x_aload_n (pc := 20) hC dX12_then_20 rfl ?_
      refine x_iload_n (pc := 21) hC dX12_then_21 rfl ?_
      refine x_bipush (pc := 22) hC dX12_then_22 (by decide +kernel) ?_
      refine x_isub (pc := 24) hC dX12_then_24 ?_
      refine x_callV1 (As := [_]) (Bs := [_]) (pc := 25) hC (s_isSitterW E hk hw (by omega) (by omega)) wX12_157_12 pX12_isSitter (by assumption) rfl rfl (by exact Nat.le_of_ble_eq_true rfl) hR (by decide) (by decide) (by decide) rfl dX12_then_25 ?_
      refine x_ifB_ne (tgt := 33) (pc := 28) hC  dX12_then_28 (by decide) (fun c28 => ?_) (fun c28 => ?_)
      · refine x_iload_n (pc := 33) hC dX12_then_33 rfl ?_
        refine x_iconst (pc := 34) hC dX12_then_34 ?_
        refine x_bipush (pc := 35) hC dX12_then_35 (by decide +kernel) ?_
        refine x_callS1 (As := [_, _, _]) (Bs := [_, _, _]) (pc := 37) hC (s_in E (by omega) (by omega) (by omega)) wX12_41 pX12_in rfl rfl (by exact Nat.le_of_ble_eq_true rfl) hR (by decide) (by decide) (by decide) rfl dX12_then_37 ?_
        refine x_ifB_ne (tgt := 46) (pc := 40) hC  dX12_then_40 (by decide) (fun c40 => ?_) (fun c40 => ?_)
        · refine x_aload_n (pc := 46) hC dX12_then_46 rfl ?_
          refine x_callV0 (As := []) (Bs := []) (pc := 47) hC (s_keeps E hk hw) wX12_184_12 pX12_keeps (by assumption) rfl rfl (by exact Nat.le_of_ble_eq_true rfl) hR (by decide) (by decide) (by decide) rfl dX12_then_47 ?_
          refine x_aload_n (pc := 50) hC dX12_then_50 rfl ?_
          refine x_iload_n (pc := 51) hC dX12_then_51 rfl ?_
          refine x_callV (As := [_]) (Bs := [_]) (pc := 52) hC (s_goesOn E hk hw (v := v) (by rw [sw_ne _ (by decide)]; exact hpl) (by omega) (by rw [sw_ne _ (by decide)]; omega)) wX12_181_12 pX12_goesOn (by assumption) rfl rfl (by exact Nat.le_of_ble_eq_true rfl) hR (by decide) (by decide) (by decide) rfl dX12_then_52 (fun r52 σ52 ρ52 ks52 q52 => ?_)
          obtain ⟨rfl, rfl, rfl, hsc, h47, h52⟩ := q52
          rw [sw_ne _ (by decide)] at h47
          obtain ⟨hp, h0, hout⟩ := play_pl hpl v.toNat (by omega)
          rw [← h47] at hp h0 hout
          have hsi := hp.2.1
          have h14 := hout 14 (by decide)
          have hgp := great_play hsi
          rw [h14] at hgp
          refine x_iload_n (pc := 55) hC dX12_then_55 rfl ?_
          refine x_if_ne (tgt := 66) (pc := 56) hC (by omega) dX12_then_56 (by decide) (fun c56 => ?_) (fun c56 => ?_)
          · refine x_iload_n (pc := 66) hC dX12_then_66 rfl ?_
            refine x_iconst (pc := 67) hC dX12_then_67 ?_
            refine x_icmp_ne (tgt := 78) (pc := 68) hC (by omega) (by omega) dX12_then_68 (by decide) (fun c68 => ?_) (fun c68 => ?_)
            · refine x_iload_n (pc := 78) hC dX12_then_78 rfl ?_
              refine x_bipush (pc := 79) hC dX12_then_79 (by decide +kernel) ?_
              refine x_icmp_ge (tgt := 98) (pc := 81) hC (by omega) (by omega) dX12_then_81 (by decide) (fun c81 => ?_) (fun c81 => ?_)
              · refine x_aload_n (pc := 98) hC dX12_then_98 rfl ?_
                refine x_getr (K := 14) (pc := 99) hC fX12_28_12 (by assumption) dX12_then_99 rfl rfl (by assumption) ?_
                refine x_iload_n (pc := 102) hC dX12_then_102 rfl ?_
                refine x_bipush (pc := 103) hC dX12_then_103 (by decide +kernel) ?_
                refine x_isub (pc := 105) hC dX12_then_105 ?_
                refine x_iald (pc := 106) hC (by assumption) (by omega) dX12_then_106 ?_
                refine x_istore_n (L' := [_, _, _, _]) (pc := 107) hC dX12_then_107 rfl rfl ?_
                refine x_aload_n (pc := 108) hC dX12_then_108 rfl ?_
                refine x_callV0 (As := []) (Bs := []) (pc := 109) hC (s_goesBack E hk hw) wX12_193_12 pX12_goesBack (by assumption) rfl rfl (by exact Nat.le_of_ble_eq_true rfl) hR (by decide) (by decide) (by decide) rfl dX12_then_109 ?_
                refine x_iload_n (pc := 112) hC dX12_then_112 rfl ?_
                refine x_ireturn hC hZ dX12_then_113 (by decide) (by decide) ?_
                exact ⟨congrArg (fun z => some (Value.int (iI z))) (by unfold thenF; rw [if_neg (by omega), if_neg (by omega), if_neg (by omega), if_neg (by omega), if_neg (by omega)]; rw [h52, sw_ne _ (by decide), sw_ne _ (by decide)]), back_ok hsc hout, rfl, rfl⟩
              · refine x_aload_n (pc := 84) hC dX12_then_84 rfl ?_
                refine x_getr (K := 1) (pc := 85) hC fX12_9_12 (by assumption) dX12_then_85 rfl rfl (by assumption) ?_
                refine x_iconst (pc := 88) hC dX12_then_88 ?_
                refine x_iload_n (pc := 89) hC dX12_then_89 rfl ?_
                refine x_iadd (pc := 90) hC dX12_then_90 ?_
                refine x_bipush (pc := 91) hC dX12_then_91 (by decide +kernel) ?_
                refine x_isub (pc := 93) hC dX12_then_93 ?_
                refine x_iald (pc := 94) hC (by assumption) (by omega) dX12_then_94 ?_
                refine x_goto (tgt := 107) (pc := 95) hC dX12_then_95 (by decide) ?_
                refine x_istore_n (L' := [_, _, _, _]) (pc := 107) hC dX12_then_107 rfl rfl ?_
                refine x_aload_n (pc := 108) hC dX12_then_108 rfl ?_
                refine x_callV0 (As := []) (Bs := []) (pc := 109) hC (s_goesBack E hk hw) wX12_193_12 pX12_goesBack (by assumption) rfl rfl (by exact Nat.le_of_ble_eq_true rfl) hR (by decide) (by decide) (by decide) rfl dX12_then_109 ?_
                refine x_iload_n (pc := 112) hC dX12_then_112 rfl ?_
                refine x_ireturn hC hZ dX12_then_113 (by decide) (by decide) ?_
                exact ⟨congrArg (fun z => some (Value.int (iI z))) (by unfold thenF; rw [if_neg (by omega), if_neg (by omega), if_neg (by omega), if_neg (by omega), if_pos (by omega)]; rw [h47]), back_ok hsc hout, rfl, rfl⟩
            · refine x_aload_n (pc := 71) hC dX12_then_71 rfl ?_
              refine x_callV1 (As := []) (Bs := []) (pc := 72) hC (s_allHeat E hk hw hsi) wX12_190_12 pX12_allHeat (by assumption) rfl rfl (by exact Nat.le_of_ble_eq_true rfl) hR (by decide) (by decide) (by decide) rfl dX12_then_72 ?_
              refine x_goto (tgt := 107) (pc := 75) hC dX12_then_75 (by decide) ?_
              refine x_istore_n (L' := [_, _, _, _]) (pc := 107) hC dX12_then_107 rfl rfl ?_
              refine x_aload_n (pc := 108) hC dX12_then_108 rfl ?_
              refine x_callV0 (As := []) (Bs := []) (pc := 109) hC (s_goesBack E hk hw) wX12_193_12 pX12_goesBack (by assumption) rfl rfl (by exact Nat.le_of_ble_eq_true rfl) hR (by decide) (by decide) (by decide) rfl dX12_then_109 ?_
              refine x_iload_n (pc := 112) hC dX12_then_112 rfl ?_
              refine x_ireturn hC hZ dX12_then_113 (by decide) (by decide) ?_
              exact ⟨congrArg (fun z => some (Value.int (iI z))) (by unfold thenF; rw [if_neg (by omega), if_neg (by omega), if_neg (by omega), if_pos (by omega)]; rw [h14, h47]), back_ok hsc hout, rfl, rfl⟩
          · refine x_aload_n (pc := 59) hC dX12_then_59 rfl ?_
            refine x_callV1 (As := []) (Bs := []) (pc := 60) hC (s_greatest E hk hw hsi) wX12_187_12 pX12_greatest (by assumption) rfl rfl (by exact Nat.le_of_ble_eq_true rfl) hR (by decide) (by decide) (by decide) rfl dX12_then_60 ?_
            refine x_goto (tgt := 107) (pc := 63) hC dX12_then_63 (by decide) ?_
            refine x_istore_n (L' := [_, _, _, _]) (pc := 107) hC dX12_then_107 rfl rfl ?_
            refine x_aload_n (pc := 108) hC dX12_then_108 rfl ?_
            refine x_callV0 (As := []) (Bs := []) (pc := 109) hC (s_goesBack E hk hw) wX12_193_12 pX12_goesBack (by assumption) rfl rfl (by exact Nat.le_of_ble_eq_true rfl) hR (by decide) (by decide) (by decide) rfl dX12_then_109 ?_
            refine x_iload_n (pc := 112) hC dX12_then_112 rfl ?_
            refine x_ireturn hC hZ dX12_then_113 (by decide) (by decide) ?_
            exact ⟨congrArg (fun z => some (Value.int (iI z))) (by unfold thenF; rw [if_neg (by omega), if_neg (by omega), if_pos (by omega)]; rw [h14, h47]), back_ok hsc hout, rfl, rfl⟩
        · refine x_bipush (pc := 43) hC dX12_then_43 (by decide +kernel) ?_
          refine x_ireturn hC hZ dX12_then_45 (by decide) (by decide) ?_
          exact ⟨congrArg (fun z => some (Value.int (iI z))) (by unfold thenF; rw [if_neg (by omega), if_pos (by omega)]), Ask.rf σ, rfl, rfl⟩
      · refine x_iconst (pc := 31) hC dX12_then_31 ?_
        refine x_ireturn hC hZ dX12_then_32 (by decide) (by decide) ?_
        exact ⟨congrArg (fun z => some (Value.int (iI z))) (by unfold thenF; exact (if_pos (by omega)).symm), Ask.rf σ, rfl, rfl⟩
