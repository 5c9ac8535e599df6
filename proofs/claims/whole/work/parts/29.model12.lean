def sqF (R : Nat → zS → Int × Int) (z : zS) : Nat → zS
  | 0 => z
  | n + 1 => secF (sqF R z n) (R n (sqF R z n)).1 (R n (sqF R z n)).2
theorem sq_pl (R : Nat → zS → Int × Int) {z : zS} (h : PlOk z) : ∀ n : Nat, z 0 + n < 900000 → PlOk (sqF R z n) ∧ sqF R z n 0 = z 0 + n ∧ ∀ j, (13 ≤ j ∨ j < 0) → sqF R z n j = z j
  | 0, _ => ⟨h, by simp [sqF], fun _ _ => rfl⟩
  | n + 1, hn => by
    obtain ⟨a, b, c⟩ := sq_pl R h n (by omega)
    refine ⟨sec_pl a _ _ (by rw [b]; omega), ?_, fun j hj => ?_⟩
    · show secF _ _ _ 0 = _
      rw [sec_0 _ a.2.1, b]; omega
    · show secF _ _ _ j = _
      rw [sec_out _ a.2.1 _ _ hj, c j hj]
def rndR (k : Int) : Nat → zS → Int × Int := fun i y => (bShl 1 (y (62 + (i : Int) / k % y 14)), 1)
def rbF (z : zS) (n : Nat) (k : Int) : Int := greatF (sqF (rndR k) z n) (z 14).toNat
theorem rb_in {z : zS} (h : PlOk z) (n : Nat) (k : Int) (hn : z 0 + n < 900000) : 0 ≤ rbF z n k ∧ rbF z n k ≤ 99 := by
  obtain ⟨a, b, c⟩ := sq_pl (rndR k) h n hn
  have g := great_play a.2.1
  rw [c 14 (by decide)] at g
  exact g.1
def roundA (z : zS) (n w : Int) : Int := if ¬ (0 ≤ w ∧ w ≤ 1) then -1 else if ¬ (1 ≤ n ∧ n ≤ 60) then -2 else if z 14 = 0 then -5 else if w = 0 then (mnF (rbF z n.toNat) (-5) 1000000 1 20).1 else (mnF (rbF z n.toNat) (-5) 1000000 1 20).2
set_option maxHeartbeats 4000000 in
set_option maxRecDepth 100000 in
theorem s_roundBy (E : xE) {σ : xM} {ρ : xR} {ks : xKs} (hk : MK ks) (hw : MW ρ) {q n : Int} (hpl : PlOk (σ 47)) (hq : 1 ≤ q ∧ q ≤ 20) (hn : 1 ≤ n ∧ n ≤ 60) (h14z : 0 < σ 47 14) (ht : σ 47 0 + 100 < 900000) : Sp E yX12_roundBy kX12_roundBy 5 0 0 [.ref 46, .int (iI q), .int (iI n)] σ ρ ks (fun r σ' ρ' ks' => r = some (.int (iI (rbF (σ 47) n.toNat q))) ∧ Ask σ σ' ∧ ρ' = ρ ∧ ks' = ks) := by
  obtain ⟨k46, k47, k48, k49, k50, k51, k52, k53, k54⟩ := id hk
  obtain ⟨w1, w2, w3, w10, w11, w14, w15, w16⟩ := id hw
  refine x_enter (own := RX12) (L := [_, _, _, _]) (by decide +kernel) rfl (by exact Nat.le_of_ble_eq_true rfl) rfl (fun p e R s m args below meth c Z hZ hC hR hin => ?_)
  have hs14 := hpl.2.1.1
  have loop : ∀ (i k : Nat) (j : Int) (μ : xM), j = k → i + k = n.toNat → Sc (sw σ 49 (cp49 σ 13)) μ → μ 47 = sqF (rndR q) (σ 47) k → X E p e R s m args below meth c Z 0 0 μ ρ ks 6 [some (.ref 46), some (.int (iI q)), some (.int (iI n)), some (.int (iI j))] [] := by
    intro i
    induction i with
    | zero =>
      intro k j μ hj hi hsc h47
      obtain ⟨hp, h0, hout⟩ := sq_pl (rndR q) hpl k (by omega)
      rw [← h47] at hp h0 hout
      obtain ⟨g1, g2, g3, g4⟩ := id hp
      have h14 := hout 14 (by decide)
      refine x_iload_n (pc := 6) hC dX12_roundBy_6 rfl ?_
      refine x_iload_n (pc := 7) hC dX12_roundBy_7 rfl ?_
      refine x_icmp_ge (tgt := 43) (pc := 8) hC (by omega) (by omega) dX12_roundBy_8 (by decide) (fun c8 => ?_) (fun c8 => by (exfalso; omega))
      refine x_aload_n (pc := 43) hC dX12_roundBy_43 rfl ?_
      refine x_callV1 (As := []) (Bs := []) (pc := 44) hC (s_greatest E hk hw g2) wX12_187_12 pX12_greatest (by assumption) rfl rfl (by exact Nat.le_of_ble_eq_true rfl) hR (by decide) (by decide) (by decide) rfl dX12_roundBy_44 ?_
      refine x_istore_n (L' := [_, _, _, _]) (pc := 47) hC dX12_roundBy_47 rfl rfl ?_
      refine x_aload_n (pc := 48) hC dX12_roundBy_48 rfl ?_
      refine x_callV0 (As := []) (Bs := []) (pc := 49) hC (s_goesBack E hk hw) wX12_193_12 pX12_goesBack (by assumption) rfl rfl (by exact Nat.le_of_ble_eq_true rfl) hR (by decide) (by decide) (by decide) rfl dX12_roundBy_49 ?_
      refine x_iload_n (pc := 52) hC dX12_roundBy_52 rfl ?_
      refine x_ireturn hC hZ dX12_roundBy_53 (by decide) (by decide) ?_
      exact ⟨congrArg (fun z => some (Value.int (iI z))) (by rw [h14, h47, show k = n.toNat by omega]; rfl), back_ok hsc hout, rfl, rfl⟩
    | succ i ih =>
      intro k j μ hj hi hsc h47
      obtain ⟨hp, h0, hout⟩ := sq_pl (rndR q) hpl k (by omega)
      rw [← h47] at hp h0 hout
      obtain ⟨g1, g2, g3, g4⟩ := id hp
      have h14 := hout 14 (by decide)
      have hd := tdiv_lt (t := j) (d := q) (by omega) (by omega)
      have hm := emod_in (t := j / q) (d := μ 47 14) (by omega)
      have hsp := (g2.2 (j / q % μ 47 14) hm.1 (by omega)).1
      refine x_iload_n (pc := 6) hC dX12_roundBy_6 rfl ?_
      refine x_iload_n (pc := 7) hC dX12_roundBy_7 rfl ?_
      refine x_icmp_ge (tgt := 43) (pc := 8) hC (by omega) (by omega) dX12_roundBy_8 (by decide) (fun c8 => by (exfalso; omega)) (fun c8 => ?_)
      refine x_aload_n (pc := 11) hC dX12_roundBy_11 rfl ?_
      refine x_iconst (pc := 12) hC dX12_roundBy_12 ?_
      refine x_aload_n (pc := 13) hC dX12_roundBy_13 rfl ?_
      refine x_getr (K := 1) (pc := 14) hC fX12_9_12 (by assumption) dX12_roundBy_14 rfl rfl (by assumption) ?_
      refine x_bipush (pc := 17) hC dX12_roundBy_17 (by decide +kernel) ?_
      refine x_iload_n (pc := 19) hC dX12_roundBy_19 rfl ?_
      refine x_iload_n (pc := 20) hC dX12_roundBy_20 rfl ?_
      refine x_idiv (pc := 21) hC (by omega) dX12_roundBy_21 ?_
      refine x_aload_n (pc := 22) hC dX12_roundBy_22 rfl ?_
      refine x_getr (K := 1) (pc := 23) hC fX12_9_12 (by assumption) dX12_roundBy_23 rfl rfl (by assumption) ?_
      refine x_bipush (pc := 26) hC dX12_roundBy_26 (by decide +kernel) ?_
      refine x_iald (pc := 28) hC (by assumption) (by omega) dX12_roundBy_28 ?_
      refine x_irem (pc := 29) hC (by omega) dX12_roundBy_29 ?_
      refine x_iadd (pc := 30) hC dX12_roundBy_30 ?_
      refine x_iald (pc := 31) hC (by assumption) (by omega) dX12_roundBy_31 ?_
      refine x_ishl (pc := 32) hC dX12_roundBy_32 ?_
      refine x_iconst (pc := 33) hC dX12_roundBy_33 ?_
      refine x_callV (As := [_, _]) (Bs := [_, _]) (pc := 34) hC (s_goes E hk hw g3 g2 (by omega) (by omega)) wX12_177_12 pX12_goes (by assumption) rfl rfl (by exact Nat.le_of_ble_eq_true rfl) hR (by decide) (by decide) (by decide) rfl dX12_roundBy_34 (fun r34 σ34 ρ34 ks34 q34 => ?_)
      obtain ⟨rfl, rfl, rfl, q1, q2, q3⟩ := q34
      refine x_iinc (L' := [_, _, _, _]) (pc := 37) hC dX12_roundBy_37 rfl rfl rfl ?_
      refine x_goto (tgt := 6) (pc := 40) hC dX12_roundBy_40 (by decide) ?_
      refine ih (k + 1) (j + 1) _ (by omega) (by omega) (hsc.trans q1) ?_
      rw [q2, hj, h47]; rfl
  refine x_aload_n (pc := 0) hC dX12_roundBy_0 rfl ?_
  refine x_callV0 (As := []) (Bs := []) (pc := 1) hC (s_keeps E hk hw) wX12_184_12 pX12_keeps (by assumption) rfl rfl (by exact Nat.le_of_ble_eq_true rfl) hR (by decide) (by decide) (by decide) rfl dX12_roundBy_1 ?_
  refine x_iconst (pc := 4) hC dX12_roundBy_4 ?_
  refine x_istore_n (L' := [_, _, _, _]) (pc := 5) hC dX12_roundBy_5 rfl rfl ?_
  exact loop n.toNat 0 0 _ rfl (by omega) (Sc.rf _) (sw_ne _ (by decide) _)

theorem mnF_nb {g : Int → Int} {b l k0 : Int} (h : ∀ k : Nat, g (k0 + k) < l) (hb : b < k0) : ∀ n : Nat, (mnF g b l k0 (n + 1)).1 ≠ b
  | 0 => by
    have h0 := h 0
    rw [mnF_s, if_pos (show _ < (mnF g b l k0 0).2 from h0)]
    show k0 + ((0 : Nat) : Int) ≠ b; omega
  | n + 1 => by
    rw [mnF_s]; split
    · show k0 + ((n + 1 : Nat) : Int) ≠ b; omega
    · exact mnF_nb h hb n
set_option maxHeartbeats 4000000 in
set_option maxRecDepth 100000 in
theorem s_round (E : xE) {σ : xM} {ρ : xR} {ks : xKs} (hk : MK ks) (hw : MW ρ) {n w : Int} (hn0 : rg n) (hw0 : rg w) (hpl : PlOk (σ 47)) (ht : σ 47 0 + 100 < 900000) : Sp E yX12_round kX12_round 6 0 0 [.ref 46, .int (iI n), .int (iI w)] σ ρ ks (fun r σ' ρ' ks' => r = some (.int (iI (roundA (σ 47) n w))) ∧ Ask σ σ' ∧ ρ' = ρ ∧ ks' = ks) := by
  obtain ⟨k46, k47, k48, k49, k50, k51, k52, k53, k54⟩ := id hk
  obtain ⟨w1, w2, w3, w10, w11, w14, w15, w16⟩ := id hw
  refine x_enter (own := RX12) (L := [_, _, _, _, _, _, _]) (by decide +kernel) rfl (by exact Nat.le_of_ble_eq_true rfl) rfl (fun p e R s m args below meth c Z hZ hC hR hin => ?_)
  have hs14 := hpl.2.1.1
  have loop : (0 ≤ w ∧ w ≤ 1) → (1 ≤ n ∧ n ≤ 60) → 0 < σ 47 14 → ∀ (i k : Nat) (j bb ll : Int) (μ : xM), j = k + 1 → i + k = 20 → Ask σ μ → ((k = 0 ∧ bb = -5 ∧ ll = -5) ∨ (1 ≤ k ∧ (bb, ll) = mnF (rbF (σ 47) n.toNat) (-5) 1000000 1 k)) → X E p e R s m args below meth c Z 0 0 μ ρ ks 34 [some (.ref 46), some (.int (iI n)), some (.int (iI w)), some (.int (iI bb)), some (.int (iI ll)), some (.int (iI j)), none] [] := by
    intro hw1 hn1 h14z i
    induction i with
    | zero =>
      intro k j bb ll μ hj hi hask hbl
      have hk20 : k = 20 := by omega
      subst hk20
      have hbl : (bb, ll) = mnF (rbF (σ 47) n.toNat) (-5) 1000000 1 20 := by
        rcases hbl with h | h
        · exfalso; omega
        · exact h.2
      refine x_iload (pc := 34) hC dX12_round_34 rfl ?_
      refine x_bipush (pc := 36) hC dX12_round_36 (by decide +kernel) ?_
      refine x_icmp_gt (tgt := 109) (pc := 38) hC (by omega) (by omega) dX12_round_38 (by decide) (fun c38 => ?_) (fun c38 => by (exfalso; omega))
      refine x_iload_n (pc := 109) hC dX12_round_109 rfl ?_
      refine x_if_ne (tgt := 117) (pc := 110) hC (by omega) dX12_round_110 (by decide) (fun c110 => ?_) (fun c110 => ?_)
      · refine x_iload (pc := 117) hC dX12_round_117 rfl ?_
        refine x_ireturn hC hZ dX12_round_119 (by decide) (by decide) ?_
        exact ⟨congrArg (fun z => some (Value.int (iI z))) (by rw [roundA, if_neg (by omega), if_neg (by omega), if_neg (by omega), if_neg (by omega), ← hbl]), hask, rfl, rfl⟩
      · refine x_iload_n (pc := 113) hC dX12_round_113 rfl ?_
        refine x_goto (tgt := 119) (pc := 114) hC dX12_round_114 (by decide) ?_
        refine x_ireturn hC hZ dX12_round_119 (by decide) (by decide) ?_
        exact ⟨congrArg (fun z => some (Value.int (iI z))) (by rw [roundA, if_neg (by omega), if_neg (by omega), if_neg (by omega), if_pos (by omega), ← hbl]), hask, rfl, rfl⟩
    | succ i ih =>
      intro k j bb ll μ hj hi hask hbl
      have hs := hask.s
      have h14m : μ 47 14 = σ 47 14 := congrFun hs 14
      have hpm : PlOk (μ 47) := by rw [hs]; exact hpl
      have hrb := rb_in hpl n.toNat j (by omega)
      have hst : (k = 0 ∧ bb = -5 ∧ ll = -5) ∨ (1 ≤ k ∧ 1 ≤ bb ∧ bb ≤ k ∧ 0 ≤ ll ∧ ll ≤ 1000000) := by
        rcases hbl with h | h
        · exact Or.inl h
        · have hl1 := mnF_le (rbF (σ 47) n.toNat) (-5) 1000000 1 k
          have hl2 := mnF_ge (g := (rbF (σ 47) n.toNat)) (b := -5) (l := 1000000) (k0 := 1) (N := k) (M := 0) (by decide) (fun x hx => (rb_in hpl n.toNat _ (by omega)).1) k (Nat.le_refl _)
          have hb := mnF_b (g := (rbF (σ 47) n.toNat)) (b := -5) (l := 1000000) (k0 := 1) k
          have hb2 : (mnF (rbF (σ 47) n.toNat) (-5) 1000000 1 k).1 ≠ -5 := by
            obtain ⟨k', rfl⟩ : ∃ k', k = k' + 1 := ⟨k - 1, by omega⟩
            exact mnF_nb (fun x => by have := rb_in hpl n.toNat (1 + (x : Int)) (by omega); omega) (by omega) k'
          rw [← h.2] at hl1 hl2 hb hb2
          simp only at hl1 hl2 hb hb2
          exact Or.inr ⟨h.1, by omega, by omega, by omega, by omega⟩
      refine x_iload (pc := 34) hC dX12_round_34 rfl ?_
      refine x_bipush (pc := 36) hC dX12_round_36 (by decide +kernel) ?_
      refine x_icmp_gt (tgt := 109) (pc := 38) hC (by omega) (by omega) dX12_round_38 (by decide) (fun c38 => by (exfalso; omega)) (fun c38 => ?_)
      refine x_aload_n (pc := 41) hC dX12_round_41 rfl ?_
      refine x_getr (K := 1) (pc := 42) hC fX12_9_12 (by assumption) dX12_round_42 rfl rfl (by assumption) ?_
      refine x_bipush (pc := 45) hC dX12_round_45 (by decide +kernel) ?_
      refine x_iald (pc := 47) hC (by assumption) (by omega) dX12_round_47 ?_
      refine x_if_le (tgt := 109) (pc := 48) hC (by omega) dX12_round_48 (by decide) (fun c48 => by (exfalso; omega)) (fun c48 => ?_)
      refine x_aload_n (pc := 51) hC dX12_round_51 rfl ?_
      refine x_iload (pc := 52) hC dX12_round_52 rfl ?_
      refine x_iload_n (pc := 54) hC dX12_round_54 rfl ?_
      refine x_callV (As := [_, _]) (Bs := [_, _]) (pc := 55) hC (s_roundBy E hk hw hpm (by omega) (by omega) (by omega) (by rw [hs]; omega)) wX12_209_12 pX12_roundBy (by assumption) rfl rfl (by exact Nat.le_of_ble_eq_true rfl) hR (by decide) (by decide) (by decide) rfl dX12_round_55 (fun r55 σ55 ρ55 ks55 q55 => ?_)
      obtain ⟨rfl, ha, rfl, rfl⟩ := q55
      rw [hs]
      refine x_istore (L' := [_, _, _, _, _, _, _]) (pc := 58) hC dX12_round_58 rfl rfl ?_
      refine x_iload_n (pc := 60) hC dX12_round_60 rfl ?_
      refine x_bipush (pc := 61) hC dX12_round_61 (by decide +kernel) ?_
      refine x_icmp_eq (tgt := 73) (pc := 63) hC (by omega) (by omega) dX12_round_63 (by decide) (fun c63 => ?_) (fun c63 => ?_)
      · refine x_iload (pc := 73) hC dX12_round_73 rfl ?_
        refine x_goto (tgt := 79) (pc := 75) hC dX12_round_75 (by decide) ?_
        refine x_istore_n (L' := [_, _, _, _, _, _, _]) (pc := 79) hC dX12_round_79 rfl rfl ?_
        refine x_iload (pc := 80) hC dX12_round_80 rfl ?_
        refine x_bipush (pc := 82) hC dX12_round_82 (by decide +kernel) ?_
        refine x_icmp_eq (tgt := 94) (pc := 84) hC (by omega) (by omega) dX12_round_84 (by decide) (fun c84 => ?_) (fun c84 => ?_)
        · refine x_iload (pc := 94) hC dX12_round_94 rfl ?_
          refine x_goto (tgt := 101) (pc := 96) hC dX12_round_96 (by decide) ?_
          refine x_istore (L' := [_, _, _, _, _, _, _]) (pc := 101) hC dX12_round_101 rfl rfl ?_
          refine x_iinc (L' := [_, _, _, _, _, _, _]) (pc := 103) hC dX12_round_103 rfl rfl rfl ?_
          refine x_goto (tgt := 34) (pc := 106) hC dX12_round_106 (by decide) ?_
          refine X.drop (xLe_s (xLe_s (xLe_s (xLe_s (xLe_s (xLe_s (xLe_n xLe_0))))))) (ih (k + 1) (j + 1) _ _ _ (by omega) (by omega) (hask.trans ha) ?_)
          exact Or.inr ⟨by omega, by rw [mnF_s, show k = 0 by omega, show (1 : Int) + ((0 : Nat) : Int) = j by omega]; exact (if_pos (show _ < (1000000 : Int) by omega)).symm⟩
        · refine x_iload (pc := 87) hC dX12_round_87 rfl ?_
          refine x_iload (pc := 89) hC dX12_round_89 rfl ?_
          refine x_icmp_ge (tgt := 99) (pc := 91) hC (by omega) (by omega) dX12_round_91 (by decide) (fun c91 => ?_) (fun c91 => ?_)
          · refine x_iload (pc := 99) hC dX12_round_99 rfl ?_
            refine x_istore (L' := [_, _, _, _, _, _, _]) (pc := 101) hC dX12_round_101 rfl rfl ?_
            refine x_iinc (L' := [_, _, _, _, _, _, _]) (pc := 103) hC dX12_round_103 rfl rfl rfl ?_
            refine x_goto (tgt := 34) (pc := 106) hC dX12_round_106 (by decide) ?_
            exfalso
            omega
          · refine x_iload (pc := 94) hC dX12_round_94 rfl ?_
            refine x_goto (tgt := 101) (pc := 96) hC dX12_round_96 (by decide) ?_
            refine x_istore (L' := [_, _, _, _, _, _, _]) (pc := 101) hC dX12_round_101 rfl rfl ?_
            refine x_iinc (L' := [_, _, _, _, _, _, _]) (pc := 103) hC dX12_round_103 rfl rfl rfl ?_
            refine x_goto (tgt := 34) (pc := 106) hC dX12_round_106 (by decide) ?_
            exfalso
            omega
      · refine x_iload (pc := 66) hC dX12_round_66 rfl ?_
        refine x_iload (pc := 68) hC dX12_round_68 rfl ?_
        refine x_icmp_ge (tgt := 78) (pc := 70) hC (by omega) (by omega) dX12_round_70 (by decide) (fun c70 => ?_) (fun c70 => ?_)
        · refine x_iload_n (pc := 78) hC dX12_round_78 rfl ?_
          refine x_istore_n (L' := [_, _, _, _, _, _, _]) (pc := 79) hC dX12_round_79 rfl rfl ?_
          refine x_iload (pc := 80) hC dX12_round_80 rfl ?_
          refine x_bipush (pc := 82) hC dX12_round_82 (by decide +kernel) ?_
          refine x_icmp_eq (tgt := 94) (pc := 84) hC (by omega) (by omega) dX12_round_84 (by decide) (fun c84 => ?_) (fun c84 => ?_)
          · refine x_iload (pc := 94) hC dX12_round_94 rfl ?_
            refine x_goto (tgt := 101) (pc := 96) hC dX12_round_96 (by decide) ?_
            refine x_istore (L' := [_, _, _, _, _, _, _]) (pc := 101) hC dX12_round_101 rfl rfl ?_
            refine x_iinc (L' := [_, _, _, _, _, _, _]) (pc := 103) hC dX12_round_103 rfl rfl rfl ?_
            refine x_goto (tgt := 34) (pc := 106) hC dX12_round_106 (by decide) ?_
            exfalso
            omega
          · refine x_iload (pc := 87) hC dX12_round_87 rfl ?_
            refine x_iload (pc := 89) hC dX12_round_89 rfl ?_
            refine x_icmp_ge (tgt := 99) (pc := 91) hC (by omega) (by omega) dX12_round_91 (by decide) (fun c91 => ?_) (fun c91 => ?_)
            · refine x_iload (pc := 99) hC dX12_round_99 rfl ?_
              refine x_istore (L' := [_, _, _, _, _, _, _]) (pc := 101) hC dX12_round_101 rfl rfl ?_
              refine x_iinc (L' := [_, _, _, _, _, _, _]) (pc := 103) hC dX12_round_103 rfl rfl rfl ?_
              refine x_goto (tgt := 34) (pc := 106) hC dX12_round_106 (by decide) ?_
              refine X.drop (xLe_s (xLe_s (xLe_s (xLe_s (xLe_s (xLe_s (xLe_n xLe_0))))))) (ih (k + 1) (j + 1) _ _ _ (by omega) (by omega) (hask.trans ha) ?_)
              refine Or.inr ⟨by omega, ?_⟩
              rw [mnF_s]
              rcases hbl with hbl | hbl
              · exfalso; omega
              · rw [← hbl.2, show (1 : Int) + k = j by omega]
                rw [if_neg (by omega)]
            · refine x_iload (pc := 94) hC dX12_round_94 rfl ?_
              refine x_goto (tgt := 101) (pc := 96) hC dX12_round_96 (by decide) ?_
              refine x_istore (L' := [_, _, _, _, _, _, _]) (pc := 101) hC dX12_round_101 rfl rfl ?_
              refine x_iinc (L' := [_, _, _, _, _, _, _]) (pc := 103) hC dX12_round_103 rfl rfl rfl ?_
              refine x_goto (tgt := 34) (pc := 106) hC dX12_round_106 (by decide) ?_
              exfalso
              omega
        · refine x_iload (pc := 73) hC dX12_round_73 rfl ?_
          refine x_goto (tgt := 79) (pc := 75) hC dX12_round_75 (by decide) ?_
          refine x_istore_n (L' := [_, _, _, _, _, _, _]) (pc := 79) hC dX12_round_79 rfl rfl ?_
          refine x_iload (pc := 80) hC dX12_round_80 rfl ?_
          refine x_bipush (pc := 82) hC dX12_round_82 (by decide +kernel) ?_
          refine x_icmp_eq (tgt := 94) (pc := 84) hC (by omega) (by omega) dX12_round_84 (by decide) (fun c84 => ?_) (fun c84 => ?_)
          · refine x_iload (pc := 94) hC dX12_round_94 rfl ?_
            refine x_goto (tgt := 101) (pc := 96) hC dX12_round_96 (by decide) ?_
            refine x_istore (L' := [_, _, _, _, _, _, _]) (pc := 101) hC dX12_round_101 rfl rfl ?_
            refine x_iinc (L' := [_, _, _, _, _, _, _]) (pc := 103) hC dX12_round_103 rfl rfl rfl ?_
            refine x_goto (tgt := 34) (pc := 106) hC dX12_round_106 (by decide) ?_
            exfalso
            omega
          · refine x_iload (pc := 87) hC dX12_round_87 rfl ?_
            refine x_iload (pc := 89) hC dX12_round_89 rfl ?_
            refine x_icmp_ge (tgt := 99) (pc := 91) hC (by omega) (by omega) dX12_round_91 (by decide) (fun c91 => ?_) (fun c91 => ?_)
            · refine x_iload (pc := 99) hC dX12_round_99 rfl ?_
              refine x_istore (L' := [_, _, _, _, _, _, _]) (pc := 101) hC dX12_round_101 rfl rfl ?_
              refine x_iinc (L' := [_, _, _, _, _, _, _]) (pc := 103) hC dX12_round_103 rfl rfl rfl ?_
              refine x_goto (tgt := 34) (pc := 106) hC dX12_round_106 (by decide) ?_
              exfalso
              omega
            · refine x_iload (pc := 94) hC dX12_round_94 rfl ?_
              refine x_goto (tgt := 101) (pc := 96) hC dX12_round_96 (by decide) ?_
              refine x_istore (L' := [_, _, _, _, _, _, _]) (pc := 101) hC dX12_round_101 rfl rfl ?_
              refine x_iinc (L' := [_, _, _, _, _, _, _]) (pc := 103) hC dX12_round_103 rfl rfl rfl ?_
              refine x_goto (tgt := 34) (pc := 106) hC dX12_round_106 (by decide) ?_
              refine X.drop (xLe_s (xLe_s (xLe_s (xLe_s (xLe_s (xLe_s (xLe_n xLe_0))))))) (ih (k + 1) (j + 1) _ _ _ (by omega) (by omega) (hask.trans ha) ?_)
              refine Or.inr ⟨by omega, ?_⟩
              rw [mnF_s]
              rcases hbl with hbl | hbl
              · exfalso; omega
              · rw [← hbl.2, show (1 : Int) + k = j by omega]
                rw [if_pos (by omega)]
  refine x_iload_n (pc := 0) hC dX12_round_0 rfl ?_
  refine x_iconst (pc := 1) hC dX12_round_1 ?_
  refine x_iconst (pc := 2) hC dX12_round_2 ?_
  refine x_callS1 (As := [_, _, _]) (Bs := [_, _, _]) (pc := 3) hC (s_in E (by omega) (by omega) (by omega)) wX12_41 pX12_in rfl rfl (by exact Nat.le_of_ble_eq_true rfl) hR (by decide) (by decide) (by decide) rfl dX12_round_3 ?_
  refine x_ifB_ne (tgt := 11) (pc := 6) hC  dX12_round_6 (by decide) (fun c6 => ?_) (fun c6 => ?_)
  · refine x_iload_n (pc := 11) hC dX12_round_11 rfl ?_
    refine x_iconst (pc := 12) hC dX12_round_12 ?_
    refine x_bipush (pc := 13) hC dX12_round_13 (by decide +kernel) ?_
    refine x_callS1 (As := [_, _, _]) (Bs := [_, _, _]) (pc := 15) hC (s_in E (by omega) (by omega) (by omega)) wX12_41 pX12_in rfl rfl (by exact Nat.le_of_ble_eq_true rfl) hR (by decide) (by decide) (by decide) rfl dX12_round_15 ?_
    refine x_ifB_ne (tgt := 24) (pc := 18) hC  dX12_round_18 (by decide) (fun c18 => ?_) (fun c18 => ?_)
    · refine x_bipush (pc := 24) hC dX12_round_24 (by decide +kernel) ?_
      refine x_istore_n (L' := [_, _, _, _, _, _, _]) (pc := 26) hC dX12_round_26 rfl rfl ?_
      refine x_bipush (pc := 27) hC dX12_round_27 (by decide +kernel) ?_
      refine x_istore (L' := [_, _, _, _, _, _, _]) (pc := 29) hC dX12_round_29 rfl rfl ?_
      refine x_iconst (pc := 31) hC dX12_round_31 ?_
      refine x_istore (L' := [_, _, _, _, _, _, _]) (pc := 32) hC dX12_round_32 rfl rfl ?_
      by_cases h14z : 0 < σ 47 14
      · exact X.drop (xLe_s (xLe_s (xLe_s (xLe_s (xLe_s (xLe_s (xLe_n xLe_0))))))) (loop (by omega) (by omega) h14z 20 0 1 _ _ σ rfl rfl (Ask.rf σ) (Or.inl ⟨rfl, rfl, rfl⟩))
      · skip
        refine x_iload (pc := 34) hC dX12_round_34 rfl ?_
        refine x_bipush (pc := 36) hC dX12_round_36 (by decide +kernel) ?_
        refine x_icmp_gt (tgt := 109) (pc := 38) hC (by omega) (by omega) dX12_round_38 (by decide) (fun c38 => by (exfalso; revert c38; decide)) (fun c38 => ?_)
        refine x_aload_n (pc := 41) hC dX12_round_41 rfl ?_
        refine x_getr (K := 1) (pc := 42) hC fX12_9_12 (by assumption) dX12_round_42 rfl rfl (by assumption) ?_
        refine x_bipush (pc := 45) hC dX12_round_45 (by decide +kernel) ?_
        refine x_iald (pc := 47) hC (by assumption) (by omega) dX12_round_47 ?_
        refine x_if_le (tgt := 109) (pc := 48) hC (by omega) dX12_round_48 (by decide) (fun c48 => ?_) (fun c48 => by (exfalso; omega))
        refine x_iload_n (pc := 109) hC dX12_round_109 rfl ?_
        refine x_if_ne (tgt := 117) (pc := 110) hC (by omega) dX12_round_110 (by decide) (fun c110 => ?_) (fun c110 => ?_)
        · refine x_iload (pc := 117) hC dX12_round_117 rfl ?_
          refine x_ireturn hC hZ dX12_round_119 (by decide) (by decide) ?_
          exact ⟨congrArg (fun z => some (Value.int (iI z))) (by rw [roundA, if_neg (by omega), if_neg (by omega), if_pos (by omega)]), Ask.rf σ, rfl, rfl⟩
        · refine x_iload_n (pc := 113) hC dX12_round_113 rfl ?_
          refine x_goto (tgt := 119) (pc := 114) hC dX12_round_114 (by decide) ?_
          refine x_ireturn hC hZ dX12_round_119 (by decide) (by decide) ?_
          exact ⟨congrArg (fun z => some (Value.int (iI z))) (by rw [roundA, if_neg (by omega), if_neg (by omega), if_pos (by omega)]), Ask.rf σ, rfl, rfl⟩
    · refine x_bipush (pc := 21) hC dX12_round_21 (by decide +kernel) ?_
      refine x_ireturn hC hZ dX12_round_23 (by decide) (by decide) ?_
      exact ⟨congrArg (fun z => some (Value.int (iI z))) (by rw [roundA, if_neg (by omega), if_pos (by omega)]), Ask.rf σ, rfl, rfl⟩
  · refine x_iconst (pc := 9) hC dX12_round_9 ?_
    refine x_ireturn hC hZ dX12_round_10 (by decide) (by decide) ?_
    exact ⟨congrArg (fun z => some (Value.int (iI z))) (by rw [roundA, if_pos (by omega)]), Ask.rf σ, rfl, rfl⟩
