set_option maxHeartbeats 4000000 in
set_option maxRecDepth 100000 in
theorem c_meetings (E : xE) {σ : xM} {ρ : xR} {ks : xKs} (hw : WK ks ρ) {z : zS} (hz : HZ σ ρ ks 1 z) (hpl : PlOk z) {y : Nat} {f : Int} (hfa : FanAt σ ρ ks y f z) (hff : 0 ≤ f ∧ f < z 13) {y2 : Nat} {f2 : Int} (hfa2 : FanAt σ ρ ks y2 f2 z) (hff2 : 0 ≤ f2 ∧ f2 < z 13) {n l : Int} (hn : 0 ≤ n ∧ n ≤ 60) (hl : 0 ≤ l ∧ l ≤ 30) : Sp E yX11_meetings kX11_meetings 2 0 0 [.ref 0, .ref y, .ref y2, .int (iI n), .int (iI l)] σ ρ ks (Fn (some (.int (iI (mtF z f f2 l n.toNat)))) σ ρ ks) := by
  obtain ⟨w0, w43, ⟨wr0, wr1, wr3, wr4, wr5⟩, wh, wk, wn, wt⟩ := id hw
  have hk := wh.hk
  obtain ⟨k1, k2, r0, r2, hs3⟩ := id hk
  have hfs := hz.fans
  have hsz := hz.sit
  obtain ⟨⟨hz1, -⟩, -, ⟨rq, hrq, hrq2, hrm⟩, hz4, ⟨hz6, -⟩, hz7, hz8, ⟨hz10, -⟩, ⟨hz12, -⟩, ⟨hz14, -⟩⟩ := id hz
  have hfan := hpl.1
  have hsit := hpl.2.1
  have h13 := hpl.1.1
  have h14 := hpl.2.1.1
  have hz00 := hpl.2.2.2
  obtain ⟨n0, ⟨n1, n2, n3, n4, n5⟩, m0, m1, m2, m3, m4⟩ := id wn
  have hfo := hfan.2 f hff.1 hff.2
  have hy0 := hfa.1
  have hf4 : 0 ≤ f ∧ f < 4 := ⟨hff.1, by omega⟩
  have hfo2 := hfan.2 f2 hff2.1 hff2.2
  have hy02 := hfa2.1
  have hf42 : 0 ≤ f2 ∧ f2 < 4 := ⟨hff2.1, by omega⟩
  refine x_enter (own := RX11) (L := [_, _, _, _, _, _, _, _]) (by decide +kernel) rfl (by exact Nat.le_of_ble_eq_true rfl) rfl (fun p e R s m args below meth c Z hZ hC hR hin => ?_)
  have loop : ∀ (i k : Nat) (j a : Int), j = k → (k : Int) + i = n → a = mtF z f f2 l k → (0 ≤ a ∧ a ≤ k) → X E p e R s m args below meth c Z 0 0 σ ρ ks 6 [some (.ref 0), some (.ref y), some (.ref y2), some (.int (iI n)), some (.int (iI l)), some (.int (iI a)), some (.int (iI j)), none] [] := by
    intro i
    induction i with
    | zero =>
      intro k j a hj hi ha har
      refine x_iload (pc := 6) hC dX11_meetings_6 rfl ?_
      refine x_iload_n (pc := 8) hC dX11_meetings_8 rfl ?_
      refine x_icmp_ge (tgt := 65) (pc := 9) hC (by omega) (by omega) dX11_meetings_9 (by decide) (fun c9 => ?_) (fun c9 => by (exfalso; omega))
      refine x_iload (pc := 65) hC dX11_meetings_65 rfl ?_
      refine x_ireturn hC hZ dX11_meetings_67 (by decide) (by decide) ?_
      refine ⟨congrArg (fun z => some (Value.int (iI z))) ?_, rfl, rfl, rfl⟩
      rw [ha, show n.toNat = k by omega]
    | succ i ih =>
      intro k j a hj hi ha har
      refine x_iload (pc := 6) hC dX11_meetings_6 rfl ?_
      refine x_iload_n (pc := 8) hC dX11_meetings_8 rfl ?_
      refine x_icmp_ge (tgt := 65) (pc := 9) hC (by omega) (by omega) dX11_meetings_9 (by decide) (fun c9 => by (exfalso; omega)) (fun c9 => ?_)
      refine x_aload_n (pc := 12) hC dX11_meetings_12 rfl ?_
      refine x_getr (K := 0) (pc := 13) hC fX11_12_11 (by assumption) dX11_meetings_13 rfl rfl (by assumption) ?_
      refine x_geti (K := 7) (pc := 16) hC fX11_105_1 (by assumption) dX11_meetings_16 rfl rfl ?_
      rw [hz7]
      refine x_iload (pc := 19) hC dX11_meetings_19 rfl ?_
      refine x_iadd (pc := 21) hC dX11_meetings_21 ?_
      refine x_istore (L' := [_, _, _, _, _, _, _, _]) (pc := 22) hC dX11_meetings_22 rfl rfl ?_
      refine x_aload_n (pc := 24) hC dX11_meetings_24 rfl ?_
      refine x_iload (pc := 25) hC dX11_meetings_25 rfl ?_
      refine x_aload_n (pc := 27) hC dX11_meetings_27 rfl ?_
      refine x_getr (K := 0) (pc := 28) hC fX11_12_11 (by assumption) dX11_meetings_28 rfl rfl (by assumption) ?_
      refine x_getr (K := 2) (pc := 31) hC fX11_108_1 (by assumption) dX11_meetings_31 rfl rfl (by assumption) ?_
      refine x_fanX11_111 (pc := 34) hC hfa hfo hf4 hs3 hsz hsit ⟨by omega, by omega⟩ hR (by decide) (by exact Nat.le_of_ble_eq_true rfl) (by decide) rfl dX11_meetings_34 ?_
      refine x_aload_n (pc := 37) hC dX11_meetings_37 rfl ?_
      refine x_iload (pc := 38) hC dX11_meetings_38 rfl ?_
      refine x_iload (pc := 40) hC dX11_meetings_40 rfl ?_
      refine x_iadd (pc := 42) hC dX11_meetings_42 ?_
      refine x_aload_n (pc := 43) hC dX11_meetings_43 rfl ?_
      refine x_getr (K := 0) (pc := 44) hC fX11_12_11 (by assumption) dX11_meetings_44 rfl rfl (by assumption) ?_
      refine x_getr (K := 2) (pc := 47) hC fX11_108_1 (by assumption) dX11_meetings_47 rfl rfl (by assumption) ?_
      refine x_fanX11_111 (pc := 50) hC hfa2 hfo2 hf42 hs3 hsz hsit ⟨by omega, by omega⟩ hR (by decide) (by exact Nat.le_of_ble_eq_true rfl) (by decide) rfl dX11_meetings_50 ?_
      have ia := isAt_in (t := z 0 + j) hfo hsit (by omega)
      have ib := isAt_in (t := z 0 + j + l) hfo2 hsit (by omega)
      refine x_icmp_ne (tgt := 59) (pc := 53) hC (by omega) (by omega) dX11_meetings_53 (by decide) (fun c53 => ?_) (fun c53 => ?_)
      · refine x_iinc (L' := [_, _, _, _, _, _, _, _]) (pc := 59) hC dX11_meetings_59 rfl rfl rfl ?_
        refine x_goto (tgt := 6) (pc := 62) hC dX11_meetings_62 (by decide) ?_
        refine X.drop (xLe_s (xLe_s (xLe_s (xLe_s (xLe_s (xLe_s (xLe_s (xLe_n xLe_0)))))))) (ih (k + 1) (j + 1) _ (by omega) (by omega) ?_ (by omega))
        unfold mtF
        rw [sumTo_s]
        unfold mtF at ha
        rw [← ha, ← hj, bI_f c53, Int.add_zero]
      · refine x_iinc (L' := [_, _, _, _, _, _, _, _]) (pc := 56) hC dX11_meetings_56 rfl rfl rfl ?_
        refine x_iinc (L' := [_, _, _, _, _, _, _, _]) (pc := 59) hC dX11_meetings_59 rfl rfl rfl ?_
        refine x_goto (tgt := 6) (pc := 62) hC dX11_meetings_62 (by decide) ?_
        refine X.drop (xLe_s (xLe_s (xLe_s (xLe_s (xLe_s (xLe_s (xLe_s (xLe_n xLe_0)))))))) (ih (k + 1) (j + 1) _ (by omega) (by omega) ?_ (by omega))
        unfold mtF
        rw [sumTo_s]
        unfold mtF at ha
        rw [← ha, ← hj, bI_t c53]
  refine x_iconst (pc := 0) hC dX11_meetings_0 ?_
  refine x_istore (L' := [_, _, _, _, _, _, _, _]) (pc := 1) hC dX11_meetings_1 rfl rfl ?_
  refine x_iconst (pc := 3) hC dX11_meetings_3 ?_
  refine x_istore (L' := [_, _, _, _, _, _, _, _]) (pc := 4) hC dX11_meetings_4 rfl rfl ?_
  exact loop n.toNat 0 0 0 rfl (by omega) rfl (by decide)

set_option maxHeartbeats 4000000 in
set_option maxRecDepth 100000 in
theorem c_comesAgain (E : xE) {σ : xM} {ρ : xR} {ks : xKs} (hw : WK ks ρ) {z : zS} (hz : HZ σ ρ ks 1 z) (hpl : PlOk z) {y : Nat} {f : Int} (hfa : FanAt σ ρ ks y f z) (hff : 0 ≤ f ∧ f < z 13) {l : Int} (hl : 0 ≤ l ∧ l ≤ 300) : Sp E yX11_comesAgain kX11_comesAgain 2 0 0 [.ref 0, .ref y, .int (iI l)] σ ρ ks (Fn (some (.int (iI (bI (perP (isAtF z f) l))))) σ ρ ks) := by
  obtain ⟨w0, w43, ⟨wr0, wr1, wr3, wr4, wr5⟩, wh, wk, wn, wt⟩ := id hw
  have hk := wh.hk
  obtain ⟨k1, k2, r0, r2, hs3⟩ := id hk
  have hfs := hz.fans
  have hsz := hz.sit
  obtain ⟨⟨hz1, -⟩, -, ⟨rq, hrq, hrq2, hrm⟩, hz4, ⟨hz6, -⟩, hz7, hz8, ⟨hz10, -⟩, ⟨hz12, -⟩, ⟨hz14, -⟩⟩ := id hz
  have hfan := hpl.1
  have hsit := hpl.2.1
  have h13 := hpl.1.1
  have h14 := hpl.2.1.1
  have hz00 := hpl.2.2.2
  obtain ⟨n0, ⟨n1, n2, n3, n4, n5⟩, m0, m1, m2, m3, m4⟩ := id wn
  have hfo := hfan.2 f hff.1 hff.2
  have hy0 := hfa.1
  have hf4 : 0 ≤ f ∧ f < 4 := ⟨hff.1, by omega⟩
  refine x_enter (own := RX11) (L := [_, _, _, _]) (by decide +kernel) rfl (by exact Nat.le_of_ble_eq_true rfl) rfl (fun p e R s m args below meth c Z hZ hC hR hin => ?_)
  have loop : ∀ (i k : Nat) (j : Int), j = k → (k : Int) + i = 200 → (∀ x : Nat, x < k → isAtF z f x = isAtF z f (x + l)) → X E p e R s m args below meth c Z 0 0 σ ρ ks 2 [some (.ref 0), some (.ref y), some (.int (iI l)), some (.int (iI j))] [] := by
    intro i
    induction i with
    | zero =>
      intro k j hj hi hx
      refine x_iload_n (pc := 2) hC dX11_comesAgain_2 rfl ?_
      refine x_sipush (pc := 3) hC dX11_comesAgain_3 (by decide +kernel) ?_
      refine x_icmp_ge (tgt := 46) (pc := 6) hC (by omega) (by omega) dX11_comesAgain_6 (by decide) (fun c6 => ?_) (fun c6 => by (exfalso; omega))
      refine x_iconst (pc := 46) hC dX11_comesAgain_46 ?_
      refine x_zreturn hC hZ (by omega) dX11_comesAgain_47 (by decide) (by decide) ?_
      refine ⟨congrArg (fun z => some (Value.int (iI z))) ?_, rfl, rfl, rfl⟩
      exact (bI_t (fun x h => hx x (by omega))).symm
    | succ i ih =>
      intro k j hj hi hx
      refine x_iload_n (pc := 2) hC dX11_comesAgain_2 rfl ?_
      refine x_sipush (pc := 3) hC dX11_comesAgain_3 (by decide +kernel) ?_
      refine x_icmp_ge (tgt := 46) (pc := 6) hC (by omega) (by omega) dX11_comesAgain_6 (by decide) (fun c6 => by (exfalso; omega)) (fun c6 => ?_)
      refine x_aload_n (pc := 9) hC dX11_comesAgain_9 rfl ?_
      refine x_iload_n (pc := 10) hC dX11_comesAgain_10 rfl ?_
      refine x_aload_n (pc := 11) hC dX11_comesAgain_11 rfl ?_
      refine x_getr (K := 0) (pc := 12) hC fX11_12_11 (by assumption) dX11_comesAgain_12 rfl rfl (by assumption) ?_
      refine x_getr (K := 2) (pc := 15) hC fX11_108_1 (by assumption) dX11_comesAgain_15 rfl rfl (by assumption) ?_
      refine x_fanX11_111 (pc := 18) hC hfa hfo hf4 hs3 hsz hsit ⟨by omega, by omega⟩ hR (by decide) (by exact Nat.le_of_ble_eq_true rfl) (by decide) rfl dX11_comesAgain_18 ?_
      refine x_aload_n (pc := 21) hC dX11_comesAgain_21 rfl ?_
      refine x_iload_n (pc := 22) hC dX11_comesAgain_22 rfl ?_
      refine x_iload_n (pc := 23) hC dX11_comesAgain_23 rfl ?_
      refine x_iadd (pc := 24) hC dX11_comesAgain_24 ?_
      refine x_aload_n (pc := 25) hC dX11_comesAgain_25 rfl ?_
      refine x_getr (K := 0) (pc := 26) hC fX11_12_11 (by assumption) dX11_comesAgain_26 rfl rfl (by assumption) ?_
      refine x_getr (K := 2) (pc := 29) hC fX11_108_1 (by assumption) dX11_comesAgain_29 rfl rfl (by assumption) ?_
      refine x_fanX11_111 (pc := 32) hC hfa hfo hf4 hs3 hsz hsit ⟨by omega, by omega⟩ hR (by decide) (by exact Nat.le_of_ble_eq_true rfl) (by decide) rfl dX11_comesAgain_32 ?_
      have ia := isAt_in (t := j) hfo hsit (by omega)
      have ib := isAt_in (t := j + l) hfo hsit (by omega)
      refine x_icmp_eq (tgt := 40) (pc := 35) hC (by omega) (by omega) dX11_comesAgain_35 (by decide) (fun c35 => ?_) (fun c35 => ?_)
      · refine x_iinc (L' := [_, _, _, _]) (pc := 40) hC dX11_comesAgain_40 rfl rfl rfl ?_
        refine x_goto (tgt := 2) (pc := 43) hC dX11_comesAgain_43 (by decide) ?_
        refine ih (k + 1) (j + 1) (by omega) (by omega) (fun x hx2 => ?_)
        by_cases hxk : x = k
        · subst hxk; rw [← hj]; exact c35
        · exact hx x (by omega)
      · refine x_iconst (pc := 38) hC dX11_comesAgain_38 ?_
        refine x_zreturn hC hZ (by omega) dX11_comesAgain_39 (by decide) (by decide) ?_
        refine ⟨congrArg (fun z => some (Value.int (iI z))) ?_, rfl, rfl, rfl⟩
        exact (bI_f (fun h => c35 (by rw [hj]; exact h k (by omega)))).symm
  refine x_iconst (pc := 0) hC dX11_comesAgain_0 ?_
  refine x_istore_n (L' := [_, _, _, _]) (pc := 1) hC dX11_comesAgain_1 rfl rfl ?_
  exact loop 200 0 0 rfl (by omega) (fun x h => absurd h (Nat.not_lt_zero x))

theorem mt_mono {z : zS} {p s : Int} {k : Nat} : ∀ d : Nat, mtAny z p s k ≠ 0 → mtAny z p s (k + d) ≠ 0
  | 0, h => h
  | d + 1, h => by
    have ih := mt_mono d h
    show mtAny z p s (k + d + 1) ≠ 0
    unfold mtAny
    rw [if_pos (Or.inl ih)]
    decide
theorem mtr_rg (z : zS) (p t : Int) : ∀ n : Nat, rg (mtrF z p t n)
  | 0 => by show rg 0; exact ⟨by decide, by decide⟩
  | n + 1 => by
    show rg (if z (42 + (n : Int)) ≠ 0 ∧ bAnd (bShr (reachF z n t) (z (62 + p))) 1 = 1 then bOr (mtrF z p t n) (bShl 1 n) else mtrF z p t n)
    split
    · exact rg_of _
    · exact mtr_rg z p t n
theorem isAt_up0 {z : zS} {f t a : Int} (hfo : FanOk z f) (hsit : SitOk z) (hf : 0 ≤ f ∧ f < 4) (ht : 0 ≤ t) : isAtF (up z 0 a) f t = isAtF z f t := by
  have h14 := hsit.1
  unfold isAtF swingF
  simp (disch := omega) only [up_ne]
  by_cases h : z 14 = 0
  · rw [if_pos h, if_pos h]
  · have h5 := emod_in (t := t / 10) (d := z 14) (by omega)
    rw [up_ne _ (show 62 + t / 10 % z 14 ≠ 0 by omega)]
theorem met_up0 {z : zS} {p t a : Int} (hfan : FansOk z) (hsit : SitOk z) (hp : 0 ≤ p) (ht : 0 ≤ t) : ∀ n : Nat, n ≤ (z 13).toNat → metByF (up z 0 a) p t n = metByF z p t n := by
  intro n
  induction n with
  | zero => intro _; show (0 : Int) = 0; rfl
  | succ n ih =>
    intro hn
    have h13 := hfan.1
    have ih := ih (by omega)
    have hr : reachF (up z 0 a) n t = reachF z n t := by
      unfold reachF
      rw [isAt_up0 (hfan.2 n (by omega) (by omega)) hsit (by omega) ht, up_ne _ (by omega)]
    show bOr (metByF (up z 0 a) p t n) (if (up z 0 a) (42 + (n : Int)) = 1 ∧ bAnd (bShr (reachF (up z 0 a) n t) ((up z 0 a) (62 + p))) 1 = 1 then bShl 1 n else 0) = bOr (metByF z p t n) (if z (42 + (n : Int)) = 1 ∧ bAnd (bShr (reachF z n t) (z (62 + p))) 1 = 1 then bShl 1 n else 0)
    rw [ih, hr, up_ne _ (show 42 + (n : Int) ≠ 0 by omega), up_ne _ (show 62 + p ≠ 0 by omega)]
set_option maxHeartbeats 4000000 in
set_option maxRecDepth 100000 in
theorem c_isMetFrom (E : xE) {σ : xM} {ρ : xR} {ks : xKs} (hw : WK ks ρ) {z : zS} (hz : HZ σ ρ ks 1 z) (hpl : PlOk z) {y s0 n : Int} (hy : 0 ≤ y ∧ y < z 14) (hs0 : 0 ≤ s0 ∧ s0 ≤ 1000) (hn : 0 ≤ n ∧ n ≤ 60) : Sp E yX11_isMetFrom kX11_isMetFrom 4 0 0 [.ref 0, .int (iI y), .int (iI s0), .int (iI n)] σ ρ ks (Fn (some (.int (iI (bI (mtAny z y s0 n.toNat ≠ 0))))) σ ρ ks) := by
  obtain ⟨w0, w43, ⟨wr0, wr1, wr3, wr4, wr5⟩, wh, wk, wn, wt⟩ := id hw
  have hk := wh.hk
  obtain ⟨k1, k2, r0, r2, hs3⟩ := id hk
  have hfs := hz.fans
  have hsz := hz.sit
  obtain ⟨⟨hz1, -⟩, -, ⟨rq, hrq, hrq2, hrm⟩, hz4, ⟨hz6, -⟩, hz7, hz8, ⟨hz10, -⟩, ⟨hz12, -⟩, ⟨hz14, -⟩⟩ := id hz
  have hfan := hpl.1
  have hsit := hpl.2.1
  have h13 := hpl.1.1
  have h14 := hpl.2.1.1
  have hz00 := hpl.2.2.2
  obtain ⟨n0, ⟨n1, n2, n3, n4, n5⟩, m0, m1, m2, m3, m4⟩ := id wn
  have hup : ∀ (a : Int) (k : Nat), metByF (up z 0 a) y (s0 + k) (z 13).toNat = metByF z y (s0 + k) (z 13).toNat := fun a k => met_up0 hfan hsit hy.1 (by omega) _ (Nat.le_refl _)
  refine x_enter (own := RX11) (L := [_, _, _, _, _]) (by decide +kernel) rfl (by exact Nat.le_of_ble_eq_true rfl) rfl (fun p e R s m args below meth c Z hZ hC hR hin => ?_)
  have loop : ∀ (i k : Nat) (j : Int), j = k → (k : Int) + i = n → mtAny z y s0 k = 0 → X E p e R s m args below meth c Z 0 0 σ ρ ks 3 [some (.ref 0), some (.int (iI y)), some (.int (iI s0)), some (.int (iI n)), some (.int (iI j))] [] := by
    intro i
    induction i with
    | zero =>
      intro k j hj hi hx
      refine x_iload (pc := 3) hC dX11_isMetFrom_3 rfl ?_
      refine x_iload_n (pc := 5) hC dX11_isMetFrom_5 rfl ?_
      refine x_icmp_ge (tgt := 32) (pc := 6) hC (by omega) (by omega) dX11_isMetFrom_6 (by decide) (fun c6 => ?_) (fun c6 => by (exfalso; omega))
      refine x_iconst (pc := 32) hC dX11_isMetFrom_32 ?_
      refine x_zreturn hC hZ (by omega) dX11_isMetFrom_33 (by decide) (by decide) ?_
      refine ⟨congrArg (fun z => some (Value.int (iI z))) ?_, rfl, rfl, rfl⟩
      rw [show n.toNat = k by omega]
      exact (bI_f (fun h => h hx)).symm
    | succ i ih =>
      intro k j hj hi hx
      have hmm : mtAny z y s0 (k + 1) = if mtAny z y s0 k ≠ 0 ∨ metByF (up z 0 (s0 + k)) y (s0 + k) (z 13).toNat ≠ 0 then 1 else 0 := rfl
      have hz0 : metByF (up z 0 (s0 + k)) y (s0 + k) (z 13).toNat = mtrF z y (s0 + j) (z 13).toNat := by
        rw [hj, hup, mtr_met (fans_01 hfan) _ (Nat.le_refl _)]
      refine x_iload (pc := 3) hC dX11_isMetFrom_3 rfl ?_
      refine x_iload_n (pc := 5) hC dX11_isMetFrom_5 rfl ?_
      refine x_icmp_ge (tgt := 32) (pc := 6) hC (by omega) (by omega) dX11_isMetFrom_6 (by decide) (fun c6 => by (exfalso; omega)) (fun c6 => ?_)
      refine x_aload_n (pc := 9) hC dX11_isMetFrom_9 rfl ?_
      refine x_getr (K := 0) (pc := 10) hC fX11_12_11 (by assumption) dX11_isMetFrom_10 rfl rfl (by assumption) ?_
      refine x_iload_n (pc := 13) hC dX11_isMetFrom_13 rfl ?_
      refine x_iload_n (pc := 14) hC dX11_isMetFrom_14 rfl ?_
      refine x_iload (pc := 15) hC dX11_isMetFrom_15 rfl ?_
      refine x_iadd (pc := 17) hC dX11_isMetFrom_17 ?_
      refine x_callV1 (As := [_, _]) (Bs := [_, _]) (pc := 18) hC (c_meetersOf E hk hfs hfan hy ⟨by omega, by omega⟩ hsz hsit) wX11_142_1 pX1_meetersOf (by assumption) rfl rfl (by exact Nat.le_of_ble_eq_true rfl) hR (by decide) (by decide) (by decide) rfl dX11_isMetFrom_18 ?_
      refine x_if_eq (tgt := 26) (pc := 21) hC (by exact mtr_rg _ _ _ _) dX11_isMetFrom_21 (by decide) (fun c21 => ?_) (fun c21 => ?_)
      · refine x_iinc (L' := [_, _, _, _, _]) (pc := 26) hC dX11_isMetFrom_26 rfl rfl rfl ?_
        refine x_goto (tgt := 3) (pc := 29) hC dX11_isMetFrom_29 (by decide) ?_
        refine ih (k + 1) (j + 1) (by omega) (by omega) ?_
        rw [hmm, if_neg (fun h => h.elim (fun q => q hx) (fun q => q (by rw [hz0]; exact c21)))]
      · refine x_iconst (pc := 24) hC dX11_isMetFrom_24 ?_
        refine x_zreturn hC hZ (by omega) dX11_isMetFrom_25 (by decide) (by decide) ?_
        refine ⟨congrArg (fun z => some (Value.int (iI z))) ?_, rfl, rfl, rfl⟩
        have h1 : mtAny z y s0 (k + 1) ≠ 0 := by
          rw [hmm, if_pos (Or.inr (by rw [hz0]; exact c21))]; decide
        have h2 := mt_mono (n.toNat - (k + 1)) h1
        rw [show k + 1 + (n.toNat - (k + 1)) = n.toNat by omega] at h2
        exact (bI_t h2).symm
  refine x_iconst (pc := 0) hC dX11_isMetFrom_0 ?_
  refine x_istore (L' := [_, _, _, _, _]) (pc := 1) hC dX11_isMetFrom_1 rfl rfl ?_
  exact loop n.toNat 0 0 rfl (by omega) rfl

def dvF (a b : Int) : Nat → Int
  | 0 => 1
  | k + 1 => if a % (k + 2) = 0 ∧ b % (k + 2) = 0 then (k : Int) + 2 else dvF a b k
theorem dvF_in (a b : Int) : ∀ k : Nat, 1 ≤ dvF a b k ∧ dvF a b k ≤ k + 1
  | 0 => by simp [dvF]
  | k + 1 => by
    have := dvF_in a b k
    unfold dvF
    split <;> omega
theorem dvF_gcd {a b : Nat} (hb : 0 < b) : ∀ k : Nat, Nat.gcd a b ≤ k + 1 → dvF a b k = (Nat.gcd a b : Int)
  | 0, h => by
    have := Nat.gcd_pos_of_pos_right a hb
    show (1 : Int) = _
    omega
  | k + 1, h => by
    unfold dvF
    by_cases hg : Nat.gcd a b = k + 2
    · have h1 : a % (k + 2) = 0 := by rw [← hg]; exact Nat.mod_eq_zero_of_dvd (Nat.gcd_dvd_left a b)
      have h2 : b % (k + 2) = 0 := by rw [← hg]; exact Nat.mod_eq_zero_of_dvd (Nat.gcd_dvd_right a b)
      rw [if_pos ⟨by exact_mod_cast h1, by exact_mod_cast h2⟩, hg]
      rfl
    · rw [if_neg ?_]
      · exact dvF_gcd hb k (by omega)
      · rintro ⟨h1, h2⟩
        have d1 : k + 2 ∣ a := Nat.dvd_of_mod_eq_zero (by exact_mod_cast h1)
        have d2 : k + 2 ∣ b := Nat.dvd_of_mod_eq_zero (by exact_mod_cast h2)
        have := Nat.le_of_dvd (Nat.gcd_pos_of_pos_right a hb) (Nat.dvd_gcd d1 d2)
        omega
set_option maxHeartbeats 4000000 in
set_option maxRecDepth 100000 in
theorem c_lowest (E : xE) {σ : xM} {ρ : xR} {ks : xKs} {a b w : Int} (ha : 0 ≤ a ∧ a ≤ 100000) (hb : 1 ≤ b ∧ b ≤ 100000) (hw0 : rg w) : Sp E yX11_lowest kX11_lowest 0 0 0 [.int (iI a), .int (iI b), .int (iI w)] σ ρ ks (Fn (some (.long (lL (lowF a b w)))) σ ρ ks) := by
  refine x_enter (own := RX11) (L := [_, _, _, _, _]) (by decide +kernel) rfl (by exact Nat.le_of_ble_eq_true rfl) rfl (fun p e R s m args below meth c Z hZ hC hR hin => ?_)
  have loop : ∀ (i k : Nat) (j u : Int), j = k + 2 → (k : Int) + 1 + i = b → u = dvF a b k → X E p e R s m args below meth c Z 0 0 σ ρ ks 5 [some (.int (iI a)), some (.int (iI b)), some (.int (iI w)), some (.int (iI u)), some (.int (iI j))] [] := by
    intro i
    induction i with
    | zero =>
      intro k j u hj hi hu
      have hin := dvF_in a b k
      have hgd := dvF_gcd (a := a.toNat) (b := b.toNat) (by omega) k (by have := Nat.gcd_le_right a.toNat (show 0 < b.toNat by omega); omega)
      rw [show (a.toNat : Int) = a by omega, show (b.toNat : Int) = b by omega] at hgd
      have hq1 := tdiv_lt (t := a) (d := u) (by omega) (by omega)
      have hq2 := tdiv_lt (t := b) (d := u) (by omega) (by omega)
      refine x_iload (pc := 5) hC dX11_lowest_5 rfl ?_
      refine x_iload_n (pc := 7) hC dX11_lowest_7 rfl ?_
      refine x_icmp_gt (tgt := 34) (pc := 8) hC (by omega) (by omega) dX11_lowest_8 (by decide) (fun c8 => ?_) (fun c8 => by (exfalso; omega))
      refine x_iload_n (pc := 34) hC dX11_lowest_34 rfl ?_
      refine x_if_ne (tgt := 45) (pc := 35) hC (by omega) dX11_lowest_35 (by decide) (fun c35 => ?_) (fun c35 => ?_)
      · refine x_iload_n (pc := 45) hC dX11_lowest_45 rfl ?_
        refine x_iload_n (pc := 46) hC dX11_lowest_46 rfl ?_
        refine x_idiv (pc := 47) hC (by omega) dX11_lowest_47 ?_
        refine x_i2l (pc := 48) hC (by omega) dX11_lowest_48 ?_
        refine x_lreturn hC hZ dX11_lowest_49 (by decide) (by decide) ?_
        refine ⟨congrArg (fun z => some (Value.long (lL z))) ?_, rfl, rfl, rfl⟩
        unfold lowF
        rw [if_neg c35, ← hgd, ← hu]
      · refine x_iload_n (pc := 38) hC dX11_lowest_38 rfl ?_
        refine x_iload_n (pc := 39) hC dX11_lowest_39 rfl ?_
        refine x_idiv (pc := 40) hC (by omega) dX11_lowest_40 ?_
        refine x_i2l (pc := 41) hC (by omega) dX11_lowest_41 ?_
        refine x_goto (tgt := 49) (pc := 42) hC dX11_lowest_42 (by decide) ?_
        refine x_lreturn hC hZ dX11_lowest_49 (by decide) (by decide) ?_
        refine ⟨congrArg (fun z => some (Value.long (lL z))) ?_, rfl, rfl, rfl⟩
        unfold lowF
        rw [if_pos c35, ← hgd, ← hu]
    | succ i ih =>
      intro k j u hj hi hu
      have hin := dvF_in a b k
      have hm1 := emod_in (t := a) (d := j) (by omega)
      have hm2 := emod_in (t := b) (d := j) (by omega)
      refine x_iload (pc := 5) hC dX11_lowest_5 rfl ?_
      refine x_iload_n (pc := 7) hC dX11_lowest_7 rfl ?_
      refine x_icmp_gt (tgt := 34) (pc := 8) hC (by omega) (by omega) dX11_lowest_8 (by decide) (fun c8 => by (exfalso; omega)) (fun c8 => ?_)
      refine x_iload_n (pc := 11) hC dX11_lowest_11 rfl ?_
      refine x_iload (pc := 12) hC dX11_lowest_12 rfl ?_
      refine x_irem (pc := 14) hC (by omega) dX11_lowest_14 ?_
      refine x_if_ne (tgt := 28) (pc := 15) hC (by omega) dX11_lowest_15 (by decide) (fun c15 => ?_) (fun c15 => ?_)
      · refine x_iinc (L' := [_, _, _, _, _]) (pc := 28) hC dX11_lowest_28 rfl rfl rfl ?_
        refine x_goto (tgt := 5) (pc := 31) hC dX11_lowest_31 (by decide) ?_
        refine ih (k + 1) (j + 1) _ (by omega) (by omega) ?_
        show _ = if _ then _ else _
        rw [← hj, if_neg (fun h => c15 h.1)]
        exact hu
      · refine x_iload_n (pc := 18) hC dX11_lowest_18 rfl ?_
        refine x_iload (pc := 19) hC dX11_lowest_19 rfl ?_
        refine x_irem (pc := 21) hC (by omega) dX11_lowest_21 ?_
        refine x_if_ne (tgt := 28) (pc := 22) hC (by omega) dX11_lowest_22 (by decide) (fun c22 => ?_) (fun c22 => ?_)
        · refine x_iinc (L' := [_, _, _, _, _]) (pc := 28) hC dX11_lowest_28 rfl rfl rfl ?_
          refine x_goto (tgt := 5) (pc := 31) hC dX11_lowest_31 (by decide) ?_
          refine ih (k + 1) (j + 1) _ (by omega) (by omega) ?_
          show _ = if _ then _ else _
          rw [← hj, if_neg (fun h => c22 h.2)]
          exact hu
        · refine x_iload (pc := 25) hC dX11_lowest_25 rfl ?_
          refine x_istore_n (L' := [_, _, _, _, _]) (pc := 27) hC dX11_lowest_27 rfl rfl ?_
          refine x_iinc (L' := [_, _, _, _, _]) (pc := 28) hC dX11_lowest_28 rfl rfl rfl ?_
          refine x_goto (tgt := 5) (pc := 31) hC dX11_lowest_31 (by decide) ?_
          refine ih (k + 1) (j + 1) _ (by omega) (by omega) ?_
          show _ = if _ then _ else _
          rw [← hj, if_pos ⟨c15, c22⟩]
  refine x_iconst (pc := 0) hC dX11_lowest_0 ?_
  refine x_istore_n (L' := [_, _, _, _, _]) (pc := 1) hC dX11_lowest_1 rfl rfl ?_
  refine x_iconst (pc := 2) hC dX11_lowest_2 ?_
  refine x_istore (L' := [_, _, _, _, _]) (pc := 3) hC dX11_lowest_3 rfl rfl ?_
  exact loop (b - 1).toNat 0 2 1 rfl (by omega) rfl

set_option maxHeartbeats 4000000 in
set_option maxRecDepth 100000 in
theorem c_putRow (E : xE) {σ : xM} {ρ : xR} {ks : xKs} {y N : Nat} (hy : ks[y]? = some (1, N)) {i a b d : Int} (hi : 0 ≤ i ∧ i * 3 + 2 < N) (hN : N ≤ 1000) : Sp E yX11_putRow kX11_putRow 0 0 0 [.ref y, .int (iI i), .int (iI a), .int (iI b), .int (iI d)] σ ρ ks (Fn none (wr (wr (wr σ y (i * 3) a) y (i * 3 + 1) b) y (i * 3 + 2) d) ρ ks) := by
  refine x_enter (own := RX11) (L := [_, _, _, _, _]) (by decide +kernel) rfl (by exact Nat.le_of_ble_eq_true rfl) rfl (fun p e R s m args below meth c Z hZ hC hR hin => ?_)
  refine x_iload_n (pc := 0) hC dX11_putRow_0 rfl ?_
  refine x_if_lt (tgt := 37) (pc := 1) hC (by omega) dX11_putRow_1 (by decide) (fun c1 => by (exfalso; omega)) (fun c1 => ?_)
  refine x_iload_n (pc := 4) hC dX11_putRow_4 rfl ?_
  refine x_iconst (pc := 5) hC dX11_putRow_5 ?_
  refine x_imul (pc := 6) hC dX11_putRow_6 ?_
  refine x_iconst (pc := 7) hC dX11_putRow_7 ?_
  refine x_iadd (pc := 8) hC dX11_putRow_8 ?_
  refine x_aload_n (pc := 9) hC dX11_putRow_9 rfl ?_
  refine x_alen1 (K := N) (pc := 10) hC (by assumption) rfl dX11_putRow_10 ?_
  refine x_icmp_ge (tgt := 37) (pc := 11) hC (by omega) (by omega) dX11_putRow_11 (by decide) (fun c11 => by (exfalso; omega)) (fun c11 => ?_)
  refine x_aload_n (pc := 14) hC dX11_putRow_14 rfl ?_
  refine x_iload_n (pc := 15) hC dX11_putRow_15 rfl ?_
  refine x_iconst (pc := 16) hC dX11_putRow_16 ?_
  refine x_imul (pc := 17) hC dX11_putRow_17 ?_
  refine x_iload_n (pc := 18) hC dX11_putRow_18 rfl ?_
  refine x_iast (pc := 19) hC (by assumption) (by omega) dX11_putRow_19 ?_
  refine x_aload_n (pc := 20) hC dX11_putRow_20 rfl ?_
  refine x_iload_n (pc := 21) hC dX11_putRow_21 rfl ?_
  refine x_iconst (pc := 22) hC dX11_putRow_22 ?_
  refine x_imul (pc := 23) hC dX11_putRow_23 ?_
  refine x_iconst (pc := 24) hC dX11_putRow_24 ?_
  refine x_iadd (pc := 25) hC dX11_putRow_25 ?_
  refine x_iload_n (pc := 26) hC dX11_putRow_26 rfl ?_
  refine x_iast (pc := 27) hC (by assumption) (by omega) dX11_putRow_27 ?_
  refine x_aload_n (pc := 28) hC dX11_putRow_28 rfl ?_
  refine x_iload_n (pc := 29) hC dX11_putRow_29 rfl ?_
  refine x_iconst (pc := 30) hC dX11_putRow_30 ?_
  refine x_imul (pc := 31) hC dX11_putRow_31 ?_
  refine x_iconst (pc := 32) hC dX11_putRow_32 ?_
  refine x_iadd (pc := 33) hC dX11_putRow_33 ?_
  refine x_iload (pc := 34) hC dX11_putRow_34 rfl ?_
  refine x_iast (pc := 36) hC (by assumption) (by omega) dX11_putRow_36 ?_
  refine x_return hC hZ dX11_putRow_37 (by decide) (by decide) ?_
  exact ⟨rfl, rfl, rfl, rfl⟩
