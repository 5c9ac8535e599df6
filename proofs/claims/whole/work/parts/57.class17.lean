theorem lkF_K {z : zS} {fr : Int} {k1 k2 : zS} (hk : ∀ j, 0 ≤ j → j ≤ 5 → k1 j = k2 j) (u : zL) : ∀ n : Nat, (∀ m : Nat, m < n → stepOk (z (fr + m)) (lkT z fr m)) → lkF z fr k1 u n = lkF z fr k2 u n
  | 0, _ => rfl
  | n + 1, h => by
    rw [lkF_s, lkF_s, lkF_K hk u n (fun m hm => h m (by omega))]
    obtain ⟨a1, a2, a3, a4, a5, a6⟩ := h n (by omega)
    generalize lkF z fr k2 u n = v
    generalize z (fr + n) = st at *
    unfold lk1
    by_cases h0 : 0 ≤ st
    · have := emod_in (t := st) (d := 8) (by omega)
      rw [if_pos h0, if_pos h0, hk (st % 8) this.1 (by omega)]
    · rw [if_neg h0, if_neg h0]
theorem lk_seg {z : zS} {fr : Int} {k : zS} {u : zL} {n0 : Nat} : ∀ n : Nat, (∀ m : Nat, m < n → -3 ≤ z (fr + (n0 + m : Nat))) → (lkF z fr k u (n0 + n)).2.2 = (lkF z fr k u n0).2.2
  | 0, _ => rfl
  | n + 1, h => by
    have ih := lk_seg (z := z) (fr := fr) (k := k) (u := u) (n0 := n0) n (fun m hm => h m (by omega))
    have h1 := h n (by omega)
    rw [show n0 + (n + 1) = n0 + n + 1 from rfl, lkF_s, ← ih]
    generalize lkF z fr k u (n0 + n) = v
    generalize z (fr + (n0 + n : Nat)) = st at *
    unfold lk1
    split
    · rfl
    · split
      · rfl
      · split
        · rfl
        · omega
/-- what the clauses of word w give, i of them -/
def smF (σ : xM) (q : Nat) (w : Int) (z : zS) (fr : Int) (K : zS) (P : Nat → Nat) : Nat → Int
  | 0 => 0
  | i + 1 => smF σ q w z fr K P i + (if σ (q + 1) i = w ∧ (lkF z fr K (fun _ => 0, 0, 0, 0) (P (i + 1) - 1)).1 0 ≠ 0 then σ (q + 2) i else 0)
theorem smF_s (σ : xM) (q : Nat) (w : Int) (z : zS) (fr : Int) (K : zS) (P : Nat → Nat) (i : Nat) : smF σ q w z fr K P (i + 1) = smF σ q w z fr K P i + (if σ (q + 1) i = w ∧ (lkF z fr K (fun _ => 0, 0, 0, 0) (P (i + 1) - 1)).1 0 ≠ 0 then σ (q + 2) i else 0) := rfl
theorem sm_ok {σ : xM} {q : Nat} {z : zS} {fr : Int} {K : zS} {P : Nat → Nat} {C : Int} (hP : P 0 = 0) (hc : ∀ i : Nat, (i : Int) < C → ClP σ q z fr P i) : ∀ i : Nat, (i : Int) ≤ C → (lkF z fr K (fun _ => 0, 0, 0, 0) (P i)).2.2 = (smF σ q 2 z fr K P i, smF σ q 3 z fr K P i)
  | 0, _ => by rw [hP]; rfl
  | i + 1, h => by
    have ih := sm_ok (K := K) hP hc i (by omega)
    obtain ⟨c1, c2, c3, c4, c5⟩ := hc i (by omega)
    rw [smF_s, smF_s]
    by_cases hw : σ (q + 1) i < 2
    · rw [(c4 hw).1, ih, if_neg (fun h => by omega), if_neg (fun h => by omega), Int.add_zero, Int.add_zero]
    · obtain ⟨len, d1, d2, d3, d4, d5, d6, d7⟩ := c5 (by omega)
      have hs := lk_seg (k := K) (u := (fun _ => 0, 0, 0, 0)) (z := z) (fr := fr) (n0 := P i) len (fun m hm => (d4 m hm).2.2)
      rw [d1, lkF_s, Nat.add_sub_cancel]
      rw [ih] at hs
      generalize lkF z fr K (fun _ => 0, 0, 0, 0) (P i + len) = v at *
      obtain ⟨v1, v2, v3, v4⟩ := v
      simp only [Prod.mk.injEq] at hs
      obtain ⟨rfl, rfl⟩ := hs
      rw [d3]
      by_cases h2 : σ (q + 1) i = 2
      · rw [if_pos h2, lk1_D (by omega), h2]
        dsimp only
        refine Prod.ext ?_ ?_
        · dsimp only
          by_cases h3 : v1 0 = 0
          · rw [if_neg (fun h => h.1 h3), if_neg (fun h => h.2 h3)]
          · rw [if_pos ⟨h3, by omega⟩, if_pos ⟨rfl, h3⟩]; omega
        · dsimp only
          rw [if_neg (fun h => by omega), if_neg (fun h => by omega)]
      · have h3 : σ (q + 1) i = 3 := by omega
        rw [if_neg h2, lk1_D (by omega), h3]
        dsimp only
        refine Prod.ext ?_ ?_
        · dsimp only
          rw [if_neg (fun h => by omega), if_neg (fun h => by omega)]
        · dsimp only
          by_cases h4 : v1 0 = 0
          · rw [if_neg (fun h => h.1 h4), if_neg (fun h => h.2 h4)]
          · rw [if_pos ⟨h4, by omega⟩, if_pos ⟨rfl, h4⟩]; omega
theorem sm_in {σ : xM} {q : Nat} {w : Int} {z : zS} {fr : Int} {K : zS} {P : Nat → Nat} {C : Int} (hc : ∀ i : Nat, (i : Int) < C → ClP σ q z fr P i) : ∀ i : Nat, (i : Int) ≤ C → 0 ≤ smF σ q w z fr K P i ∧ smF σ q w z fr K P i ≤ 99 * i
  | 0, _ => by simp [smF]
  | i + 1, h => by
    have ih := sm_in (w := w) (K := K) hc i (by omega)
    obtain ⟨c1, c2, -⟩ := hc i (by omega)
    rw [smF_s]
    split <;> omega
theorem kne {ks : xKs} {a b : Nat} {x y : Nat × Nat} (h : ks[a]? = some x) (h2 : ks[b]? = some y) (hn : x ≠ y) : a ≠ b := by
  rintro rfl
  exact hn (Option.some.inj (h.symm.trans h2))
theorem P_mono {σ : xM} {q : Nat} {z : zS} {fr : Int} {P : Nat → Nat} {C : Int} (hc : ∀ i : Nat, (i : Int) < C → ClP σ q z fr P i) (i : Nat) : ∀ d : Nat, ((i + d : Nat) : Int) ≤ C → P i ≤ P (i + d)
  | 0, _ => Nat.le_refl _
  | d + 1, h => by
    have ih := P_mono hc i d (by omega)
    obtain ⟨c1, c2, c3, c4, c5⟩ := hc (i + d) (by omega)
    by_cases hw : σ (q + 1) (i + d : Nat) < 2
    · have := (c4 hw).1
      show P i ≤ P (i + d + 1)
      omega
    · obtain ⟨len, d1, -⟩ := c5 (by omega)
      show P i ≤ P (i + d + 1)
      omega
set_option maxHeartbeats 4000000 in
set_option maxRecDepth 100000 in
theorem c_sumOf2 (E : xE) {σ : xM} {ρ : xR} {ks : xKs} {q : Nat} {z : zS} (hrm : RmP σ ρ ks q z) (hroom : RoomOk z) {kn : Nat} (hkn : ks[kn]? = some (1, 6)) {K : zS} (hK : ∀ j, 0 ≤ j → j ≤ 5 → σ kn j = K j) (hK2 : ∀ j, 0 ≤ j → j ≤ 5 → 0 ≤ K j ∧ K j ≤ 99) {wo : Int} : Sp E yX4_sumOf kX4_sumOf 2 0 0 [.ref q, .int (iI 2), .int (iI wo), .ref kn] σ ρ ks (Fn (some (.int (iI (if tellsF z 233 0 = 1 then warmF z K else wo)))) (σ) ρ ks) := by
  obtain ⟨hrk, hrm'⟩ := id hrm
  obtain ⟨ko, ⟨kb1, kb2, kb3, kb4, kb5⟩, r0, r1, r2, r3, r4⟩ := id hrk
  refine x_enter (own := RX4) (L := [_, _, _, _, _, _]) (by decide +kernel) rfl (by exact Nat.le_of_ble_eq_true rfl) rfl (fun p e R s m args below meth c Z hZ hC hR hin => ?_)
  obtain ⟨h11, h12, h5, hc2, hc3, P, hP0, hPC, hcl⟩ := hrm'
  have hfin : ∀ n : Nat, n < (tellsF z 228 0).toNat → stepOk (z (243 + 140 * z 20 + n)) (lkT z (243 + 140 * z 20) n) := fun n hn => hroom.2.2.1 n (by have := hroom.2.1; omega)
  have hval : (lkF z (243 + 140 * z 20) (σ kn) (fun _ => 0, 0, 0, 0) (tellsF z 228 0).toNat).2.2 = (smF σ q 2 z (243 + 140 * z 20) (σ kn) P (σ q 5).toNat, smF σ q 3 z (243 + 140 * z 20) (σ kn) P (σ q 5).toNat) := by
    rw [show (tellsF z 228 0).toNat = P (σ q 5).toNat by omega]
    exact sm_ok hP0 hcl _ (by omega)
  have loop : ¬ σ (q + 5) 2 = 0 → ∀ (i k : Nat) (j a : Int), j = k → (k : Int) + i = σ q 5 → a = smF σ q 2 z (243 + 140 * z 20) (σ kn) P k → X E p e R s m args below meth c Z 0 0 σ ρ ks 17 [some (.ref q), some (.int (iI 2)), some (.int (iI wo)), some (.ref kn), some (.int (iI a)), some (.int (iI j))] [] := by
    intro hcn i
    induction i with
    | zero =>
      intro k j a hj hi ha
      refine x_iload (pc := 17) hC dX4_sumOf_17 rfl ?_
      refine x_aload_n (pc := 19) hC dX4_sumOf_19 rfl ?_
      refine x_geti (K := 5) (pc := 20) hC fX4_27_4 (by assumption) dX4_sumOf_20 rfl rfl ?_
      refine x_icmp_ge (tgt := 88) (pc := 23) hC (by omega) (by omega) dX4_sumOf_23 (by decide) (fun c23 => ?_) (fun c23 => by (exfalso; omega))
      refine x_iload (pc := 88) hC dX4_sumOf_88 rfl ?_
      refine x_ireturn hC hZ dX4_sumOf_90 (by decide) (by decide) ?_
      refine ⟨congrArg (fun z => some (Value.int (iI z))) ?_, rfl, rfl, rfl⟩
      rw [if_pos (hc2.2.mp hcn)]
      unfold warmF
      rw [← lkF_K hK _ _ hfin, hval, ha, show (σ q 5).toNat = k by omega]
    | succ i ih =>
      intro k j a hj hi ha
      obtain ⟨g1, g2, g3, g4, g5⟩ := hcl k (by omega)
      rw [← hj] at g1 g2 g4 g5
      have hsm := sm_in (w := 2) (K := σ kn) hcl k (by omega)
      rw [← ha] at hsm
      refine x_iload (pc := 17) hC dX4_sumOf_17 rfl ?_
      refine x_aload_n (pc := 19) hC dX4_sumOf_19 rfl ?_
      refine x_geti (K := 5) (pc := 20) hC fX4_27_4 (by assumption) dX4_sumOf_20 rfl rfl ?_
      refine x_icmp_ge (tgt := 88) (pc := 23) hC (by omega) (by omega) dX4_sumOf_23 (by decide) (fun c23 => by (exfalso; omega)) (fun c23 => ?_)
      refine x_aload_n (pc := 26) hC dX4_sumOf_26 rfl ?_
      refine x_getr (K := 0) (pc := 27) hC fX4_11_4 (by assumption) dX4_sumOf_27 rfl rfl (by assumption) ?_
      refine x_iload (pc := 30) hC dX4_sumOf_30 rfl ?_
      refine x_iald (pc := 32) hC (by assumption) (by omega) dX4_sumOf_32 ?_
      refine x_iload_n (pc := 33) hC dX4_sumOf_33 rfl ?_
      refine x_icmp_ne (tgt := 82) (pc := 34) hC (by omega) (by omega) dX4_sumOf_34 (by decide) (fun c34 => ?_) (fun c34 => ?_)
      · refine x_iinc (L' := [_, _, _, _, _, _]) (pc := 82) hC dX4_sumOf_82 rfl rfl rfl ?_
        refine x_goto (tgt := 17) (pc := 85) hC dX4_sumOf_85 (by decide) ?_
        refine ih (k + 1) (j + 1) _ (by omega) (by omega) ?_
        rw [smF_s, ← ha, ← hj]
        rw [if_neg (fun h => c34 h.1), Int.add_zero]
      · obtain ⟨len, d1, d2, d3, d4, d5, d6, d7⟩ := g5 (by omega)
        have hE0 : 0 ≤ Ef σ q k := by
          unfold Ef
          split
          · omega
          · next hk0 =>
            obtain ⟨x, hx⟩ : ∃ x : Nat, k = x + 1 := ⟨k - 1, by omega⟩
            have := (hcl x (by omega)).2.2.1
            rw [Ef_s] at this
            rw [show ((k : Int) - 1) = (x : Int) by omega]
            exact this.1
        have e1 : σ (q + 3) j = Ef σ q k + len := by rw [hj, ← Ef_s σ q k]; exact d2
        have hPk := P_mono hcl (k + 1) ((σ q 5).toNat - (k + 1)) (by omega)
        rw [show k + 1 + ((σ q 5).toNat - (k + 1)) = (σ q 5).toNat by omega] at hPk
        refine x_aload_n (pc := 37) hC dX4_sumOf_37 rfl ?_
        refine x_iload (pc := 38) hC dX4_sumOf_38 rfl ?_
        refine x_if_ne (tgt := 47) (pc := 40) hC (by omega) dX4_sumOf_40 (by decide) (fun c40 => ?_) (fun c40 => ?_)
        · refine x_aload_n (pc := 47) hC dX4_sumOf_47 rfl ?_
          refine x_getr (K := 2) (pc := 48) hC fX4_18_4 (by assumption) dX4_sumOf_48 rfl rfl (by assumption) ?_
          refine x_iload (pc := 51) hC dX4_sumOf_51 rfl ?_
          refine x_iconst (pc := 53) hC dX4_sumOf_53 ?_
          refine x_isub (pc := 54) hC dX4_sumOf_54 ?_
          refine x_iald (pc := 55) hC (by assumption) (by omega) dX4_sumOf_55 ?_
          refine x_aload_n (pc := 56) hC dX4_sumOf_56 rfl ?_
          refine x_getr (K := 2) (pc := 57) hC fX4_18_4 (by assumption) dX4_sumOf_57 rfl rfl (by assumption) ?_
          refine x_iload (pc := 60) hC dX4_sumOf_60 rfl ?_
          refine x_iald (pc := 62) hC (by assumption) (by omega) dX4_sumOf_62 ?_
          refine x_aload_n (pc := 63) hC dX4_sumOf_63 rfl ?_
          refine X.stk (st' := [.ref kn, .int (iI (Ef σ q k + len)), .int (iI (Ef σ q k)), .ref q]) (by rw [e1, show Ef σ q k = σ (q + 3) (j - 1) by unfold Ef; rw [if_neg (by omega), hj]]) ?_
          refine x_callV1 (As := [_, _, _]) (Bs := [_, _, _]) (pc := 64) hC (c_holds E hrk hkn (n0 := P k) (z := z) (fr := 243 + 140 * z 20) ⟨hE0, by omega⟩ d4 (fun m hm => hfin m (by omega)) d5 d6 d7 (fun j h0 h1 => by rw [hK j h0 h1]; exact hK2 j h0 h1)) wX4_123_4 pX4_holds (by assumption) rfl rfl (by exact Nat.le_of_ble_eq_true rfl) hR (by decide) (by decide) (by decide) rfl dX4_sumOf_64 ?_
          refine x_ifB_eq (tgt := 82) (pc := 67) hC  dX4_sumOf_67 (by decide) (fun c67 => ?_) (fun c67 => ?_)
          · refine x_iinc (L' := [_, _, _, _, _, _]) (pc := 82) hC dX4_sumOf_82 rfl rfl rfl ?_
            refine x_goto (tgt := 17) (pc := 85) hC dX4_sumOf_85 (by decide) ?_
            refine ih (k + 1) (j + 1) _ (by omega) (by omega) ?_
            rw [smF_s, ← ha, ← hj]
            rw [show P (k + 1) - 1 = P k + len by omega, if_neg (fun h => c67 h.2), Int.add_zero]
          · refine x_iload (pc := 70) hC dX4_sumOf_70 rfl ?_
            refine x_aload_n (pc := 72) hC dX4_sumOf_72 rfl ?_
            refine x_getr (K := 1) (pc := 73) hC fX4_15_4 (by assumption) dX4_sumOf_73 rfl rfl (by assumption) ?_
            refine x_iload (pc := 76) hC dX4_sumOf_76 rfl ?_
            refine x_iald (pc := 78) hC (by assumption) (by omega) dX4_sumOf_78 ?_
            refine x_iadd (pc := 79) hC dX4_sumOf_79 ?_
            refine x_istore (L' := [_, _, _, _, _, _]) (pc := 80) hC dX4_sumOf_80 rfl rfl ?_
            refine x_iinc (L' := [_, _, _, _, _, _]) (pc := 82) hC dX4_sumOf_82 rfl rfl rfl ?_
            refine x_goto (tgt := 17) (pc := 85) hC dX4_sumOf_85 (by decide) ?_
            refine ih (k + 1) (j + 1) _ (by omega) (by omega) ?_
            rw [smF_s, ← ha, ← hj]
            rw [show P (k + 1) - 1 = P k + len by omega, if_pos ⟨c34, c67⟩]
        · refine x_iconst (pc := 43) hC dX4_sumOf_43 ?_
          refine x_goto (tgt := 56) (pc := 44) hC dX4_sumOf_44 (by decide) ?_
          refine x_aload_n (pc := 56) hC dX4_sumOf_56 rfl ?_
          refine x_getr (K := 2) (pc := 57) hC fX4_18_4 (by assumption) dX4_sumOf_57 rfl rfl (by assumption) ?_
          refine x_iload (pc := 60) hC dX4_sumOf_60 rfl ?_
          refine x_iald (pc := 62) hC (by assumption) (by omega) dX4_sumOf_62 ?_
          refine x_aload_n (pc := 63) hC dX4_sumOf_63 rfl ?_
          refine X.stk (st' := [.ref kn, .int (iI (Ef σ q k + len)), .int (iI (Ef σ q k)), .ref q]) (by rw [e1, show Ef σ q k = 0 by unfold Ef; rw [if_pos (by omega)]]) ?_
          refine x_callV1 (As := [_, _, _]) (Bs := [_, _, _]) (pc := 64) hC (c_holds E hrk hkn (n0 := P k) (z := z) (fr := 243 + 140 * z 20) ⟨hE0, by omega⟩ d4 (fun m hm => hfin m (by omega)) d5 d6 d7 (fun j h0 h1 => by rw [hK j h0 h1]; exact hK2 j h0 h1)) wX4_123_4 pX4_holds (by assumption) rfl rfl (by exact Nat.le_of_ble_eq_true rfl) hR (by decide) (by decide) (by decide) rfl dX4_sumOf_64 ?_
          refine x_ifB_eq (tgt := 82) (pc := 67) hC  dX4_sumOf_67 (by decide) (fun c67 => ?_) (fun c67 => ?_)
          · refine x_iinc (L' := [_, _, _, _, _, _]) (pc := 82) hC dX4_sumOf_82 rfl rfl rfl ?_
            refine x_goto (tgt := 17) (pc := 85) hC dX4_sumOf_85 (by decide) ?_
            refine ih (k + 1) (j + 1) _ (by omega) (by omega) ?_
            rw [smF_s, ← ha, ← hj]
            rw [show P (k + 1) - 1 = P k + len by omega, if_neg (fun h => c67 h.2), Int.add_zero]
          · refine x_iload (pc := 70) hC dX4_sumOf_70 rfl ?_
            refine x_aload_n (pc := 72) hC dX4_sumOf_72 rfl ?_
            refine x_getr (K := 1) (pc := 73) hC fX4_15_4 (by assumption) dX4_sumOf_73 rfl rfl (by assumption) ?_
            refine x_iload (pc := 76) hC dX4_sumOf_76 rfl ?_
            refine x_iald (pc := 78) hC (by assumption) (by omega) dX4_sumOf_78 ?_
            refine x_iadd (pc := 79) hC dX4_sumOf_79 ?_
            refine x_istore (L' := [_, _, _, _, _, _]) (pc := 80) hC dX4_sumOf_80 rfl rfl ?_
            refine x_iinc (L' := [_, _, _, _, _, _]) (pc := 82) hC dX4_sumOf_82 rfl rfl rfl ?_
            refine x_goto (tgt := 17) (pc := 85) hC dX4_sumOf_85 (by decide) ?_
            refine ih (k + 1) (j + 1) _ (by omega) (by omega) ?_
            rw [smF_s, ← ha, ← hj]
            rw [show P (k + 1) - 1 = P k + len by omega, if_pos ⟨c34, c67⟩]
  refine x_aload_n (pc := 0) hC dX4_sumOf_0 rfl ?_
  refine x_getr (K := 4) (pc := 1) hC fX4_24_4 (by assumption) dX4_sumOf_1 rfl rfl (by assumption) ?_
  refine x_iload_n (pc := 4) hC dX4_sumOf_4 rfl ?_
  refine x_iald (pc := 5) hC (by assumption) (by omega) dX4_sumOf_5 ?_
  refine x_if_ne (tgt := 11) (pc := 6) hC (by omega) dX4_sumOf_6 (by decide) (fun c6 => ?_) (fun c6 => ?_)
  · refine x_iconst (pc := 11) hC dX4_sumOf_11 ?_
    refine x_istore (L' := [_, _, _, _, _, _]) (pc := 12) hC dX4_sumOf_12 rfl rfl ?_
    refine x_iconst (pc := 14) hC dX4_sumOf_14 ?_
    refine x_istore (L' := [_, _, _, _, _, _]) (pc := 15) hC dX4_sumOf_15 rfl rfl ?_
    exact loop c6 (σ q 5).toNat 0 0 0 rfl (by omega) rfl
  · refine x_iload_n (pc := 9) hC dX4_sumOf_9 rfl ?_
    refine x_ireturn hC hZ dX4_sumOf_10 (by decide) (by decide) ?_
    refine ⟨congrArg (fun z => some (Value.int (iI z))) ?_, rfl, rfl, rfl⟩
    rw [if_neg (fun h => hc2.2.mpr h c6)]

set_option maxHeartbeats 4000000 in
set_option maxRecDepth 100000 in
theorem c_sumOf3 (E : xE) {σ : xM} {ρ : xR} {ks : xKs} {q : Nat} {z : zS} (hrm : RmP σ ρ ks q z) (hroom : RoomOk z) {kn : Nat} (hkn : ks[kn]? = some (1, 6)) {K : zS} (hK : ∀ j, 0 ≤ j → j ≤ 5 → σ kn j = K j) (hK2 : ∀ j, 0 ≤ j → j ≤ 5 → 0 ≤ K j ∧ K j ≤ 99) {wo : Int} : Sp E yX4_sumOf kX4_sumOf 2 0 0 [.ref q, .int (iI 3), .int (iI wo), .ref kn] σ ρ ks (Fn (some (.int (iI (if tellsF z 238 0 = 1 then coolF z K else wo)))) (σ) ρ ks) := by
  obtain ⟨hrk, hrm'⟩ := id hrm
  obtain ⟨ko, ⟨kb1, kb2, kb3, kb4, kb5⟩, r0, r1, r2, r3, r4⟩ := id hrk
  refine x_enter (own := RX4) (L := [_, _, _, _, _, _]) (by decide +kernel) rfl (by exact Nat.le_of_ble_eq_true rfl) rfl (fun p e R s m args below meth c Z hZ hC hR hin => ?_)
  obtain ⟨h11, h12, h5, hc2, hc3, P, hP0, hPC, hcl⟩ := hrm'
  have hfin : ∀ n : Nat, n < (tellsF z 228 0).toNat → stepOk (z (243 + 140 * z 20 + n)) (lkT z (243 + 140 * z 20) n) := fun n hn => hroom.2.2.1 n (by have := hroom.2.1; omega)
  have hval : (lkF z (243 + 140 * z 20) (σ kn) (fun _ => 0, 0, 0, 0) (tellsF z 228 0).toNat).2.2 = (smF σ q 2 z (243 + 140 * z 20) (σ kn) P (σ q 5).toNat, smF σ q 3 z (243 + 140 * z 20) (σ kn) P (σ q 5).toNat) := by
    rw [show (tellsF z 228 0).toNat = P (σ q 5).toNat by omega]
    exact sm_ok hP0 hcl _ (by omega)
  have loop : ¬ σ (q + 5) 3 = 0 → ∀ (i k : Nat) (j a : Int), j = k → (k : Int) + i = σ q 5 → a = smF σ q 3 z (243 + 140 * z 20) (σ kn) P k → X E p e R s m args below meth c Z 0 0 σ ρ ks 17 [some (.ref q), some (.int (iI 3)), some (.int (iI wo)), some (.ref kn), some (.int (iI a)), some (.int (iI j))] [] := by
    intro hcn i
    induction i with
    | zero =>
      intro k j a hj hi ha
      refine x_iload (pc := 17) hC dX4_sumOf_17 rfl ?_
      refine x_aload_n (pc := 19) hC dX4_sumOf_19 rfl ?_
      refine x_geti (K := 5) (pc := 20) hC fX4_27_4 (by assumption) dX4_sumOf_20 rfl rfl ?_
      refine x_icmp_ge (tgt := 88) (pc := 23) hC (by omega) (by omega) dX4_sumOf_23 (by decide) (fun c23 => ?_) (fun c23 => by (exfalso; omega))
      refine x_iload (pc := 88) hC dX4_sumOf_88 rfl ?_
      refine x_ireturn hC hZ dX4_sumOf_90 (by decide) (by decide) ?_
      refine ⟨congrArg (fun z => some (Value.int (iI z))) ?_, rfl, rfl, rfl⟩
      rw [if_pos (hc3.2.mp hcn)]
      unfold coolF
      rw [← lkF_K hK _ _ hfin, hval, ha, show (σ q 5).toNat = k by omega]
    | succ i ih =>
      intro k j a hj hi ha
      obtain ⟨g1, g2, g3, g4, g5⟩ := hcl k (by omega)
      rw [← hj] at g1 g2 g4 g5
      have hsm := sm_in (w := 3) (K := σ kn) hcl k (by omega)
      rw [← ha] at hsm
      refine x_iload (pc := 17) hC dX4_sumOf_17 rfl ?_
      refine x_aload_n (pc := 19) hC dX4_sumOf_19 rfl ?_
      refine x_geti (K := 5) (pc := 20) hC fX4_27_4 (by assumption) dX4_sumOf_20 rfl rfl ?_
      refine x_icmp_ge (tgt := 88) (pc := 23) hC (by omega) (by omega) dX4_sumOf_23 (by decide) (fun c23 => by (exfalso; omega)) (fun c23 => ?_)
      refine x_aload_n (pc := 26) hC dX4_sumOf_26 rfl ?_
      refine x_getr (K := 0) (pc := 27) hC fX4_11_4 (by assumption) dX4_sumOf_27 rfl rfl (by assumption) ?_
      refine x_iload (pc := 30) hC dX4_sumOf_30 rfl ?_
      refine x_iald (pc := 32) hC (by assumption) (by omega) dX4_sumOf_32 ?_
      refine x_iload_n (pc := 33) hC dX4_sumOf_33 rfl ?_
      refine x_icmp_ne (tgt := 82) (pc := 34) hC (by omega) (by omega) dX4_sumOf_34 (by decide) (fun c34 => ?_) (fun c34 => ?_)
      · refine x_iinc (L' := [_, _, _, _, _, _]) (pc := 82) hC dX4_sumOf_82 rfl rfl rfl ?_
        refine x_goto (tgt := 17) (pc := 85) hC dX4_sumOf_85 (by decide) ?_
        refine ih (k + 1) (j + 1) _ (by omega) (by omega) ?_
        rw [smF_s, ← ha, ← hj]
        rw [if_neg (fun h => c34 h.1), Int.add_zero]
      · obtain ⟨len, d1, d2, d3, d4, d5, d6, d7⟩ := g5 (by omega)
        have hE0 : 0 ≤ Ef σ q k := by
          unfold Ef
          split
          · omega
          · next hk0 =>
            obtain ⟨x, hx⟩ : ∃ x : Nat, k = x + 1 := ⟨k - 1, by omega⟩
            have := (hcl x (by omega)).2.2.1
            rw [Ef_s] at this
            rw [show ((k : Int) - 1) = (x : Int) by omega]
            exact this.1
        have e1 : σ (q + 3) j = Ef σ q k + len := by rw [hj, ← Ef_s σ q k]; exact d2
        have hPk := P_mono hcl (k + 1) ((σ q 5).toNat - (k + 1)) (by omega)
        rw [show k + 1 + ((σ q 5).toNat - (k + 1)) = (σ q 5).toNat by omega] at hPk
        refine x_aload_n (pc := 37) hC dX4_sumOf_37 rfl ?_
        refine x_iload (pc := 38) hC dX4_sumOf_38 rfl ?_
        refine x_if_ne (tgt := 47) (pc := 40) hC (by omega) dX4_sumOf_40 (by decide) (fun c40 => ?_) (fun c40 => ?_)
        · refine x_aload_n (pc := 47) hC dX4_sumOf_47 rfl ?_
          refine x_getr (K := 2) (pc := 48) hC fX4_18_4 (by assumption) dX4_sumOf_48 rfl rfl (by assumption) ?_
          refine x_iload (pc := 51) hC dX4_sumOf_51 rfl ?_
          refine x_iconst (pc := 53) hC dX4_sumOf_53 ?_
          refine x_isub (pc := 54) hC dX4_sumOf_54 ?_
          refine x_iald (pc := 55) hC (by assumption) (by omega) dX4_sumOf_55 ?_
          refine x_aload_n (pc := 56) hC dX4_sumOf_56 rfl ?_
          refine x_getr (K := 2) (pc := 57) hC fX4_18_4 (by assumption) dX4_sumOf_57 rfl rfl (by assumption) ?_
          refine x_iload (pc := 60) hC dX4_sumOf_60 rfl ?_
          refine x_iald (pc := 62) hC (by assumption) (by omega) dX4_sumOf_62 ?_
          refine x_aload_n (pc := 63) hC dX4_sumOf_63 rfl ?_
          refine X.stk (st' := [.ref kn, .int (iI (Ef σ q k + len)), .int (iI (Ef σ q k)), .ref q]) (by rw [e1, show Ef σ q k = σ (q + 3) (j - 1) by unfold Ef; rw [if_neg (by omega), hj]]) ?_
          refine x_callV1 (As := [_, _, _]) (Bs := [_, _, _]) (pc := 64) hC (c_holds E hrk hkn (n0 := P k) (z := z) (fr := 243 + 140 * z 20) ⟨hE0, by omega⟩ d4 (fun m hm => hfin m (by omega)) d5 d6 d7 (fun j h0 h1 => by rw [hK j h0 h1]; exact hK2 j h0 h1)) wX4_123_4 pX4_holds (by assumption) rfl rfl (by exact Nat.le_of_ble_eq_true rfl) hR (by decide) (by decide) (by decide) rfl dX4_sumOf_64 ?_
          refine x_ifB_eq (tgt := 82) (pc := 67) hC  dX4_sumOf_67 (by decide) (fun c67 => ?_) (fun c67 => ?_)
          · refine x_iinc (L' := [_, _, _, _, _, _]) (pc := 82) hC dX4_sumOf_82 rfl rfl rfl ?_
            refine x_goto (tgt := 17) (pc := 85) hC dX4_sumOf_85 (by decide) ?_
            refine ih (k + 1) (j + 1) _ (by omega) (by omega) ?_
            rw [smF_s, ← ha, ← hj]
            rw [show P (k + 1) - 1 = P k + len by omega, if_neg (fun h => c67 h.2), Int.add_zero]
          · refine x_iload (pc := 70) hC dX4_sumOf_70 rfl ?_
            refine x_aload_n (pc := 72) hC dX4_sumOf_72 rfl ?_
            refine x_getr (K := 1) (pc := 73) hC fX4_15_4 (by assumption) dX4_sumOf_73 rfl rfl (by assumption) ?_
            refine x_iload (pc := 76) hC dX4_sumOf_76 rfl ?_
            refine x_iald (pc := 78) hC (by assumption) (by omega) dX4_sumOf_78 ?_
            refine x_iadd (pc := 79) hC dX4_sumOf_79 ?_
            refine x_istore (L' := [_, _, _, _, _, _]) (pc := 80) hC dX4_sumOf_80 rfl rfl ?_
            refine x_iinc (L' := [_, _, _, _, _, _]) (pc := 82) hC dX4_sumOf_82 rfl rfl rfl ?_
            refine x_goto (tgt := 17) (pc := 85) hC dX4_sumOf_85 (by decide) ?_
            refine ih (k + 1) (j + 1) _ (by omega) (by omega) ?_
            rw [smF_s, ← ha, ← hj]
            rw [show P (k + 1) - 1 = P k + len by omega, if_pos ⟨c34, c67⟩]
        · refine x_iconst (pc := 43) hC dX4_sumOf_43 ?_
          refine x_goto (tgt := 56) (pc := 44) hC dX4_sumOf_44 (by decide) ?_
          refine x_aload_n (pc := 56) hC dX4_sumOf_56 rfl ?_
          refine x_getr (K := 2) (pc := 57) hC fX4_18_4 (by assumption) dX4_sumOf_57 rfl rfl (by assumption) ?_
          refine x_iload (pc := 60) hC dX4_sumOf_60 rfl ?_
          refine x_iald (pc := 62) hC (by assumption) (by omega) dX4_sumOf_62 ?_
          refine x_aload_n (pc := 63) hC dX4_sumOf_63 rfl ?_
          refine X.stk (st' := [.ref kn, .int (iI (Ef σ q k + len)), .int (iI (Ef σ q k)), .ref q]) (by rw [e1, show Ef σ q k = 0 by unfold Ef; rw [if_pos (by omega)]]) ?_
          refine x_callV1 (As := [_, _, _]) (Bs := [_, _, _]) (pc := 64) hC (c_holds E hrk hkn (n0 := P k) (z := z) (fr := 243 + 140 * z 20) ⟨hE0, by omega⟩ d4 (fun m hm => hfin m (by omega)) d5 d6 d7 (fun j h0 h1 => by rw [hK j h0 h1]; exact hK2 j h0 h1)) wX4_123_4 pX4_holds (by assumption) rfl rfl (by exact Nat.le_of_ble_eq_true rfl) hR (by decide) (by decide) (by decide) rfl dX4_sumOf_64 ?_
          refine x_ifB_eq (tgt := 82) (pc := 67) hC  dX4_sumOf_67 (by decide) (fun c67 => ?_) (fun c67 => ?_)
          · refine x_iinc (L' := [_, _, _, _, _, _]) (pc := 82) hC dX4_sumOf_82 rfl rfl rfl ?_
            refine x_goto (tgt := 17) (pc := 85) hC dX4_sumOf_85 (by decide) ?_
            refine ih (k + 1) (j + 1) _ (by omega) (by omega) ?_
            rw [smF_s, ← ha, ← hj]
            rw [show P (k + 1) - 1 = P k + len by omega, if_neg (fun h => c67 h.2), Int.add_zero]
          · refine x_iload (pc := 70) hC dX4_sumOf_70 rfl ?_
            refine x_aload_n (pc := 72) hC dX4_sumOf_72 rfl ?_
            refine x_getr (K := 1) (pc := 73) hC fX4_15_4 (by assumption) dX4_sumOf_73 rfl rfl (by assumption) ?_
            refine x_iload (pc := 76) hC dX4_sumOf_76 rfl ?_
            refine x_iald (pc := 78) hC (by assumption) (by omega) dX4_sumOf_78 ?_
            refine x_iadd (pc := 79) hC dX4_sumOf_79 ?_
            refine x_istore (L' := [_, _, _, _, _, _]) (pc := 80) hC dX4_sumOf_80 rfl rfl ?_
            refine x_iinc (L' := [_, _, _, _, _, _]) (pc := 82) hC dX4_sumOf_82 rfl rfl rfl ?_
            refine x_goto (tgt := 17) (pc := 85) hC dX4_sumOf_85 (by decide) ?_
            refine ih (k + 1) (j + 1) _ (by omega) (by omega) ?_
            rw [smF_s, ← ha, ← hj]
            rw [show P (k + 1) - 1 = P k + len by omega, if_pos ⟨c34, c67⟩]
  refine x_aload_n (pc := 0) hC dX4_sumOf_0 rfl ?_
  refine x_getr (K := 4) (pc := 1) hC fX4_24_4 (by assumption) dX4_sumOf_1 rfl rfl (by assumption) ?_
  refine x_iload_n (pc := 4) hC dX4_sumOf_4 rfl ?_
  refine x_iald (pc := 5) hC (by assumption) (by omega) dX4_sumOf_5 ?_
  refine x_if_ne (tgt := 11) (pc := 6) hC (by omega) dX4_sumOf_6 (by decide) (fun c6 => ?_) (fun c6 => ?_)
  · refine x_iconst (pc := 11) hC dX4_sumOf_11 ?_
    refine x_istore (L' := [_, _, _, _, _, _]) (pc := 12) hC dX4_sumOf_12 rfl rfl ?_
    refine x_iconst (pc := 14) hC dX4_sumOf_14 ?_
    refine x_istore (L' := [_, _, _, _, _, _]) (pc := 15) hC dX4_sumOf_15 rfl rfl ?_
    exact loop c6 (σ q 5).toNat 0 0 0 rfl (by omega) rfl
  · refine x_iload_n (pc := 9) hC dX4_sumOf_9 rfl ?_
    refine x_ireturn hC hZ dX4_sumOf_10 (by decide) (by decide) ?_
    refine ⟨congrArg (fun z => some (Value.int (iI z))) ?_, rfl, rfl, rfl⟩
    rw [if_neg (fun h => hc3.2.mpr h c6)]
