/-! reading a room -/
theorem RdC.oth {σ σ' : xM} {q : Nat} {en ac sp s' : Int} {z : zS} {i : Nat} {P : Nat → Nat} (h : RdC σ q en ac sp z i P) (hH : RdH σ' q z s' en) (hs : sp ≤ s') (h6 : σ' q 6 = σ q 6) (h11 : σ' q 11 = σ q 11) (h12 : σ' q 12 = σ q 12) (ho : ∀ p, p ≠ q → σ' p = σ p) : RdC σ' q en ac s' z i P := by
  obtain ⟨c1, ⟨c2, c3, c4, c5⟩, ⟨c6, c7, c8⟩, c9, c10, c11, c12, c13, c14⟩ := h
  have hE : ∀ k, Ef σ' q k = Ef σ q k := fun k => by unfold Ef; rw [ho _ (by omega)]
  unfold RdC
  rw [h6, h11, h12, ho (q + 5) (by omega)]
  refine ⟨hH, ⟨by rw [hE]; exact c2, c3, c4, by omega⟩, ⟨c6, c7, fun k hk => by rw [hE]; exact c8 k hk⟩, fun k hk => ?_, c10, c11, c12, c13, c14⟩
  exact (c9 k hk).mem (by rw [ho _ (by omega)]) (by rw [ho _ (by omega)]) (hE _) (hE _) (fun j _ => by rw [ho _ (by omega)]) rfl rfl (fun _ _ => rfl)
theorem clL_w {en ac : Int} {t : pT} (h : t.2.1 ≠ 0) : ∀ m : Nat, clL en ac m t = t
  | 0 => rfl
  | _ + 1 => if_neg (fun x => h x.1)
theorem clL_n {en ac : Int} {t : pT} (h : ¬ hereF t.2.2.2 t.1 en = 59) : ∀ m : Nat, clL en ac m t = t
  | 0 => rfl
  | _ + 1 => if_neg (fun x => h x.2)
theorem clL_y {en ac : Int} {t : pT} (hw : t.2.1 = 0) (h : hereF t.2.2.2 t.1 en = 59) (m : Nat) : clL en ac (m + 1) t = clL en ac m (clauseF en ac (t.1 + 1, t.2)) := if_pos ⟨hw, h⟩
theorem here_end {z : zS} {en : Int} : hereF z en en = -1 := if_neg (by omega)
/-- a clause that was read well -/
theorem clause_t {en ac sp : Int} {z : zS} (ha : 0 ≤ ac ∧ ac ≤ 4) (he : en ≤ 100) (h : PIn en ac (sp, 0, 0, z)) (hw : (clauseF en ac (sp, 0, 0, z)).2.1 = 0) : ∃ s2 z2, clauseF en ac (sp, 0, 0, z) = (s2, 0, 0, z2) ∧ PIn en ac (s2, 0, 0, z2) := by
  obtain ⟨h1, h2, h3⟩ := clause_in ha he h
  revert hw h1 h3
  generalize clauseF en ac (sp, 0, 0, z) = T
  obtain ⟨s2, w2, o2, z2⟩ := T
  intro hw h1 h3
  simp only at hw h3
  subst hw
  subst h3
  exact ⟨s2, z2, rfl, h1⟩
theorem c_readClauseJ (E : xE) {σ : xM} {ρ : xR} {ks : xKs} {q : Nat} (hk : RdK ks ρ q) {en ac sp : Int} {z : zS} {i : Nat} {P : Nat → Nat} (hac : 0 ≤ ac ∧ ac ≤ 4) (he : 0 ≤ en ∧ en ≤ 100) (hi : i < 10) (hC1 : RdC σ q en ac sp z i P) {j : Int} (hj : j = i) : Sp E yX4_readClause kX4_readClause 19 0 0 [.ref q, .int (iI j)] σ ρ ks (fun r σ' ρ' ks' => r = some (.int (iI (bI ((clauseF en ac (sp, 0, 0, z)).2.1 = 0)))) ∧ ρ' = ρ ∧ ks' = ks ∧ (∀ p, (p < q ∨ q + 5 < p) → σ' p = σ p) ∧ σ' q 10 = (clauseF en ac (sp, 0, 0, z)).1 ∧ ((clauseF en ac (sp, 0, 0, z)).2.1 = 0 → ∃ P', RdC σ' q en ac (clauseF en ac (sp, 0, 0, z)).1 (clauseF en ac (sp, 0, 0, z)).2.2.2 (i + 1) P')) := by
  subst hj
  exact c_readClause E hk hac he hi hC1
theorem RdH.oth' {σ : xM} {q : Nat} {z : zS} {sp en v : Int} (h : RdH σ q z sp en) {k : Int} (hk : k ≠ 10 ∧ k ≠ 8) (hq : q ≠ 15) : RdH (wr σ q k v) q z sp en := by
  obtain ⟨h1, h2, h3, h4⟩ := h
  exact ⟨by rw [wr_k _ _ _ (fun h => hk.1 h.symm)]; exact h1, by rw [wr_k _ _ _ (fun h => hk.2 h.symm)]; exact h2, fun j j0 j1 => by rw [wr_of _ (fun h => hq h.symm)]; exact h3 j j0 j1, h4⟩
set_option maxHeartbeats 4000000 in
set_option maxRecDepth 100000 in
theorem c_isRead (E : xE) {σ : xM} {ρ : xR} {ks : xKs} {q : Nat} (hk : RmK ks ρ q) (h15 : ks[15]? = some (1, 100)) (hq55 : 55 ≤ q) {en ac : Int} {z : zS} (hac : 0 ≤ ac ∧ ac ≤ 4) (he : 0 ≤ en ∧ en ≤ 100) (hpi : PIn en ac (0, 0, 0, z)) (hC0 : RdC (wr σ q 8 en) q en ac 0 z 0 (fun _ => 0)) : Sp E yX4_isRead kX4_isRead 20 0 0 [.ref q, .ref 15, .int (iI en)] σ ρ ks (fun r σ' ρ' ks' => r = some (.int (iI (bI ((clL en ac 9 (clauseF en ac (0, 0, 0, z))).2.1 = 0 ∧ (clL en ac 9 (clauseF en ac (0, 0, 0, z))).1 = en)))) ∧ ρ' = wq ρ q 7 (some 15) ∧ ks' = ks ∧ (∀ p, (p < q ∨ q + 5 < p) → σ' p = σ p) ∧ σ' q 10 = (clL en ac 9 (clauseF en ac (0, 0, 0, z))).1 ∧ ((clL en ac 9 (clauseF en ac (0, 0, 0, z))).2.1 = 0 → (clL en ac 9 (clauseF en ac (0, 0, 0, z))).1 = en → ∃ (i : Nat) (P : Nat → Nat), (1 ≤ i ∧ i ≤ 10) ∧ σ' q 5 = i ∧ RdC σ' q en ac en (clL en ac 9 (clauseF en ac (0, 0, 0, z))).2.2.2 i P)) := by
  refine x_enter (own := RX4) (L := [_, _, _, _]) (by decide +kernel) rfl (by exact Nat.le_of_ble_eq_true rfl) rfl (fun p e R sv m args below meth c Z hZ hC hR hin => ?_)
  obtain ⟨g0, ⟨g1, g2, g3, g4, g5⟩, s0, s1, s2', s3, s4⟩ := id hk
  have hk1 : RdK ks (wq ρ q 7 (some 15)) q := by
    refine ⟨⟨g0, ⟨g1, g2, g3, g4, g5⟩, ?_, ?_, ?_, ?_, ?_⟩, h15, wq_eq _ _ _ _, hq55⟩ <;> rw [wq_k _ _ _ (by decide)] <;> assumption
  have loop : ∀ (N i : Nat) (j s : Int) (σ1 : xM) (z1 : zS) (P : Nat → Nat), i + N = 10 → 1 ≤ i → j = i → PIn en ac (s, 0, 0, z1) → s ≠ en → RdC σ1 q en ac s z1 i P → (∀ p, (p < q ∨ q + 5 < p) → σ1 p = σ p) → clL en ac N (s, 0, 0, z1) = clL en ac 9 (clauseF en ac (0, 0, 0, z)) → X E p e R sv m args below meth c Z 0 0 σ1 (wq ρ q 7 (some 15)) ks 17 [some (.ref q), some (.ref 15), some (.int (iI en)), some (.int (iI j))] [] := by
    intro N
    induction N with
    | zero =>
      intro i j s σ1 z1 P hiN hi1 hj hpi hne hC1 hfr hT
      have hi10 : i = 10 := by omega
      refine x_iload_n (pc := 17) hC dX4_isRead_17 rfl ?_
      refine x_bipush (pc := 18) hC dX4_isRead_18 (by decide +kernel) ?_
      refine x_icmp_ge (tgt := 72) (pc := 20) hC (by omega) (by omega) dX4_isRead_20 (by decide) (fun c20 => ?_) (fun c20 => by (exfalso; omega))
      refine x_iconst (pc := 72) hC dX4_isRead_72 ?_
      refine x_zreturn hC hZ (by omega) dX4_isRead_73 (by decide) (by decide) ?_
      rw [← hT]
      exact ⟨by rw [bI_f (fun h => hne h.2)], rfl, rfl, hfr, hC1.1.1, fun _ h => absurd h hne⟩
    | succ N ih =>
      intro i j s σ1 z1 P hiN hi1 hj hpi hne hC1 hfr hT
      have hh : RdH σ1 q z1 s en := hC1.1
      obtain ⟨h10, h8, htp, hen, hsp, htk⟩ := id hh
      have hhr := here_in htk hsp.1 hen.2
      refine x_iload_n (pc := 17) hC dX4_isRead_17 rfl ?_
      refine x_bipush (pc := 18) hC dX4_isRead_18 (by decide +kernel) ?_
      refine x_icmp_ge (tgt := 72) (pc := 20) hC (by omega) (by omega) dX4_isRead_20 (by decide) (fun c20 => by (exfalso; omega)) (fun c20 => ?_)
      refine x_iload_n (pc := 23) hC dX4_isRead_23 rfl ?_
      refine x_if_le (tgt := 36) (pc := 24) hC (by omega) dX4_isRead_24 (by decide) (fun c24 => by (exfalso; omega)) (fun c24 => ?_)
      refine x_aload_n (pc := 27) hC dX4_isRead_27 rfl ?_
      refine x_bipush (pc := 28) hC dX4_isRead_28 (by decide +kernel) ?_
      refine x_callV1 (As := [_]) (Bs := [_]) (pc := 30) hC (c_hasTaken E hk1 hh (a := 59) ⟨by decide, by decide⟩) wX4_58_4 pX4_hasTaken (by assumption) rfl rfl (by exact Nat.le_of_ble_eq_true rfl) hR (by decide) (by decide) (by decide) rfl dX4_isRead_30 ?_
      refine x_ifB_eq (tgt := 44) (pc := 33) hC  dX4_isRead_33 (by decide) (fun c33 => ?_) (fun c33 => ?_)
      · refine x_iconst (pc := 44) hC dX4_isRead_44 ?_
        refine x_zreturn hC hZ (by omega) dX4_isRead_45 (by decide) (by decide) ?_
        rw [if_neg c33, ← hT, clL_n (t := (s, 0, 0, z1)) c33]
        exact ⟨by rw [bI_f (fun h => hne h.2)], rfl, rfl, hfr, hC1.1.1, fun _ h => absurd h hne⟩
      · refine X.mem (if_pos c33) ?_
        have hlt : s < en := by omega
        have hC1b : RdC (wr σ1 q 10 (s + 1)) q en ac (s + 1) z1 i P := hC1.oth (hh.adv hq55 (by omega)) (by omega) (wr_k _ _ _ (by decide) _) (wr_k _ _ _ (by decide) _) (wr_k _ _ _ (by decide) _) (fun p hp => wr_of _ hp _ _)
        have hpi1 : PIn en ac (s + 1, 0, 0, z1) := hpi.adv hlt
        have hfr1 : ∀ p, (p < q ∨ q + 5 < p) → wr σ1 q 10 (s + 1) p = σ p := fun p hp => by rw [wr_of _ (by omega)]; exact hfr p hp
        refine x_aload_n (pc := 36) hC dX4_isRead_36 rfl ?_
        refine x_iload_n (pc := 37) hC dX4_isRead_37 rfl ?_
        refine x_callV (As := [_]) (Bs := [_]) (pc := 38) hC (c_readClauseJ E hk1 hac he (i := i) (by omega) hC1b hj) wX4_62_4 pX4_readClause (by assumption) rfl rfl (by exact Nat.le_of_ble_eq_true rfl) hR (by decide) (by decide) (by decide) rfl dX4_isRead_38 (fun r38 σ38 ρ38 ks38 q38 => ?_)
        obtain ⟨r38a, e38, f38, fr38, n38, c38⟩ := q38
        obtain rfl := r38a.symm
        obtain rfl := e38.symm
        obtain rfl := f38.symm
        refine x_ifB_ne (tgt := 46) (pc := 41) hC  dX4_isRead_41 (by decide) (fun c41 => ?_) (fun c41 => ?_)
        · obtain ⟨s2, z2, hce, hpi2⟩ := clause_t hac he.2 hpi1 c41
          obtain ⟨P2, hC2⟩ := c38 c41
          rw [hce] at n38 hC2
          simp only at n38 hC2
          have hC3 : RdC (wr σ38 q 5 (j + 1)) q en ac s2 z2 (i + 1) P2 := hC2.oth (hC2.1.oth' (by decide) (by omega)) (Int.le_refl _) (wr_k _ _ _ (by decide) _) (wr_k _ _ _ (by decide) _) (wr_k _ _ _ (by decide) _) (fun p hp => wr_of _ hp _ _)
          have h8' := hC2.1.2.1
          have hpi2s := hpi2.1
          simp only at hpi2s
          refine x_aload_n (pc := 46) hC dX4_isRead_46 rfl ?_
          refine x_iload_n (pc := 47) hC dX4_isRead_47 rfl ?_
          refine x_iconst (pc := 48) hC dX4_isRead_48 ?_
          refine x_iadd (pc := 49) hC dX4_isRead_49 ?_
          refine x_puti (K := 5) (pc := 50) hC rfl fX4_27_4 rfl (by assumption) dX4_isRead_50 rfl ?_
          refine x_aload_n (pc := 53) hC dX4_isRead_53 rfl ?_
          refine x_geti (K := 10) (pc := 54) hC fX4_43_4 (by assumption) dX4_isRead_54 rfl rfl ?_
          rw [wr_k _ _ _ (by decide), n38]
          refine x_aload_n (pc := 57) hC dX4_isRead_57 rfl ?_
          refine x_geti (K := 8) (pc := 58) hC fX4_37_4 (by assumption) dX4_isRead_58 rfl rfl ?_
          rw [wr_k _ _ _ (by decide), h8']
          refine x_icmp_ne (tgt := 66) (pc := 61) hC (by omega) (by omega) dX4_isRead_61 (by decide) (fun c61 => ?_) (fun c61 => ?_)
          · refine x_iinc (L' := [_, _, _, _]) (pc := 66) hC dX4_isRead_66 rfl rfl rfl ?_
            refine x_goto (tgt := 17) (pc := 69) hC dX4_isRead_69 (by decide) ?_
            exact ih (i + 1) (j + 1) s2 _ z2 P2 (by omega) (by omega) (by omega) hpi2 c61 hC3 (fun p hp => by rw [wr_of _ (by omega)]; exact (fr38 p hp).trans (hfr1 p hp)) (by rw [← hT, clL_y rfl c33, ← hce])
          · refine x_iconst (pc := 64) hC dX4_isRead_64 ?_
            refine x_zreturn hC hZ (by omega) dX4_isRead_65 (by decide) (by decide) ?_
            rw [← hT, clL_y rfl c33]
            have hn59 : ¬ hereF z2 s2 en = 59 := by rw [c61, here_end]; decide
            rw [hce, clL_n (t := (s2, 0, 0, z2)) hn59]
            exact ⟨by rw [bI_t ⟨rfl, c61⟩], rfl, rfl, fun p hp => by rw [wr_of _ (by omega)]; exact (fr38 p hp).trans (hfr1 p hp), by rw [wr_k _ _ _ (by decide)]; exact n38, fun _ _ => ⟨i + 1, P2, by omega, by rw [wr_eq]; omega, c61 ▸ hC3⟩⟩
        · refine x_iconst (pc := 44) hC dX4_isRead_44 ?_
          refine x_zreturn hC hZ (by omega) dX4_isRead_45 (by decide) (by decide) ?_
          rw [← hT, clL_y rfl c33]
          rw [clL_w (t := clauseF en ac (s + 1, 0, 0, z1)) c41]
          exact ⟨by rw [bI_f (fun h => c41 h.1)], rfl, rfl, fun p hp => (fr38 p hp).trans (hfr1 p hp), n38, fun h => absurd h c41⟩
  have hfr0 : ∀ p, (p < q ∨ q + 5 < p) → wr σ q 8 en p = σ p := fun p hp => wr_of _ (by omega) _ _
  refine x_aload_n (pc := 0) hC dX4_isRead_0 rfl ?_
  refine x_aload_n (pc := 1) hC dX4_isRead_1 rfl ?_
  refine x_putr (K := 7) (pc := 2) hC rfl (some 15) fX4_34_4 (Or.inl rfl) (by assumption) dX4_isRead_2 rfl rfl ?_
  refine x_aload_n (pc := 5) hC dX4_isRead_5 rfl ?_
  refine x_iload_n (pc := 6) hC dX4_isRead_6 rfl ?_
  refine x_aload_n (pc := 7) hC dX4_isRead_7 rfl ?_
  refine x_alen1 (K := 100) (pc := 8) hC (by assumption) rfl dX4_isRead_8 ?_
  refine x_min (pc := 9) hC wX4_52 hR (by decide) (by decide) rfl (by exact Nat.le_of_ble_eq_true rfl) (by omega) (by omega) dX4_isRead_9 ?_
  rw [show mnI en 100 = en by unfold mnI; rw [if_neg (by omega)]]
  refine x_puti (K := 8) (pc := 12) hC rfl fX4_37_4 rfl (by assumption) dX4_isRead_12 rfl ?_
  refine x_iconst (pc := 15) hC dX4_isRead_15 ?_
  refine x_istore_n (L' := [_, _, _, _]) (pc := 16) hC dX4_isRead_16 rfl rfl ?_
  refine x_iload_n (pc := 17) hC dX4_isRead_17 rfl ?_
  refine x_bipush (pc := 18) hC dX4_isRead_18 (by decide +kernel) ?_
  refine x_icmp_ge (tgt := 72) (pc := 20) hC (by omega) (by omega) dX4_isRead_20 (by decide) (fun c20 => by (exfalso; omega)) (fun c20 => ?_)
  refine x_iload_n (pc := 23) hC dX4_isRead_23 rfl ?_
  refine x_if_le (tgt := 36) (pc := 24) hC (by omega) dX4_isRead_24 (by decide) (fun c24 => ?_) (fun c24 => by (exfalso; omega))
  refine x_aload_n (pc := 36) hC dX4_isRead_36 rfl ?_
  refine x_iload_n (pc := 37) hC dX4_isRead_37 rfl ?_
  refine X.mem (σ' := wr σ q 8 en) rfl ?_
  refine x_callV (As := [_]) (Bs := [_]) (pc := 38) hC (c_readClauseJ E hk1 hac he (i := 0) (by decide) hC0 (j := 0) rfl) wX4_62_4 pX4_readClause (by assumption) rfl rfl (by exact Nat.le_of_ble_eq_true rfl) hR (by decide) (by decide) (by decide) rfl dX4_isRead_38 (fun r38 σ38 ρ38 ks38 q38 => ?_)
  obtain ⟨r38a, e38, f38, fr38, n38, c38⟩ := q38
  obtain rfl := r38a.symm
  obtain rfl := e38.symm
  obtain rfl := f38.symm
  refine x_ifB_ne (tgt := 46) (pc := 41) hC  dX4_isRead_41 (by decide) (fun c41 => ?_) (fun c41 => ?_)
  · obtain ⟨s2, z2, hce, hpi2⟩ := clause_t hac he.2 hpi c41
    obtain ⟨P2, hC2⟩ := c38 c41
    rw [hce] at n38 hC2
    simp only at n38 hC2
    have hC3 : RdC (wr σ38 q 5 (0 + 1)) q en ac s2 z2 (0 + 1) P2 := hC2.oth (hC2.1.oth' (by decide) (by omega)) (Int.le_refl _) (wr_k _ _ _ (by decide) _) (wr_k _ _ _ (by decide) _) (wr_k _ _ _ (by decide) _) (fun p hp => wr_of _ hp _ _)
    have h8' := hC2.1.2.1
    have hpi2s := hpi2.1
    simp only at hpi2s
    refine x_aload_n (pc := 46) hC dX4_isRead_46 rfl ?_
    refine x_iload_n (pc := 47) hC dX4_isRead_47 rfl ?_
    refine x_iconst (pc := 48) hC dX4_isRead_48 ?_
    refine x_iadd (pc := 49) hC dX4_isRead_49 ?_
    refine x_puti (K := 5) (pc := 50) hC rfl fX4_27_4 rfl (by assumption) dX4_isRead_50 rfl ?_
    refine x_aload_n (pc := 53) hC dX4_isRead_53 rfl ?_
    refine x_geti (K := 10) (pc := 54) hC fX4_43_4 (by assumption) dX4_isRead_54 rfl rfl ?_
    rw [wr_k _ _ _ (by decide), n38]
    refine x_aload_n (pc := 57) hC dX4_isRead_57 rfl ?_
    refine x_geti (K := 8) (pc := 58) hC fX4_37_4 (by assumption) dX4_isRead_58 rfl rfl ?_
    rw [wr_k _ _ _ (by decide), h8']
    refine x_icmp_ne (tgt := 66) (pc := 61) hC (by omega) (by omega) dX4_isRead_61 (by decide) (fun c61 => ?_) (fun c61 => ?_)
    · refine x_iinc (L' := [_, _, _, _]) (pc := 66) hC dX4_isRead_66 rfl rfl rfl ?_
      refine x_goto (tgt := 17) (pc := 69) hC dX4_isRead_69 (by decide) ?_
      exact loop 9 1 (0 + 1) s2 _ z2 P2 (by omega) (by omega) (by omega) hpi2 c61 hC3 (fun p hp => by rw [wr_of _ (by omega)]; exact (fr38 p hp).trans (hfr0 p hp)) (by rw [← hce])
    · refine x_iconst (pc := 64) hC dX4_isRead_64 ?_
      refine x_zreturn hC hZ (by omega) dX4_isRead_65 (by decide) (by decide) ?_
      have hn59 : ¬ hereF z2 s2 en = 59 := by rw [c61, here_end]; decide
      rw [hce, clL_n (t := (s2, 0, 0, z2)) hn59]
      exact ⟨by rw [bI_t ⟨rfl, c61⟩], rfl, rfl, fun p hp => by rw [wr_of _ (by omega)]; exact (fr38 p hp).trans (hfr0 p hp), by rw [wr_k _ _ _ (by decide)]; exact n38, fun _ _ => ⟨1, P2, by omega, by rw [wr_eq]; rfl, c61 ▸ hC3⟩⟩
  · refine x_iconst (pc := 44) hC dX4_isRead_44 ?_
    refine x_zreturn hC hZ (by omega) dX4_isRead_45 (by decide) (by decide) ?_
    rw [clL_w (t := clauseF en ac (0, 0, 0, z)) c41]
    exact ⟨by rw [bI_f (fun h => c41 h.1)], rfl, rfl, fun p hp => (fr38 p hp).trans (hfr0 p hp), n38, fun h => absurd h c41⟩
