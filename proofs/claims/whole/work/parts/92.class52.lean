def onKs : xKs := [(0, 11), (0, 1)] ++ hallKs ++ [(0, 1)] ++ hallKs ++ [(0, 5), (1, 6), (1, 6), (1, 6), (1, 6), (1, 6), (1, 10), (0, 8), (1, 20)]
theorem onKs_l : onKs.length = 46 := by decide
theorem ol0 : ([((0 : Nat), (11 : Nat))]).length = 1 := by decide
theorem oq0 : ([((0 : Nat), (11 : Nat))])[0]? = some (0, 11) := by decide
theorem ol1 : ([((0 : Nat), (11 : Nat))] ++ [(0, 1)]).length = 2 := by decide
theorem oq1 : ([((0 : Nat), (11 : Nat))] ++ [(0, 1)])[0]? = some (0, 11) := by decide
theorem ol2 : ([((0 : Nat), (11 : Nat))] ++ [(0, 1)] ++ hallKs).length = 19 := by decide
theorem oq2 : ([((0 : Nat), (11 : Nat))] ++ [(0, 1)] ++ hallKs)[0]? = some (0, 11) := by decide
theorem ol3 : ([((0 : Nat), (11 : Nat))] ++ [(0, 1)] ++ hallKs ++ [(0, 1)]).length = 20 := by decide
theorem oq3 : ([((0 : Nat), (11 : Nat))] ++ [(0, 1)] ++ hallKs ++ [(0, 1)])[0]? = some (0, 11) := by decide
theorem ol4 : ([((0 : Nat), (11 : Nat))] ++ [(0, 1)] ++ hallKs ++ [(0, 1)] ++ hallKs).length = 37 := by decide
theorem oq4 : ([((0 : Nat), (11 : Nat))] ++ [(0, 1)] ++ hallKs ++ [(0, 1)] ++ hallKs)[0]? = some (0, 11) := by decide
theorem ol5 : ([((0 : Nat), (11 : Nat))] ++ [(0, 1)] ++ hallKs ++ [(0, 1)] ++ hallKs ++ [(0, 5)]).length = 38 := by decide
theorem oq5 : ([((0 : Nat), (11 : Nat))] ++ [(0, 1)] ++ hallKs ++ [(0, 1)] ++ hallKs ++ [(0, 5)])[0]? = some (0, 11) := by decide
theorem ol6 : ([((0 : Nat), (11 : Nat))] ++ [(0, 1)] ++ hallKs ++ [(0, 1)] ++ hallKs ++ [(0, 5)] ++ [(1, 6), (1, 6), (1, 6), (1, 6), (1, 6)]).length = 43 := by decide
theorem oq6 : ([((0 : Nat), (11 : Nat))] ++ [(0, 1)] ++ hallKs ++ [(0, 1)] ++ hallKs ++ [(0, 5)] ++ [(1, 6), (1, 6), (1, 6), (1, 6), (1, 6)])[0]? = some (0, 11) := by decide
theorem ol7 : ([((0 : Nat), (11 : Nat))] ++ [(0, 1)] ++ hallKs ++ [(0, 1)] ++ hallKs ++ [(0, 5)] ++ [(1, 6), (1, 6), (1, 6), (1, 6), (1, 6)] ++ [(1, 10)]).length = 44 := by decide
theorem oq7 : ([((0 : Nat), (11 : Nat))] ++ [(0, 1)] ++ hallKs ++ [(0, 1)] ++ hallKs ++ [(0, 5)] ++ [(1, 6), (1, 6), (1, 6), (1, 6), (1, 6)] ++ [(1, 10)])[0]? = some (0, 11) := by decide
theorem ol8 : ([((0 : Nat), (11 : Nat))] ++ [(0, 1)] ++ hallKs ++ [(0, 1)] ++ hallKs ++ [(0, 5)] ++ [(1, 6), (1, 6), (1, 6), (1, 6), (1, 6)] ++ [(1, 10)] ++ [(0, 8)]).length = 45 := by decide
theorem oq8 : ([((0 : Nat), (11 : Nat))] ++ [(0, 1)] ++ hallKs ++ [(0, 1)] ++ hallKs ++ [(0, 5)] ++ [(1, 6), (1, 6), (1, 6), (1, 6), (1, 6)] ++ [(1, 10)] ++ [(0, 8)])[0]? = some (0, 11) := by decide
theorem ol9 : ([((0 : Nat), (11 : Nat))] ++ [(0, 1)] ++ hallKs ++ [(0, 1)] ++ hallKs ++ [(0, 5)] ++ [(1, 6), (1, 6), (1, 6), (1, 6), (1, 6)] ++ [(1, 10)] ++ [(0, 8)] ++ [(1, 20)]).length = 46 := by decide
theorem oq9 : ([((0 : Nat), (11 : Nat))] ++ [(0, 1)] ++ hallKs ++ [(0, 1)] ++ hallKs ++ [(0, 5)] ++ [(1, 6), (1, 6), (1, 6), (1, 6), (1, 6)] ++ [(1, 10)] ++ [(0, 8)] ++ [(1, 20)])[0]? = some (0, 11) := by decide
theorem om1 : ([((0 : Nat), (11 : Nat))] ++ [(0, 1)])[1]? = some (0, 1) := by decide
theorem om3 : ([((0 : Nat), (11 : Nat))] ++ [(0, 1)] ++ hallKs ++ [(0, 1)])[19]? = some (0, 1) := by decide
theorem om5 : ([((0 : Nat), (11 : Nat))] ++ [(0, 1)] ++ hallKs ++ [(0, 1)] ++ hallKs ++ [(0, 5)])[37]? = some (0, 5) := by decide
theorem om8 : ([((0 : Nat), (11 : Nat))] ++ [(0, 1)] ++ hallKs ++ [(0, 1)] ++ hallKs ++ [(0, 5)] ++ [(1, 6), (1, 6), (1, 6), (1, 6), (1, 6)] ++ [(1, 10)] ++ [(0, 8)])[44]? = some (0, 8) := by decide
theorem ok2 : ∀ p, p < 19 → onKs[p]? = ([((0 : Nat), (11 : Nat))] ++ [(0, 1)] ++ hallKs)[p]? := by decide
theorem ok4 : ∀ p, p < 37 → onKs[p]? = ([((0 : Nat), (11 : Nat))] ++ [(0, 1)] ++ hallKs ++ [(0, 1)] ++ hallKs)[p]? := by decide
set_option maxHeartbeats 4000000 in
set_option maxRecDepth 100000 in
theorem c_initO (E : xE) {σ : xM} {ρ : xR} : Sp E yX11_init kX11_init 3 45 790 [.ref 0] σ ρ [(0, 11)] (fun r σ' ρ' ks' => r = none ∧ ks' = onKs ∧ WK ks' ρ' ∧ HZ σ' ρ' ks' 1 z0R ∧ σ' 0 2 = 0 ∧ σ' 44 1 = 0 ∧ σ' 45 = fun _ => 0) := by
  refine x_enter (own := RX11) (L := [_]) (by decide +kernel) rfl (by exact Nat.le_of_ble_eq_true rfl) rfl (fun p e R s m args below meth c Z hZ hC hR hin => ?_)
  have hq0 := oq0
  refine x_aload_n (pc := 0) hC dX11_init_0 rfl ?_
  refine x_objInit (pc := 1) hC hR (by decide) wX11_3 (by exact Nat.le_of_ble_eq_true rfl) rfl dX11_init_1 ?_
  refine x_aload_n (pc := 4) hC dX11_init_4 rfl ?_
  refine x_new (pc := 5) hC (by decide) uwX1 nX11_9 hR (by decide) dX11_init_5 ?_
  rw [ol0]
  have hq1 := oq1
  refine x_dup (pc := 8) hC dX11_init_8 rfl ?_
  refine x_callIN (As := []) (Bs := []) (pc := 9) hC (c_initH E (Or.inl rfl) ol1 om1) wX11_11 pX1_init rfl rfl (by exact Nat.le_of_ble_eq_true rfl) hR (by decide) (by decide) (by decide) rfl dX11_init_9 (fun r9 σ9 ρ9 ks9 q9 => ?_)
  obtain ⟨rfl, e9, fr9, hb9, hz9⟩ := q9
  subst e9
  have hq2 := oq2
  refine x_putr (K := 0) (pc := 12) hC rfl (some _) fX11_12_11 (Or.inr ⟨hin, rfl⟩) (by assumption) dX11_init_12 rfl rfl ?_
  refine x_aload_n (pc := 15) hC dX11_init_15 rfl ?_
  refine x_new (pc := 16) hC (by decide) uwX1 nX11_9 hR (by decide) dX11_init_16 ?_
  rw [ol2]
  have hq3 := oq3
  refine x_dup (pc := 19) hC dX11_init_19 rfl ?_
  refine x_callIN (As := []) (Bs := []) (pc := 20) hC (c_initH E (Or.inr rfl) ol3 om3) wX11_11 pX1_init rfl rfl (by exact Nat.le_of_ble_eq_true rfl) hR (by decide) (by decide) (by decide) rfl dX11_init_20 (fun r20 σ20 ρ20 ks20 q20 => ?_)
  obtain ⟨rfl, e20, fr20, hb20, hz20⟩ := q20
  subst e20
  have hq4 := oq4
  refine x_putr (K := 1) (pc := 23) hC rfl (some _) fX11_18_11 (Or.inr ⟨hin, rfl⟩) (by assumption) dX11_init_23 rfl rfl ?_
  refine x_aload_n (pc := 26) hC dX11_init_26 rfl ?_
  refine x_iconst (pc := 27) hC dX11_init_27 ?_
  refine x_putz (K := 2) (pc := 28) hC rfl fX11_21_11 rfl (by assumption) dX11_init_28 rfl (by omega) ?_
  refine x_aload_n (pc := 31) hC dX11_init_31 rfl ?_
  refine x_new (pc := 32) hC (by decide) uwX5 nX11_25 hR (by decide) dX11_init_32 ?_
  rw [ol4]
  have hq5 := oq5
  refine x_dup (pc := 35) hC dX11_init_35 rfl ?_
  refine x_callIN (As := []) (Bs := []) (pc := 36) hC (c_initS E ol5 om5) wX11_27 pX5_init rfl rfl (by exact Nat.le_of_ble_eq_true rfl) hR (by decide) (by decide) (by decide) rfl dX11_init_36 (fun r36 σ36 ρ36 ks36 q36 => ?_)
  obtain ⟨rfl, e36, fr36, sv36, rv36⟩ := q36
  subst e36
  have hq6 := oq6
  refine x_putr (K := 3) (pc := 39) hC rfl (some _) fX11_28_11 (Or.inr ⟨hin, rfl⟩) (by assumption) dX11_init_39 rfl rfl ?_
  refine x_aload_n (pc := 42) hC dX11_init_42 rfl ?_
  refine x_bipush (pc := 43) hC dX11_init_43 (by decide +kernel) ?_
  refine x_newI (n := 10) (pc := 45) hC rfl a_int (by decide) hR (by decide) dX11_init_45 ?_
  rw [ol6]
  have hq7 := oq7
  refine x_putr (K := 4) (pc := 47) hC rfl (some _) fX11_32_11 (Or.inr ⟨hin, rfl⟩) (by assumption) dX11_init_47 rfl rfl ?_
  refine x_aload_n (pc := 50) hC dX11_init_50 rfl ?_
  refine x_new (pc := 51) hC (by decide) uwX8 nX11_36 hR (by decide) dX11_init_51 ?_
  rw [ol7]
  have hq8 := oq8
  refine x_dup (pc := 54) hC dX11_init_54 rfl ?_
  refine x_callIN (As := []) (Bs := []) (pc := 55) hC (c_initT E ol8 om8) wX11_38 pX8_init rfl rfl (by exact Nat.le_of_ble_eq_true rfl) hR (by decide) (by decide) (by decide) rfl dX11_init_55 (fun r55 σ55 ρ55 ks55 q55 => ?_)
  obtain ⟨rfl, e55, fr55, sv55, rv55⟩ := q55
  subst e55
  have hq9 := oq9
  refine x_putr (K := 5) (pc := 58) hC rfl (some _) fX11_39_11 (Or.inr ⟨hin, rfl⟩) (by assumption) dX11_init_58 rfl rfl ?_
  refine x_return hC hZ dX11_init_61 (by decide) (by decide) ?_
  have h1 : ∀ p, p < 44 → p ≠ 0 → p ≠ 43 → σ55 p = σ36 p := fun p p1 p2 p3 => by
    rw [(fr55 p p1).1]; funext j; simp (disch := omega) only [wr_p, wr_k, wr_eq, zr_p, zr_eq, wr_of]
  have h2 : ∀ p, p < 37 → p ≠ 0 → σ36 p = σ20 p := fun p p1 p2 => by
    rw [(fr36 p p1).1]; funext j; simp (disch := omega) only [wr_p, wr_k, wr_eq, zr_p, zr_eq, wr_of]
  have h3 : ∀ p, p < 19 → p ≠ 0 → σ20 p = σ9 p := fun p p1 p2 => by
    rw [(fr20 p p1).1]; funext j; simp (disch := omega) only [wr_p, wr_k, wr_eq, zr_p, zr_eq, wr_of]
  have g1 : ∀ p, p < 44 → p ≠ 0 → p ≠ 43 → ρ55 p = ρ36 p := fun p p1 p2 p3 => by
    rw [(fr55 p p1).2]; funext j; simp (disch := omega) only [wq_p, wq_k, wq_eq, nr_o]
  have g2 : ∀ p, p < 37 → p ≠ 0 → ρ36 p = ρ20 p := fun p p1 p2 => by
    rw [(fr36 p p1).2]; funext j; simp (disch := omega) only [wq_p, wq_k, wq_eq, nr_o]
  have g3 : ∀ p, p < 19 → p ≠ 0 → ρ20 p = ρ9 p := fun p p1 p2 => by
    rw [(fr20 p p1).2]; funext j; simp (disch := omega) only [wq_p, wq_k, wq_eq, nr_o]
  obtain ⟨v1, v2, v3, v4, v5⟩ := rv36
  obtain ⟨s36, sa36⟩ := sv36
  have hF : [((0 : Nat), (11 : Nat))] ++ [(0, 1)] ++ hallKs ++ [(0, 1)] ++ hallKs ++ [(0, 5)] ++ [(1, 6), (1, 6), (1, 6), (1, 6), (1, 6)] ++ [(1, 10)] ++ [(0, 8)] ++ [(1, 20)] = onKs := by decide
  have o0 : ρ55 0 0 = some 1 := by
    rw [(fr55 0 (by decide)).2]; simp (disch := omega) only [wq_p, wq_k, wq_eq, nr_o]; rw [(fr36 0 (by decide)).2]; simp (disch := omega) only [wq_p, wq_k, wq_eq, nr_o]; rw [(fr20 0 (by decide)).2]; simp (disch := omega) only [wq_p, wq_k, wq_eq, nr_o]
  have o1 : ρ55 0 1 = some 19 := by
    rw [(fr55 0 (by decide)).2]; simp (disch := omega) only [wq_p, wq_k, wq_eq, nr_o]; rw [(fr36 0 (by decide)).2]; simp (disch := omega) only [wq_p, wq_k, wq_eq, nr_o]
  have o3 : ρ55 0 3 = some 37 := by
    rw [(fr55 0 (by decide)).2]; simp (disch := omega) only [wq_p, wq_k, wq_eq, nr_o]
  have o4 : ρ55 0 4 = some 43 := by
    rw [(fr55 0 (by decide)).2]; simp (disch := omega) only [wq_p, wq_k, wq_eq, nr_o]
  have o2 : σ55 0 2 = 0 := by
    rw [(fr55 0 (by decide)).1]; simp (disch := omega) only [wr_p, wr_k, wr_eq, zr_p, zr_eq, wr_of]; rw [(fr36 0 (by decide)).1]; simp (disch := omega) only [wr_p, wr_k, wr_eq, zr_p, zr_eq, wr_of]
  rw [hF]
  have q1 : ∀ p, p < 19 → p ≠ 0 → σ55 p = σ9 p ∧ wq ρ55 0 5 (some 44) p = ρ9 p := fun p p1 p2 => ⟨by rw [h1 p (by omega) p2 (by omega), h2 p (by omega) p2, h3 p p1 p2], by funext j; rw [wq_p _ p2, g1 p (by omega) p2 (by omega), g2 p (by omega) p2, g3 p p1 p2]⟩
  have q2 : ∀ p, p < 37 → p ≠ 0 → σ55 p = σ20 p ∧ wq ρ55 0 5 (some 44) p = ρ20 p := fun p p1 p2 => ⟨by rw [h1 p (by omega) p2 (by omega), h2 p p1 p2], by funext j; rw [wq_p _ p2, g1 p (by omega) p2 (by omega), g2 p p1 p2]⟩
  have hb1 : HKB onKs (wq ρ55 0 5 (some 44)) 1 := by
    refine hb9.ext (by decide) (by rw [ol2]; decide) (fun p hp h0 => ?_)
    rw [ol2] at hp
    exact ⟨(q1 p hp h0).2, ok2 p hp⟩
  have hb2 : HKB onKs (wq ρ55 0 5 (some 44)) 19 := by
    refine hb20.ext (by decide) (by rw [ol4]; decide) (fun p hp h0 => ?_)
    rw [ol4] at hp
    exact ⟨(q2 p hp h0).2, ok4 p hp⟩
  have hzz : HZ σ55 (wq ρ55 0 5 (some 44)) onKs 1 z0R := by
    refine hz9.ext (by decide) (by rw [ol2]; decide) (fun p hp h0 => ?_)
    rw [ol2] at hp
    exact ⟨(q1 p hp h0).1, (q1 p hp h0).2, ok2 p hp⟩
  refine ⟨rfl, rfl, ⟨rfl, rfl, ⟨?_, ?_, ?_, ?_, wq_eq _ _ _ _⟩, hb1, hb2, ⟨rfl, ⟨rfl, rfl, rfl, rfl, rfl⟩, ?_, ?_, ?_, ?_, ?_⟩, rfl, rfl, ?_⟩, hzz, o2, sv55.1, ?_⟩
  · rw [wq_k _ _ _ (by decide)]; exact o0
  · rw [wq_k _ _ _ (by decide)]; exact o1
  · rw [wq_k _ _ _ (by decide)]; exact o3
  · rw [wq_k _ _ _ (by decide)]; exact o4
  · rw [wq_p _ (by decide), g1 37 (by decide) (by decide) (by decide)]; exact v1
  · rw [wq_p _ (by decide), g1 37 (by decide) (by decide) (by decide)]; exact v2
  · rw [wq_p _ (by decide), g1 37 (by decide) (by decide) (by decide)]; exact v3
  · rw [wq_p _ (by decide), g1 37 (by decide) (by decide) (by decide)]; exact v4
  · rw [wq_p _ (by decide), g1 37 (by decide) (by decide) (by decide)]; exact v5
  · rw [wq_p _ (by decide)]; exact rv55
  · funext j; exact sv55.2 j
