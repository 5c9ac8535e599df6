/-! what ran: the Trace at place 44, its bodies at 45 -/
def TK (ks : xKs) (ρ : xR) : Prop := ks[44]? = some (0, 8) ∧ ks[45]? = some (1, 20) ∧ ρ 44 0 = some 45
def tc (σ : xM) (l : List Int) : xM := wr (sw σ 45 (pushL (σ 45) (σ 44 1) l)) 44 1 (σ 44 1 + l.length)
theorem tc_a (σ : xM) (l : List Int) : tc σ l 44 1 = σ 44 1 + l.length := wr_eq _ _ _ _
theorem tc_f (σ : xM) (l : List Int) {j : Int} (h : j ≠ 1) : tc σ l 44 j = σ 44 j := by unfold tc; rw [wr_k _ _ _ h, sw_ne _ (by decide)]
theorem tc_45 (σ : xM) (l : List Int) : tc σ l 45 = pushL (σ 45) (σ 44 1) l := by funext j; unfold tc; rw [wr_p _ (by decide), sw_eq]
theorem tc_q (σ : xM) (l : List Int) {q : Nat} (h : q ≠ 44) (h2 : q ≠ 45) : tc σ l q = σ q := by funext j; unfold tc; rw [wr_p _ h, sw_ne _ h2]
theorem tc_tc (σ : xM) (l1 l2 : List Int) : tc (tc σ l1) l2 = tc σ (l1 ++ l2) := by
  funext q j
  by_cases h46 : q = 44
  · subst h46
    by_cases h17 : j = 1
    · subst h17; rw [tc_a, tc_a, tc_a, List.length_append]; omega
    · rw [tc_f _ _ h17, tc_f _ _ h17, tc_f _ _ h17]
  · by_cases h54 : q = 45
    · subst h54; rw [tc_45, tc_45, tc_45, tc_a, pushL_app]
    · rw [tc_q _ _ h46 h54, tc_q _ _ h46 h54, tc_q _ _ h46 h54]
set_option maxHeartbeats 4000000 in
set_option maxRecDepth 100000 in
theorem c_forget (E : xE) {σ : xM} {ρ : xR} {ks : xKs} (htk : TK ks ρ)  : Sp E yX8_forget kX8_forget 0 0 0 [.ref 44] σ ρ ks (Fn none (wr σ 44 1 0) ρ ks) := by
  refine x_enter (own := RX8) (L := [_]) (by decide +kernel) rfl (by exact Nat.le_of_ble_eq_true rfl) rfl (fun p e R s m args below meth c Z hZ hC hR hin => ?_)
  obtain ⟨t1, t2, t3⟩ := id htk
  refine x_aload_n (pc := 0) hC dX8_forget_0 rfl ?_
  refine x_iconst (pc := 1) hC dX8_forget_1 ?_
  refine x_puti (K := 1) (pc := 2) hC rfl fX8_13_8 rfl (by assumption) dX8_forget_2 rfl ?_
  refine x_return hC hZ dX8_forget_5 (by decide) (by decide) ?_
  exact ⟨rfl, rfl, rfl, rfl⟩

set_option maxHeartbeats 4000000 in
set_option maxRecDepth 100000 in
theorem c_began (E : xE) {σ : xM} {ρ : xR} {ks : xKs} (htk : TK ks ρ) {x : Int} (h : 0 ≤ σ 44 1 ∧ σ 44 1 < 20) : Sp E yX8_began kX8_began 0 0 0 [.ref 44, .int (iI x)] σ ρ ks (Fn none (tc σ [x]) ρ ks) := by
  refine x_enter (own := RX8) (L := [_, _]) (by decide +kernel) rfl (by exact Nat.le_of_ble_eq_true rfl) rfl (fun p e R s m args below meth c Z hZ hC hR hin => ?_)
  obtain ⟨t1, t2, t3⟩ := id htk
  refine x_aload_n (pc := 0) hC dX8_began_0 rfl ?_
  refine x_geti (K := 1) (pc := 1) hC fX8_13_8 (by assumption) dX8_began_1 rfl rfl ?_
  refine x_aload_n (pc := 4) hC dX8_began_4 rfl ?_
  refine x_getr (K := 0) (pc := 5) hC fX8_7_8 (by assumption) dX8_began_5 rfl rfl (by assumption) ?_
  refine x_alen1 (K := 20) (pc := 8) hC (by assumption) rfl dX8_began_8 ?_
  refine x_icmp_ge (tgt := 22) (pc := 9) hC (by omega) (by omega) dX8_began_9 (by decide) (fun c9 => by (exfalso; omega)) (fun c9 => ?_)
  refine x_aload_n (pc := 12) hC dX8_began_12 rfl ?_
  refine x_getr (K := 0) (pc := 13) hC fX8_7_8 (by assumption) dX8_began_13 rfl rfl (by assumption) ?_
  refine x_aload_n (pc := 16) hC dX8_began_16 rfl ?_
  refine x_geti (K := 1) (pc := 17) hC fX8_13_8 (by assumption) dX8_began_17 rfl rfl ?_
  refine x_iload_n (pc := 20) hC dX8_began_20 rfl ?_
  refine x_iast (pc := 21) hC (by assumption) (by omega) dX8_began_21 ?_
  refine x_aload_n (pc := 22) hC dX8_began_22 rfl ?_
  refine x_dup (pc := 23) hC dX8_began_23 rfl ?_
  refine x_geti (K := 1) (pc := 24) hC fX8_13_8 (by assumption) dX8_began_24 rfl rfl ?_
  refine x_iconst (pc := 27) hC dX8_began_27 ?_
  refine x_iadd (pc := 28) hC dX8_began_28 ?_
  refine x_puti (K := 1) (pc := 29) hC rfl fX8_13_8 rfl (by assumption) dX8_began_29 rfl ?_
  refine x_return hC hZ dX8_began_32 (by decide) (by decide) ?_
  refine ⟨rfl, ?_, rfl, rfl⟩
  unfold tc pushL pushL
  rw [wr_sw σ 45, sw_ne _ (by decide)]
  rfl
