/-! constructors -/
theorem zr_p (σ : xM) {p q : Nat} (h : q ≠ p) (j : Int) : zr σ p q j = σ q j := if_neg h
theorem zr_eq (σ : xM) (p : Nat) (j : Int) : zr σ p p j = 0 := if_pos rfl
set_option maxHeartbeats 4000000 in
set_option maxRecDepth 100000 in
theorem c_initS (E : xE) {σ : xM} {ρ : xR} {ks : xKs} {q : Nat} (l0 : ks.length = q + 1) (hq0 : ks[q]? = some (0, 5)) : Sp E yX5_init kX5_init 1 5 30 [.ref q] σ ρ ks (fun r σ' ρ' ks' => r = none ∧ ks' = ks ++ [(1, 6), (1, 6), (1, 6), (1, 6), (1, 6)] ∧ (∀ p, p < q → σ' p = σ p ∧ ρ' p = ρ p) ∧ (σ' q 5 = 0 ∧ ∀ p, q < p → p ≤ q + 5 → ∀ j, σ' p j = 0) ∧ (ρ' q 0 = some (q + 1) ∧ ρ' q 1 = some (q + 2) ∧ ρ' q 2 = some (q + 3) ∧ ρ' q 3 = some (q + 4) ∧ ρ' q 4 = some (q + 5))) := by
  refine x_enter (own := RX5) (L := [_]) (by decide +kernel) rfl (by exact Nat.le_of_ble_eq_true rfl) rfl (fun p e R s m args below meth c Z hZ hC hR hin => ?_)
  have q0 : ks[q]? = some (0, 5) := hq0
  refine x_aload_n (pc := 0) hC dX5_init_0 rfl ?_
  refine x_objInit (pc := 1) hC hR (by decide) wX5_3 (by exact Nat.le_of_ble_eq_true rfl) rfl dX5_init_1 ?_
  refine x_aload_n (pc := 4) hC dX5_init_4 rfl ?_
  refine x_bipush (pc := 5) hC dX5_init_5 (by decide +kernel) ?_
  refine x_newI (n := 6) (pc := 7) hC rfl a_int (by decide) hR (by decide) dX5_init_7 ?_
  rw [l0]
  have l1 : (ks ++ [(1, 6)]).length = q + 2 := by rw [List.length_append, l0]; rfl
  have q1 : (ks ++ [(1, 6)])[q]? = some (0, 5) := by rw [ap_at (by omega)]; exact q0
  refine x_putr (K := 0) (pc := 9) hC rfl (some _) fX5_9_5 (Or.inr ⟨hin, rfl⟩) (by assumption) dX5_init_9 rfl rfl ?_
  refine x_aload_n (pc := 12) hC dX5_init_12 rfl ?_
  refine x_bipush (pc := 13) hC dX5_init_13 (by decide +kernel) ?_
  refine x_newI (n := 6) (pc := 15) hC rfl a_int (by decide) hR (by decide) dX5_init_15 ?_
  rw [l1]
  have l2 : (ks ++ [(1, 6)] ++ [(1, 6)]).length = q + 3 := by rw [List.length_append, l1]; rfl
  have q2 : (ks ++ [(1, 6)] ++ [(1, 6)])[q]? = some (0, 5) := by rw [ap_at (by omega)]; exact q1
  refine x_putr (K := 1) (pc := 17) hC rfl (some _) fX5_15_5 (Or.inr ⟨hin, rfl⟩) (by assumption) dX5_init_17 rfl rfl ?_
  refine x_aload_n (pc := 20) hC dX5_init_20 rfl ?_
  refine x_bipush (pc := 21) hC dX5_init_21 (by decide +kernel) ?_
  refine x_newI (n := 6) (pc := 23) hC rfl a_int (by decide) hR (by decide) dX5_init_23 ?_
  rw [l2]
  have l3 : (ks ++ [(1, 6)] ++ [(1, 6)] ++ [(1, 6)]).length = q + 4 := by rw [List.length_append, l2]; rfl
  have q3 : (ks ++ [(1, 6)] ++ [(1, 6)] ++ [(1, 6)])[q]? = some (0, 5) := by rw [ap_at (by omega)]; exact q2
  refine x_putr (K := 2) (pc := 25) hC rfl (some _) fX5_18_5 (Or.inr ⟨hin, rfl⟩) (by assumption) dX5_init_25 rfl rfl ?_
  refine x_aload_n (pc := 28) hC dX5_init_28 rfl ?_
  refine x_bipush (pc := 29) hC dX5_init_29 (by decide +kernel) ?_
  refine x_newI (n := 6) (pc := 31) hC rfl a_int (by decide) hR (by decide) dX5_init_31 ?_
  rw [l3]
  have l4 : (ks ++ [(1, 6)] ++ [(1, 6)] ++ [(1, 6)] ++ [(1, 6)]).length = q + 5 := by rw [List.length_append, l3]; rfl
  have q4 : (ks ++ [(1, 6)] ++ [(1, 6)] ++ [(1, 6)] ++ [(1, 6)])[q]? = some (0, 5) := by rw [ap_at (by omega)]; exact q3
  refine x_putr (K := 3) (pc := 33) hC rfl (some _) fX5_21_5 (Or.inr ⟨hin, rfl⟩) (by assumption) dX5_init_33 rfl rfl ?_
  refine x_aload_n (pc := 36) hC dX5_init_36 rfl ?_
  refine x_bipush (pc := 37) hC dX5_init_37 (by decide +kernel) ?_
  refine x_newI (n := 6) (pc := 39) hC rfl a_int (by decide) hR (by decide) dX5_init_39 ?_
  rw [l4]
  have l5 : (ks ++ [(1, 6)] ++ [(1, 6)] ++ [(1, 6)] ++ [(1, 6)] ++ [(1, 6)]).length = q + 6 := by rw [List.length_append, l4]; rfl
  have q5 : (ks ++ [(1, 6)] ++ [(1, 6)] ++ [(1, 6)] ++ [(1, 6)] ++ [(1, 6)])[q]? = some (0, 5) := by rw [ap_at (by omega)]; exact q4
  refine x_putr (K := 4) (pc := 41) hC rfl (some _) fX5_24_5 (Or.inr ⟨hin, rfl⟩) (by assumption) dX5_init_41 rfl rfl ?_
  refine x_aload_n (pc := 44) hC dX5_init_44 rfl ?_
  refine x_iconst (pc := 45) hC dX5_init_45 ?_
  refine x_putiF (K := 5) (pc := 46) hC rfl fX5_27_5 ⟨hin, rfl⟩ (by assumption) dX5_init_46 rfl ?_
  refine x_return hC hZ dX5_init_49 (by decide) (by decide) ?_
  refine ⟨rfl, by simp, fun p hp => ⟨by funext j; simp (disch := omega) only [wr_p, zr_p], by funext j; simp (disch := omega) only [wq_p, nr_o]⟩, ⟨wr_eq _ _ _ _, fun p h1 h2 j => ?_⟩, ?_⟩
  · rw [wr_p _ (by omega)]; rcases (show p = q + 1 ∨ p = q + 2 ∨ p = q + 3 ∨ p = q + 4 ∨ p = q + 5 by omega) with rfl | rfl | rfl | rfl | rfl <;> simp (disch := omega) only [zr_p, zr_eq]
  · refine ⟨?_, ?_, ?_, ?_, ?_⟩ <;> simp (disch := omega) only [wq_p, wq_k, wq_eq, nr_o]

set_option maxHeartbeats 4000000 in
set_option maxRecDepth 100000 in
theorem c_initR (E : xE) {σ : xM} {ρ : xR} {ks : xKs} {q : Nat} (l0 : ks.length = q + 1) (hq0 : ks[q]? = some (0, 4)) : Sp E yX4_init kX4_init 1 5 134 [.ref q] σ ρ ks (fun r σ' ρ' ks' => r = none ∧ ks' = ks ++ [(1, 10), (1, 10), (1, 10), (1, 100), (1, 4)] ∧ (∀ p, p < q → σ' p = σ p ∧ ρ' p = ρ p) ∧ ((σ' q 5 = 0 ∧ σ' q 6 = 0 ∧ σ' q 8 = 0 ∧ σ' q 10 = 0 ∧ σ' q 11 = 80 ∧ σ' q 12 = 3) ∧ ∀ p, q < p → p ≤ q + 5 → ∀ j, σ' p j = 0) ∧ (ρ' q 0 = some (q + 1) ∧ ρ' q 1 = some (q + 2) ∧ ρ' q 2 = some (q + 3) ∧ ρ' q 3 = some (q + 4) ∧ ρ' q 4 = some (q + 5))) := by
  refine x_enter (own := RX4) (L := [_]) (by decide +kernel) rfl (by exact Nat.le_of_ble_eq_true rfl) rfl (fun p e R s m args below meth c Z hZ hC hR hin => ?_)
  have q0 : ks[q]? = some (0, 4) := hq0
  refine x_aload_n (pc := 0) hC dX4_init_0 rfl ?_
  refine x_objInit (pc := 1) hC hR (by decide) wX4_3 (by exact Nat.le_of_ble_eq_true rfl) rfl dX4_init_1 ?_
  refine x_aload_n (pc := 4) hC dX4_init_4 rfl ?_
  refine x_bipush (pc := 5) hC dX4_init_5 (by decide +kernel) ?_
  refine x_newI (n := 10) (pc := 7) hC rfl a_int (by decide) hR (by decide) dX4_init_7 ?_
  rw [l0]
  have l1 : (ks ++ [(1, 10)]).length = q + 2 := by rw [List.length_append, l0]; rfl
  have q1 : (ks ++ [(1, 10)])[q]? = some (0, 4) := by rw [ap_at (by omega)]; exact q0
  refine x_putr (K := 0) (pc := 9) hC rfl (some _) fX4_11_4 (Or.inr ⟨hin, rfl⟩) (by assumption) dX4_init_9 rfl rfl ?_
  refine x_aload_n (pc := 12) hC dX4_init_12 rfl ?_
  refine x_bipush (pc := 13) hC dX4_init_13 (by decide +kernel) ?_
  refine x_newI (n := 10) (pc := 15) hC rfl a_int (by decide) hR (by decide) dX4_init_15 ?_
  rw [l1]
  have l2 : (ks ++ [(1, 10)] ++ [(1, 10)]).length = q + 3 := by rw [List.length_append, l1]; rfl
  have q2 : (ks ++ [(1, 10)] ++ [(1, 10)])[q]? = some (0, 4) := by rw [ap_at (by omega)]; exact q1
  refine x_putr (K := 1) (pc := 17) hC rfl (some _) fX4_15_4 (Or.inr ⟨hin, rfl⟩) (by assumption) dX4_init_17 rfl rfl ?_
  refine x_aload_n (pc := 20) hC dX4_init_20 rfl ?_
  refine x_bipush (pc := 21) hC dX4_init_21 (by decide +kernel) ?_
  refine x_newI (n := 10) (pc := 23) hC rfl a_int (by decide) hR (by decide) dX4_init_23 ?_
  rw [l2]
  have l3 : (ks ++ [(1, 10)] ++ [(1, 10)] ++ [(1, 10)]).length = q + 4 := by rw [List.length_append, l2]; rfl
  have q3 : (ks ++ [(1, 10)] ++ [(1, 10)] ++ [(1, 10)])[q]? = some (0, 4) := by rw [ap_at (by omega)]; exact q2
  refine x_putr (K := 2) (pc := 25) hC rfl (some _) fX4_18_4 (Or.inr ⟨hin, rfl⟩) (by assumption) dX4_init_25 rfl rfl ?_
  refine x_aload_n (pc := 28) hC dX4_init_28 rfl ?_
  refine x_bipush (pc := 29) hC dX4_init_29 (by decide +kernel) ?_
  refine x_newI (n := 100) (pc := 31) hC rfl a_int (by decide) hR (by decide) dX4_init_31 ?_
  rw [l3]
  have l4 : (ks ++ [(1, 10)] ++ [(1, 10)] ++ [(1, 10)] ++ [(1, 100)]).length = q + 5 := by rw [List.length_append, l3]; rfl
  have q4 : (ks ++ [(1, 10)] ++ [(1, 10)] ++ [(1, 10)] ++ [(1, 100)])[q]? = some (0, 4) := by rw [ap_at (by omega)]; exact q3
  refine x_putr (K := 3) (pc := 33) hC rfl (some _) fX4_21_4 (Or.inr ⟨hin, rfl⟩) (by assumption) dX4_init_33 rfl rfl ?_
  refine x_aload_n (pc := 36) hC dX4_init_36 rfl ?_
  refine x_iconst (pc := 37) hC dX4_init_37 ?_
  refine x_newI (n := 4) (pc := 38) hC rfl a_int (by decide) hR (by decide) dX4_init_38 ?_
  rw [l4]
  have l5 : (ks ++ [(1, 10)] ++ [(1, 10)] ++ [(1, 10)] ++ [(1, 100)] ++ [(1, 4)]).length = q + 6 := by rw [List.length_append, l4]; rfl
  have q5 : (ks ++ [(1, 10)] ++ [(1, 10)] ++ [(1, 10)] ++ [(1, 100)] ++ [(1, 4)])[q]? = some (0, 4) := by rw [ap_at (by omega)]; exact q4
  refine x_putr (K := 4) (pc := 40) hC rfl (some _) fX4_24_4 (Or.inr ⟨hin, rfl⟩) (by assumption) dX4_init_40 rfl rfl ?_
  refine x_aload_n (pc := 43) hC dX4_init_43 rfl ?_
  refine x_iconst (pc := 44) hC dX4_init_44 ?_
  refine x_putiF (K := 5) (pc := 45) hC rfl fX4_27_4 ⟨hin, rfl⟩ (by assumption) dX4_init_45 rfl ?_
  refine x_aload_n (pc := 48) hC dX4_init_48 rfl ?_
  refine x_iconst (pc := 49) hC dX4_init_49 ?_
  refine x_putiF (K := 6) (pc := 50) hC rfl fX4_31_4 ⟨hin, rfl⟩ (by assumption) dX4_init_50 rfl ?_
  refine x_aload_n (pc := 53) hC dX4_init_53 rfl ?_
  refine x_null (pc := 54) hC dX4_init_54 ?_
  refine x_putr (K := 7) (pc := 55) hC rfl none fX4_34_4 (Or.inr ⟨hin, rfl⟩) (by assumption) dX4_init_55 rfl rfl ?_
  refine x_aload_n (pc := 58) hC dX4_init_58 rfl ?_
  refine x_iconst (pc := 59) hC dX4_init_59 ?_
  refine x_putiF (K := 8) (pc := 60) hC rfl fX4_37_4 ⟨hin, rfl⟩ (by assumption) dX4_init_60 rfl ?_
  refine x_aload_n (pc := 63) hC dX4_init_63 rfl ?_
  refine x_iconst (pc := 64) hC dX4_init_64 ?_
  refine x_putiF (K := 9) (pc := 65) hC rfl fX4_40_4 ⟨hin, rfl⟩ (by assumption) dX4_init_65 rfl ?_
  refine x_aload_n (pc := 68) hC dX4_init_68 rfl ?_
  refine x_iconst (pc := 69) hC dX4_init_69 ?_
  refine x_putiF (K := 10) (pc := 70) hC rfl fX4_43_4 ⟨hin, rfl⟩ (by assumption) dX4_init_70 rfl ?_
  refine x_aload_n (pc := 73) hC dX4_init_73 rfl ?_
  refine x_bipush (pc := 74) hC dX4_init_74 (by decide +kernel) ?_
  refine x_putiF (K := 11) (pc := 76) hC rfl fX4_46_4 ⟨hin, rfl⟩ (by assumption) dX4_init_76 rfl ?_
  refine x_aload_n (pc := 79) hC dX4_init_79 rfl ?_
  refine x_iconst (pc := 80) hC dX4_init_80 ?_
  refine x_putiF (K := 12) (pc := 81) hC rfl fX4_49_4 ⟨hin, rfl⟩ (by assumption) dX4_init_81 rfl ?_
  refine x_return hC hZ dX4_init_84 (by decide) (by decide) ?_
  refine ⟨rfl, by simp, fun p hp => ⟨by funext j; simp (disch := omega) only [wr_p, zr_p], by funext j; simp (disch := omega) only [wq_p, nr_o]⟩, ⟨?_, fun p h1 h2 j => ?_⟩, ?_⟩
  · refine ⟨?_, ?_, ?_, ?_, ?_, ?_⟩ <;> simp (disch := omega) only [wr_k, wr_eq]
  · simp (disch := omega) only [wr_p]; rcases (show p = q + 1 ∨ p = q + 2 ∨ p = q + 3 ∨ p = q + 4 ∨ p = q + 5 by omega) with rfl | rfl | rfl | rfl | rfl <;> simp (disch := omega) only [zr_p, zr_eq]
  · refine ⟨?_, ?_, ?_, ?_, ?_⟩ <;> simp (disch := omega) only [wq_p, wq_k, wq_eq, nr_o]

set_option maxHeartbeats 4000000 in
set_option maxRecDepth 100000 in
theorem c_initT (E : xE) {σ : xM} {ρ : xR} {ks : xKs} {q : Nat} (l0 : ks.length = q + 1) (hq0 : ks[q]? = some (0, 8)) : Sp E yX8_init kX8_init 1 1 20 [.ref q] σ ρ ks (fun r σ' ρ' ks' => r = none ∧ ks' = ks ++ [(1, 20)] ∧ (∀ p, p < q → σ' p = σ p ∧ ρ' p = ρ p) ∧ (σ' q 1 = 0 ∧ ∀ j, σ' (q + 1) j = 0) ∧ ρ' q 0 = some (q + 1)) := by
  refine x_enter (own := RX8) (L := [_]) (by decide +kernel) rfl (by exact Nat.le_of_ble_eq_true rfl) rfl (fun p e R s m args below meth c Z hZ hC hR hin => ?_)
  have q0 : ks[q]? = some (0, 8) := hq0
  refine x_aload_n (pc := 0) hC dX8_init_0 rfl ?_
  refine x_objInit (pc := 1) hC hR (by decide) wX8_1 (by exact Nat.le_of_ble_eq_true rfl) rfl dX8_init_1 ?_
  refine x_aload_n (pc := 4) hC dX8_init_4 rfl ?_
  refine x_bipush (pc := 5) hC dX8_init_5 (by decide +kernel) ?_
  refine x_newI (n := 20) (pc := 7) hC rfl a_int (by decide) hR (by decide) dX8_init_7 ?_
  rw [l0]
  have l1 : (ks ++ [(1, 20)]).length = q + 2 := by rw [List.length_append, l0]; rfl
  have q1 : (ks ++ [(1, 20)])[q]? = some (0, 8) := by rw [ap_at (by omega)]; exact q0
  refine x_putr (K := 0) (pc := 9) hC rfl (some _) fX8_7_8 (Or.inr ⟨hin, rfl⟩) (by assumption) dX8_init_9 rfl rfl ?_
  refine x_aload_n (pc := 12) hC dX8_init_12 rfl ?_
  refine x_iconst (pc := 13) hC dX8_init_13 ?_
  refine x_putiF (K := 1) (pc := 14) hC rfl fX8_13_8 ⟨hin, rfl⟩ (by assumption) dX8_init_14 rfl ?_
  refine x_return hC hZ dX8_init_17 (by decide) (by decide) ?_
  refine ⟨rfl, rfl, fun p hp => ⟨by funext j; simp (disch := omega) only [wr_p, zr_p], by funext j; simp (disch := omega) only [wq_p, nr_o]⟩, ⟨wr_eq _ _ _ _, fun j => by simp (disch := omega) only [wr_p, zr_eq]⟩, wq_eq _ _ _ _⟩
