theorem nr_o (ρ : xR) {p q : Nat} (h : q ≠ p) {j : Int} : nr ρ p q j = ρ q j := if_neg h
set_option maxHeartbeats 4000000 in
set_option maxRecDepth 100000 in
theorem s_initM (E : xE) {σ : xM} {ρ : xR} {ks : xKs} (l0 : ks.length = 47) (hq0 : ks[46]? = some (0, 12)) : Sp E yX12_init kX12_init 1 8 2395 [.ref 46] σ ρ ks (fun r σ' ρ' ks' => r = none ∧ ks' = ks ++ [(1, 943), (1, 943), (1, 13), (1, 6), (2, 64), (1, 6), (1, 400), (1, 20)] ∧ (∀ q, q < 47 → σ' q = σ q ∧ (q ≠ 46 → ρ' q = ρ q)) ∧ MW ρ' ∧ σ' 47 = up (fun _ => 0) 20 (-1) ∧ (∀ q, 48 ≤ q → q ≤ 54 → σ' q = fun _ => 0)) := by
  refine x_enter (own := RX12) (L := [_]) (by decide +kernel) rfl (by exact Nat.le_of_ble_eq_true rfl) rfl (fun p e R s m args below meth c Z hZ hC hR hin => ?_)
  have q0 : ks[46]? = some (0, 12) := hq0
  refine x_aload_n (pc := 0) hC dX12_init_0 rfl ?_
  refine x_objInit (pc := 1) hC hR (by decide) wX12_3 (by exact Nat.le_of_ble_eq_true rfl) rfl dX12_init_1 ?_
  refine x_aload_n (pc := 4) hC dX12_init_4 rfl ?_
  refine x_sipush (pc := 5) hC dX12_init_5 (by decide +kernel) ?_
  refine x_newI (n := 943) (pc := 8) hC rfl a_int (by decide) hR (by decide) dX12_init_8 ?_
  rw [l0]
  have l1 : (ks ++ [(1, 943)]).length = 48 := by rw [List.length_append, l0]; rfl
  have q1 : (ks ++ [(1, 943)])[46]? = some (0, 12) := by rw [List.getElem?_append_left (by rw [l0]; decide)]; exact q0
  refine x_putr (K := 1) (pc := 10) hC rfl (some _) fX12_9_12 (Or.inr ⟨hin, rfl⟩) (by assumption) dX12_init_10 rfl rfl ?_
  refine x_aload_n (pc := 13) hC dX12_init_13 rfl ?_
  refine x_sipush (pc := 14) hC dX12_init_14 (by decide +kernel) ?_
  refine x_newI (n := 943) (pc := 17) hC rfl a_int (by decide) hR (by decide) dX12_init_17 ?_
  rw [l1]
  have l2 : (ks ++ [(1, 943)] ++ [(1, 943)]).length = 49 := by rw [List.length_append, l1]; rfl
  have q2 : (ks ++ [(1, 943)] ++ [(1, 943)])[46]? = some (0, 12) := by rw [List.getElem?_append_left (by rw [l1]; decide)]; exact q1
  refine x_putr (K := 2) (pc := 19) hC rfl (some _) fX12_15_12 (Or.inr ⟨hin, rfl⟩) (by assumption) dX12_init_19 rfl rfl ?_
  refine x_aload_n (pc := 22) hC dX12_init_22 rfl ?_
  refine x_bipush (pc := 23) hC dX12_init_23 (by decide +kernel) ?_
  refine x_newI (n := 13) (pc := 25) hC rfl a_int (by decide) hR (by decide) dX12_init_25 ?_
  rw [l2]
  have l3 : (ks ++ [(1, 943)] ++ [(1, 943)] ++ [(1, 13)]).length = 50 := by rw [List.length_append, l2]; rfl
  have q3 : (ks ++ [(1, 943)] ++ [(1, 943)] ++ [(1, 13)])[46]? = some (0, 12) := by rw [List.getElem?_append_left (by rw [l2]; decide)]; exact q2
  refine x_putr (K := 3) (pc := 27) hC rfl (some _) fX12_18_12 (Or.inr ⟨hin, rfl⟩) (by assumption) dX12_init_27 rfl rfl ?_
  refine x_aload_n (pc := 30) hC dX12_init_30 rfl ?_
  refine x_bipush (pc := 31) hC dX12_init_31 (by decide +kernel) ?_
  refine x_newI (n := 6) (pc := 33) hC rfl a_int (by decide) hR (by decide) dX12_init_33 ?_
  rw [l3]
  have l4 : (ks ++ [(1, 943)] ++ [(1, 943)] ++ [(1, 13)] ++ [(1, 6)]).length = 51 := by rw [List.length_append, l3]; rfl
  have q4 : (ks ++ [(1, 943)] ++ [(1, 943)] ++ [(1, 13)] ++ [(1, 6)])[46]? = some (0, 12) := by rw [List.getElem?_append_left (by rw [l3]; decide)]; exact q3
  refine x_putr (K := 10) (pc := 35) hC rfl (some _) fX12_21_12 (Or.inr ⟨hin, rfl⟩) (by assumption) dX12_init_35 rfl rfl ?_
  refine x_aload_n (pc := 38) hC dX12_init_38 rfl ?_
  refine x_bipush (pc := 39) hC dX12_init_39 (by decide +kernel) ?_
  refine x_newZ (n := 64) (pc := 41) hC rfl a_boolean (by decide) hR (by decide) dX12_init_41 ?_
  rw [l4]
  have l5 : (ks ++ [(1, 943)] ++ [(1, 943)] ++ [(1, 13)] ++ [(1, 6)] ++ [(2, 64)]).length = 52 := by rw [List.length_append, l4]; rfl
  have q5 : (ks ++ [(1, 943)] ++ [(1, 943)] ++ [(1, 13)] ++ [(1, 6)] ++ [(2, 64)])[46]? = some (0, 12) := by rw [List.getElem?_append_left (by rw [l4]; decide)]; exact q4
  refine x_putr (K := 11) (pc := 43) hC rfl (some _) fX12_24_12 (Or.inr ⟨hin, rfl⟩) (by assumption) dX12_init_43 rfl rfl ?_
  refine x_aload_n (pc := 46) hC dX12_init_46 rfl ?_
  refine x_bipush (pc := 47) hC dX12_init_47 (by decide +kernel) ?_
  refine x_newI (n := 6) (pc := 49) hC rfl a_int (by decide) hR (by decide) dX12_init_49 ?_
  rw [l5]
  have l6 : (ks ++ [(1, 943)] ++ [(1, 943)] ++ [(1, 13)] ++ [(1, 6)] ++ [(2, 64)] ++ [(1, 6)]).length = 53 := by rw [List.length_append, l5]; rfl
  have q6 : (ks ++ [(1, 943)] ++ [(1, 943)] ++ [(1, 13)] ++ [(1, 6)] ++ [(2, 64)] ++ [(1, 6)])[46]? = some (0, 12) := by rw [List.getElem?_append_left (by rw [l5]; decide)]; exact q5
  refine x_putr (K := 14) (pc := 51) hC rfl (some _) fX12_28_12 (Or.inr ⟨hin, rfl⟩) (by assumption) dX12_init_51 rfl rfl ?_
  refine x_aload_n (pc := 54) hC dX12_init_54 rfl ?_
  refine x_sipush (pc := 55) hC dX12_init_55 (by decide +kernel) ?_
  refine x_newI (n := 400) (pc := 58) hC rfl a_int (by decide) hR (by decide) dX12_init_58 ?_
  rw [l6]
  have l7 : (ks ++ [(1, 943)] ++ [(1, 943)] ++ [(1, 13)] ++ [(1, 6)] ++ [(2, 64)] ++ [(1, 6)] ++ [(1, 400)]).length = 54 := by rw [List.length_append, l6]; rfl
  have q7 : (ks ++ [(1, 943)] ++ [(1, 943)] ++ [(1, 13)] ++ [(1, 6)] ++ [(2, 64)] ++ [(1, 6)] ++ [(1, 400)])[46]? = some (0, 12) := by rw [List.getElem?_append_left (by rw [l6]; decide)]; exact q6
  refine x_putr (K := 15) (pc := 60) hC rfl (some _) fX12_31_12 (Or.inr ⟨hin, rfl⟩) (by assumption) dX12_init_60 rfl rfl ?_
  refine x_aload_n (pc := 63) hC dX12_init_63 rfl ?_
  refine x_bipush (pc := 64) hC dX12_init_64 (by decide +kernel) ?_
  refine x_newI (n := 20) (pc := 66) hC rfl a_int (by decide) hR (by decide) dX12_init_66 ?_
  rw [l7]
  have l8 : (ks ++ [(1, 943)] ++ [(1, 943)] ++ [(1, 13)] ++ [(1, 6)] ++ [(2, 64)] ++ [(1, 6)] ++ [(1, 400)] ++ [(1, 20)]).length = 55 := by rw [List.length_append, l7]; rfl
  have q8 : (ks ++ [(1, 943)] ++ [(1, 943)] ++ [(1, 13)] ++ [(1, 6)] ++ [(2, 64)] ++ [(1, 6)] ++ [(1, 400)] ++ [(1, 20)])[46]? = some (0, 12) := by rw [List.getElem?_append_left (by rw [l7]; decide)]; exact q7
  refine x_putr (K := 16) (pc := 68) hC rfl (some _) fX12_34_12 (Or.inr ⟨hin, rfl⟩) (by assumption) dX12_init_68 rfl rfl ?_
  have e47 : (ks ++ [(1, 943)] ++ [(1, 943)] ++ [(1, 13)] ++ [(1, 6)] ++ [(2, 64)] ++ [(1, 6)] ++ [(1, 400)] ++ [(1, 20)])[47]? = some (1, 943) := by simp [List.getElem?_append, l0]
  refine x_aload_n (pc := 71) hC dX12_init_71 rfl ?_
  refine x_getr (K := 1) (pc := 72) hC fX12_9_12 (by assumption) dX12_init_72 rfl rfl (by exact (show _ = some 47 by simp [wq, nr])) ?_
  refine x_bipush (pc := 75) hC dX12_init_75 (by decide +kernel) ?_
  refine x_iconst (pc := 77) hC dX12_init_77 ?_
  refine x_iast (pc := 78) hC (by assumption) (by omega) dX12_init_78 ?_
  refine x_return hC hZ dX12_init_79 (by decide) (by decide) ?_
  refine ⟨rfl, by simp, fun q hq => ⟨?_, fun h46 => ?_⟩, ?_, ?_, fun q h1 h2 => ?_⟩
  · funext j; simp (disch := omega) only [wr, zr]; rw [if_neg (by omega)]; iterate 8 rw [if_neg (by omega)]
  · funext j; iterate 8 rw [wq_p _ h46, nr_o _ (by omega)]
  · unfold MW; simp [wq, nr]
  · funext j; unfold wr zr up; simp
  · funext j; unfold wr zr; rw [if_neg (by omega)]; rcases (show q = 48 ∨ q = 49 ∨ q = 50 ∨ q = 51 ∨ q = 52 ∨ q = 53 ∨ q = 54 by omega) with h | h | h | h | h | h | h <;> simp [h]
