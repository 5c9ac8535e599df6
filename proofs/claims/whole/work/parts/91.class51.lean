/-! a new hall, a new OneFan -/
def z0R : zS := up (fun _ => 0) 20 (-1)
def hallKs : xKs := [(3, 4), (0, 5), (1, 6), (1, 6), (1, 6), (1, 6), (1, 6), (0, 4), (1, 10), (1, 10), (1, 10), (1, 100), (1, 4), (1, 100), (1, 18), (1, 12), (1, 24)]
theorem ap_ix {ks l : xKs} {n : Nat} (h : ks.length = n) (i : Nat) : (ks ++ l)[n + i]? = l[i]? := by
  rw [List.getElem?_append_right (by omega), show n + i - ks.length = i by omega]
theorem HZ.ext {σ σ' : xM} {ρ ρ' : xR} {ks ks' : xKs} {B : Nat} {z : zS} (h : HZ σ ρ ks B z) (hB1 : 1 ≤ B) (hl : B + 17 < ks.length) (hm : ∀ p, p < ks.length → p ≠ 0 → σ' p = σ p ∧ ρ' p = ρ p ∧ ks'[p]? = ks[p]?) : HZ σ' ρ' ks' B z := by
  have hb : ∀ i, i ≤ 17 → σ' (B + i) = σ (B + i) := fun i hi => (hm _ (by omega) (by omega)).1
  have h0 : σ' B = σ B := hb 0 (by omega)
  obtain ⟨⟨a1, a2⟩, a3, ⟨rq, b1, b2, b3⟩, a4, a5, a6, a7, a8, a9, a10⟩ := h
  unfold HZ
  rw [h0, hb 14 (by omega), hb 15 (by omega), hb 16 (by omega), hb 17 (by omega)]
  refine ⟨⟨a1, fun f f0 f1 => ?_⟩, a3.mem (hb 2 (by omega)) (hb 3 (by omega)) (hb 4 (by omega)) (hb 5 (by omega)), ⟨rq, ?_, b2, ?_⟩, a4, a5, a6, a7, a8, a9, a10⟩
  · obtain ⟨q, c1, c2, c3⟩ := a2 f f0 f1
    have hq := hm q (at_lt c3.1) (by omega)
    exact ⟨q, by rw [(hm (B + 1) (by omega) (by omega)).2.1]; exact c1, c2, c3.mem hq.1 (fun h6 => (hm _ (at_lt (c3.2.2 h6).1) (by omega)).1) hq.2.1 hq.2.2 (fun h6 => (hm _ (at_lt (c3.2.2 h6).1) (by omega)).2.2)⟩
  · rw [(hm B (by omega) (by omega)).2.1]; exact b1
  · have hl2 : rq + 5 < ks.length := at_lt b3.1.2.1.2.2.2.2
    exact b3.mem (fun p p1 p2 => (hm p (by omega) (by omega)).1) (hm rq (by omega) (by omega)).2.1 (fun p p1 p2 => (hm p (by omega) (by omega)).2.2)
theorem HKB.ext {ρ ρ' : xR} {ks ks' : xKs} {B : Nat} (h : HKB ks ρ B) (hB1 : 1 ≤ B) (hl : B + 17 < ks.length) (hm : ∀ p, p < ks.length → p ≠ 0 → ρ' p = ρ p ∧ ks'[p]? = ks[p]?) : HKB ks' ρ' B := by
  have hk : ∀ i, i ≤ 17 → ks'[B + i]? = ks[B + i]? := fun i hi => (hm _ (by omega) (by omega)).2
  have hk0 : ks'[B]? = ks[B]? := hk 0 (by omega)
  have hr : ρ' B = ρ B := (hm B (by omega) (by omega)).1
  have hr2 : ρ' (B + 2) = ρ (B + 2) := (hm (B + 2) (by omega) (by omega)).1
  unfold HKB SK at *
  rw [hk0, hk 1 (by omega), hk 2 (by omega), hk 14 (by omega), hk 15 (by omega), hk 16 (by omega), hk 17 (by omega), hr, hr2, hk 3 (by omega), show B + 3 + 1 = B + 4 from rfl, show B + 3 + 2 = B + 5 from rfl, show B + 3 + 3 = B + 6 from rfl, show B + 3 + 4 = B + 7 from rfl, hk 4 (by omega), hk 5 (by omega), hk 6 (by omega), hk 7 (by omega)]
  exact h
theorem hall_new {σ : xM} {ρ : xR} {ks ks0 : xKs} {B : Nat} (hB : B = 1 ∨ B = 19) (l0 : ks0.length = B + 1) (hq0 : ks0[B]? = some (0, 1)) (hks : ks = ks0 ++ hallKs)
    (hz : σ B 1 = 0 ∧ σ B 4 = 0 ∧ σ B 6 = 0 ∧ σ B 7 = 0 ∧ σ B 8 = 0 ∧ σ B 10 = 0 ∧ σ B 12 = 0 ∧ σ B 14 = 0) (hs : σ (B + 2) 5 = 0) (hr : σ (B + 8) 5 = 0 ∧ σ (B + 8) 11 = 80 ∧ σ (B + 8) 12 = 3) (hc : ∀ j, σ (B + 13) j = 0)
    (r1 : ρ B 0 = some (B + 1) ∧ ρ B 2 = some (B + 2) ∧ ρ B 3 = some (B + 8) ∧ ρ B 5 = some (B + 14) ∧ ρ B 9 = some (B + 15) ∧ ρ B 11 = some (B + 16) ∧ ρ B 13 = some (B + 17))
    (r2 : ρ (B + 2) 0 = some (B + 3) ∧ ρ (B + 2) 1 = some (B + 4) ∧ ρ (B + 2) 2 = some (B + 5) ∧ ρ (B + 2) 3 = some (B + 6) ∧ ρ (B + 2) 4 = some (B + 7)) (r3 : ρ (B + 8) 0 = some (B + 9) ∧ ρ (B + 8) 1 = some (B + 10) ∧ ρ (B + 8) 2 = some (B + 11) ∧ ρ (B + 8) 3 = some (B + 12) ∧ ρ (B + 8) 4 = some (B + 13)) : HKB ks ρ B ∧ HZ σ ρ ks B z0R := by
  have hx : ∀ i, (ks0 ++ hallKs)[B + 1 + i]? = hallKs[i]? := fun i => ap_ix l0 i
  have hz20 : z0R 20 = -1 := up_eq _ _ _
  have hzo : ∀ j, j ≠ 20 → z0R j = 0 := fun j hj => up_ne _ hj _
  have ht : ∀ a b, tellsF z0R a b = b := fun a b => if_pos hz20
  subst hks
  obtain ⟨h1, h4, h6, h7, h8, h10, h12, h14⟩ := hz
  obtain ⟨x0, x2, x3, x5, x9, x11, x13⟩ := r1
  refine ⟨⟨by rw [ap_at (by omega)]; exact hq0, hx 0, x0, x2, ⟨hx 1, ⟨hx 2, hx 3, hx 4, hx 5, hx 6⟩, r2⟩, ⟨hx 13, hx 14, hx 15, hx 16⟩, x5, x9, x11, x13⟩, ?_⟩
  unfold HZ
  rw [hzo 13 (by decide), hzo 15 (by decide), hzo 19 (by decide), hzo 0 (by decide), hzo 21 (by decide), hzo 16 (by decide), hzo 17 (by decide), hzo 18 (by decide)]
  refine ⟨⟨h1, fun f f0 f1 => absurd f1 (by omega)⟩, ⟨by rw [hzo 14 (by decide)]; exact hs, fun j j0 j1 => ?_⟩, ⟨B + 8, x3, by omega, ⟨hx 7, ⟨hx 8, hx 9, hx 10, hx 11, hx 12⟩, r3⟩, by rw [ht]; exact hr.2.1, ?_, by omega, ?_, ?_, fun _ => 0, rfl, ?_, fun i hi => absurd hi (by omega)⟩, h4, ⟨h6, fun j j0 j1 => absurd j1 (by omega)⟩, h7, h8, ⟨h10, fun j j0 j1 => absurd j1 (by omega)⟩, ⟨h12, fun j j0 j1 => absurd j1 (by omega)⟩, ⟨h14, fun j j0 j1 => absurd j1 (by omega)⟩⟩
  · rw [hzo 14 (by decide)] at j1; omega
  · unfold flyF; rw [ht]; exact hr.2.2
  · rw [show B + 8 + 5 = B + 13 from rfl, hc, ht]; omega
  · rw [show B + 8 + 5 = B + 13 from rfl, hc, ht]; omega
  · rw [ht]; rfl
set_option maxHeartbeats 4000000 in
set_option maxRecDepth 100000 in
theorem c_initH (E : xE) {σ : xM} {ρ : xR} {ks : xKs} {B : Nat} (hB : B = 1 ∨ B = 19) (l0 : ks.length = B + 1) (hq0 : ks[B]? = some (0, 1)) : Sp E yX1_init kX1_init 2 17 341 [.ref B] σ ρ ks (fun r σ' ρ' ks' => r = none ∧ ks' = ks ++ hallKs ∧ (∀ p, p < B → σ' p = σ p ∧ ρ' p = ρ p) ∧ HKB ks' ρ' B ∧ HZ σ' ρ' ks' B z0R) := by
  refine x_enter (own := RX1) (L := [_]) (by decide +kernel) rfl (by exact Nat.le_of_ble_eq_true rfl) rfl (fun p e R s m args below meth c Z hZ hC hR hin => ?_)
  have q0 : ks[B]? = some (0, 1) := hq0
  refine x_aload_n (pc := 0) hC dX1_init_0 rfl ?_
  refine x_objInit (pc := 1) hC hR (by decide) wX1_3 (by exact Nat.le_of_ble_eq_true rfl) rfl dX1_init_1 ?_
  refine x_aload_n (pc := 4) hC dX1_init_4 rfl ?_
  refine x_iconst (pc := 5) hC dX1_init_5 ?_
  refine x_newF (n := 4) (pc := 6) hC rfl nX1_9 (by decide) hR (by decide) dX1_init_6 ?_
  rw [l0]
  have l1 : (ks ++ [(3, 4)]).length = B + 2 := by simp [l0]
  have q1 : (ks ++ [(3, 4)])[B]? = some (0, 1) := by (try simp only [List.append_assoc]); rw [ap_at (by omega)]; exact hq0
  refine x_putr (K := 0) (pc := 9) hC rfl (some _) fX1_11_1 (Or.inr ⟨hin, rfl⟩) (by assumption) dX1_init_9 rfl rfl ?_
  refine x_aload_n (pc := 12) hC dX1_init_12 rfl ?_
  refine x_iconst (pc := 13) hC dX1_init_13 ?_
  refine x_putiF (K := 1) (pc := 14) hC rfl fX1_17_1 ⟨hin, rfl⟩ (by assumption) dX1_init_14 rfl ?_
  refine x_aload_n (pc := 17) hC dX1_init_17 rfl ?_
  refine x_new (pc := 18) hC (by decide) uwX5 nX1_21 hR (by decide) dX1_init_18 ?_
  rw [l1]
  have l2 : (ks ++ [(3, 4)] ++ [(0, 5)]).length = B + 3 := by simp [l0]
  have q2 : (ks ++ [(3, 4)] ++ [(0, 5)])[B]? = some (0, 1) := by (try simp only [List.append_assoc]); rw [ap_at (by omega)]; exact hq0
  have m2 : (ks ++ [(3, 4)] ++ [(0, 5)])[B + 2]? = some (0, 5) := by rw [show B + 2 = B + 1 + 1 from rfl, List.append_assoc, ap_ix l0 1]; rfl
  refine x_dup (pc := 21) hC dX1_init_21 rfl ?_
  refine x_callIN (As := []) (Bs := []) (pc := 22) hC (c_initS E l2 m2) wX1_23 pX5_init rfl rfl (by exact Nat.le_of_ble_eq_true rfl) hR (by decide) (by decide) (by decide) rfl dX1_init_22 (fun r22 σ22 ρ22 ks22 q22 => ?_)
  obtain ⟨rfl, e22, fr22, sv22, rv22⟩ := q22
  subst e22
  have l3 : (ks ++ [(3, 4)] ++ [(0, 5)] ++ [(1, 6), (1, 6), (1, 6), (1, 6), (1, 6)]).length = B + 8 := by simp [l0]
  have q3 : (ks ++ [(3, 4)] ++ [(0, 5)] ++ [(1, 6), (1, 6), (1, 6), (1, 6), (1, 6)])[B]? = some (0, 1) := by (try simp only [List.append_assoc]); rw [ap_at (by omega)]; exact hq0
  refine x_putr (K := 2) (pc := 25) hC rfl (some _) fX1_24_1 (Or.inr ⟨hin, rfl⟩) (by assumption) dX1_init_25 rfl rfl ?_
  refine x_aload_n (pc := 28) hC dX1_init_28 rfl ?_
  refine x_new (pc := 29) hC (by decide) uwX4 nX1_28 hR (by decide) dX1_init_29 ?_
  rw [l3]
  have l4 : (ks ++ [(3, 4)] ++ [(0, 5)] ++ [(1, 6), (1, 6), (1, 6), (1, 6), (1, 6)] ++ [(0, 4)]).length = B + 9 := by simp [l0]
  have q4 : (ks ++ [(3, 4)] ++ [(0, 5)] ++ [(1, 6), (1, 6), (1, 6), (1, 6), (1, 6)] ++ [(0, 4)])[B]? = some (0, 1) := by (try simp only [List.append_assoc]); rw [ap_at (by omega)]; exact hq0
  have m4 : (ks ++ [(3, 4)] ++ [(0, 5)] ++ [(1, 6), (1, 6), (1, 6), (1, 6), (1, 6)] ++ [(0, 4)])[B + 8]? = some (0, 4) := by simp only [List.append_assoc]; rw [show B + 8 = B + 1 + 7 from rfl, ap_ix l0 7]; rfl
  refine x_dup (pc := 32) hC dX1_init_32 rfl ?_
  refine x_callIN (As := []) (Bs := []) (pc := 33) hC (c_initR E l4 m4) wX1_30 pX4_init rfl rfl (by exact Nat.le_of_ble_eq_true rfl) hR (by decide) (by decide) (by decide) rfl dX1_init_33 (fun r33 σ33 ρ33 ks33 q33 => ?_)
  obtain ⟨rfl, e33, fr33, sv33, rv33⟩ := q33
  subst e33
  have l5 : (ks ++ [(3, 4)] ++ [(0, 5)] ++ [(1, 6), (1, 6), (1, 6), (1, 6), (1, 6)] ++ [(0, 4)] ++ [(1, 10), (1, 10), (1, 10), (1, 100), (1, 4)]).length = B + 14 := by simp [l0]
  have q5 : (ks ++ [(3, 4)] ++ [(0, 5)] ++ [(1, 6), (1, 6), (1, 6), (1, 6), (1, 6)] ++ [(0, 4)] ++ [(1, 10), (1, 10), (1, 10), (1, 100), (1, 4)])[B]? = some (0, 1) := by (try simp only [List.append_assoc]); rw [ap_at (by omega)]; exact hq0
  refine x_putr (K := 3) (pc := 36) hC rfl (some _) fX1_31_1 (Or.inr ⟨hin, rfl⟩) (by assumption) dX1_init_36 rfl rfl ?_
  refine x_aload_n (pc := 39) hC dX1_init_39 rfl ?_
  refine x_iconst (pc := 40) hC dX1_init_40 ?_
  refine x_putiF (K := 4) (pc := 41) hC rfl fX1_35_1 ⟨hin, rfl⟩ (by assumption) dX1_init_41 rfl ?_
  refine x_aload_n (pc := 44) hC dX1_init_44 rfl ?_
  refine x_bipush (pc := 45) hC dX1_init_45 (by decide +kernel) ?_
  refine x_newI (n := 100) (pc := 47) hC rfl a_int (by decide) hR (by decide) dX1_init_47 ?_
  rw [l5]
  have l6 : (ks ++ [(3, 4)] ++ [(0, 5)] ++ [(1, 6), (1, 6), (1, 6), (1, 6), (1, 6)] ++ [(0, 4)] ++ [(1, 10), (1, 10), (1, 10), (1, 100), (1, 4)] ++ [(1, 100)]).length = B + 15 := by simp [l0]
  have q6 : (ks ++ [(3, 4)] ++ [(0, 5)] ++ [(1, 6), (1, 6), (1, 6), (1, 6), (1, 6)] ++ [(0, 4)] ++ [(1, 10), (1, 10), (1, 10), (1, 100), (1, 4)] ++ [(1, 100)])[B]? = some (0, 1) := by (try simp only [List.append_assoc]); rw [ap_at (by omega)]; exact hq0
  refine x_putr (K := 5) (pc := 49) hC rfl (some _) fX1_38_1 (Or.inr ⟨hin, rfl⟩) (by assumption) dX1_init_49 rfl rfl ?_
  refine x_aload_n (pc := 52) hC dX1_init_52 rfl ?_
  refine x_iconst (pc := 53) hC dX1_init_53 ?_
  refine x_putiF (K := 6) (pc := 54) hC rfl fX1_42_1 ⟨hin, rfl⟩ (by assumption) dX1_init_54 rfl ?_
  refine x_aload_n (pc := 57) hC dX1_init_57 rfl ?_
  refine x_iconst (pc := 58) hC dX1_init_58 ?_
  refine x_putiF (K := 7) (pc := 59) hC rfl fX1_45_1 ⟨hin, rfl⟩ (by assumption) dX1_init_59 rfl ?_
  refine x_aload_n (pc := 62) hC dX1_init_62 rfl ?_
  refine x_iconst (pc := 63) hC dX1_init_63 ?_
  refine x_putiF (K := 8) (pc := 64) hC rfl fX1_48_1 ⟨hin, rfl⟩ (by assumption) dX1_init_64 rfl ?_
  refine x_aload_n (pc := 67) hC dX1_init_67 rfl ?_
  refine x_bipush (pc := 68) hC dX1_init_68 (by decide +kernel) ?_
  refine x_newI (n := 18) (pc := 70) hC rfl a_int (by decide) hR (by decide) dX1_init_70 ?_
  rw [l6]
  have l7 : (ks ++ [(3, 4)] ++ [(0, 5)] ++ [(1, 6), (1, 6), (1, 6), (1, 6), (1, 6)] ++ [(0, 4)] ++ [(1, 10), (1, 10), (1, 10), (1, 100), (1, 4)] ++ [(1, 100)] ++ [(1, 18)]).length = B + 16 := by simp [l0]
  have q7 : (ks ++ [(3, 4)] ++ [(0, 5)] ++ [(1, 6), (1, 6), (1, 6), (1, 6), (1, 6)] ++ [(0, 4)] ++ [(1, 10), (1, 10), (1, 10), (1, 100), (1, 4)] ++ [(1, 100)] ++ [(1, 18)])[B]? = some (0, 1) := by (try simp only [List.append_assoc]); rw [ap_at (by omega)]; exact hq0
  refine x_putr (K := 9) (pc := 72) hC rfl (some _) fX1_51_1 (Or.inr ⟨hin, rfl⟩) (by assumption) dX1_init_72 rfl rfl ?_
  refine x_aload_n (pc := 75) hC dX1_init_75 rfl ?_
  refine x_iconst (pc := 76) hC dX1_init_76 ?_
  refine x_putiF (K := 10) (pc := 77) hC rfl fX1_54_1 ⟨hin, rfl⟩ (by assumption) dX1_init_77 rfl ?_
  refine x_aload_n (pc := 80) hC dX1_init_80 rfl ?_
  refine x_bipush (pc := 81) hC dX1_init_81 (by decide +kernel) ?_
  refine x_newI (n := 12) (pc := 83) hC rfl a_int (by decide) hR (by decide) dX1_init_83 ?_
  rw [l7]
  have l8 : (ks ++ [(3, 4)] ++ [(0, 5)] ++ [(1, 6), (1, 6), (1, 6), (1, 6), (1, 6)] ++ [(0, 4)] ++ [(1, 10), (1, 10), (1, 10), (1, 100), (1, 4)] ++ [(1, 100)] ++ [(1, 18)] ++ [(1, 12)]).length = B + 17 := by simp [l0]
  have q8 : (ks ++ [(3, 4)] ++ [(0, 5)] ++ [(1, 6), (1, 6), (1, 6), (1, 6), (1, 6)] ++ [(0, 4)] ++ [(1, 10), (1, 10), (1, 10), (1, 100), (1, 4)] ++ [(1, 100)] ++ [(1, 18)] ++ [(1, 12)])[B]? = some (0, 1) := by (try simp only [List.append_assoc]); rw [ap_at (by omega)]; exact hq0
  refine x_putr (K := 11) (pc := 85) hC rfl (some _) fX1_57_1 (Or.inr ⟨hin, rfl⟩) (by assumption) dX1_init_85 rfl rfl ?_
  refine x_aload_n (pc := 88) hC dX1_init_88 rfl ?_
  refine x_iconst (pc := 89) hC dX1_init_89 ?_
  refine x_putiF (K := 12) (pc := 90) hC rfl fX1_60_1 ⟨hin, rfl⟩ (by assumption) dX1_init_90 rfl ?_
  refine x_aload_n (pc := 93) hC dX1_init_93 rfl ?_
  refine x_bipush (pc := 94) hC dX1_init_94 (by decide +kernel) ?_
  refine x_newI (n := 24) (pc := 96) hC rfl a_int (by decide) hR (by decide) dX1_init_96 ?_
  rw [l8]
  have l9 : (ks ++ [(3, 4)] ++ [(0, 5)] ++ [(1, 6), (1, 6), (1, 6), (1, 6), (1, 6)] ++ [(0, 4)] ++ [(1, 10), (1, 10), (1, 10), (1, 100), (1, 4)] ++ [(1, 100)] ++ [(1, 18)] ++ [(1, 12)] ++ [(1, 24)]).length = B + 18 := by simp [l0]
  have q9 : (ks ++ [(3, 4)] ++ [(0, 5)] ++ [(1, 6), (1, 6), (1, 6), (1, 6), (1, 6)] ++ [(0, 4)] ++ [(1, 10), (1, 10), (1, 10), (1, 100), (1, 4)] ++ [(1, 100)] ++ [(1, 18)] ++ [(1, 12)] ++ [(1, 24)])[B]? = some (0, 1) := by (try simp only [List.append_assoc]); rw [ap_at (by omega)]; exact hq0
  refine x_putr (K := 13) (pc := 98) hC rfl (some _) fX1_63_1 (Or.inr ⟨hin, rfl⟩) (by assumption) dX1_init_98 rfl rfl ?_
  refine x_aload_n (pc := 101) hC dX1_init_101 rfl ?_
  refine x_iconst (pc := 102) hC dX1_init_102 ?_
  refine x_putiF (K := 14) (pc := 103) hC rfl fX1_66_1 ⟨hin, rfl⟩ (by assumption) dX1_init_103 rfl ?_
  refine x_return hC hZ dX1_init_106 (by decide) (by decide) ?_
  have hks : ks ++ [(3, 4)] ++ [(0, 5)] ++ [(1, 6), (1, 6), (1, 6), (1, 6), (1, 6)] ++ [(0, 4)] ++ [(1, 10), (1, 10), (1, 10), (1, 100), (1, 4)] ++ [(1, 100)] ++ [(1, 18)] ++ [(1, 12)] ++ [(1, 24)] = ks ++ hallKs := by simp [hallKs]
  have hB8 : ∀ p, p < B + 8 → p ≠ B → σ33 p = σ22 p := fun p h1 h2 => by
    rw [(fr33 p h1).1]; funext j; simp (disch := omega) only [wr_p, wr_k, wr_eq, zr_p, zr_eq, wr_of]
  have hr8 : ∀ p, p < B + 8 → p ≠ B → ρ33 p = ρ22 p := fun p h1 h2 => by
    rw [(fr33 p h1).2]; funext j; simp (disch := omega) only [wq_p, nr_o]
  have hlo : ∀ p, p < B → σ33 p = σ p ∧ ρ33 p = ρ p := fun p h1 => by
    refine ⟨(hB8 p (by omega) (by omega)).trans ?_, (hr8 p (by omega) (by omega)).trans ?_⟩
    · rw [(fr22 p (by omega)).1]; funext j; simp (disch := omega) only [wr_p, wr_k, wr_eq, zr_p, zr_eq, wr_of]
    · rw [(fr22 p (by omega)).2]; funext j; simp (disch := omega) only [wq_p, nr_o]
  have hsB : σ33 B 1 = 0 := by
    rw [(fr33 B (by omega)).1, zr_p _ (by omega), (fr22 B (by omega)).1]; simp (disch := omega) only [wr_p, wr_k, wr_eq, zr_p, zr_eq, wr_of]
  have hrB : ρ33 B 0 = some (B + 1) ∧ ρ33 B 2 = some (B + 2) := by
    refine ⟨?_, ?_⟩
    · rw [(fr33 B (by omega)).2, nr_o _ (by omega), wq_k _ _ _ (by decide), (fr22 B (by omega)).2, nr_o _ (by omega), wq_eq]
    · rw [(fr33 B (by omega)).2, nr_o _ (by omega), wq_eq]
  rw [hks]
  refine ⟨rfl, rfl, fun p hp => ⟨?_, ?_⟩, ?_⟩
  · rw [← (hlo p hp).1]; funext j; simp (disch := omega) only [wr_p, wr_k, wr_eq, zr_p, zr_eq, wr_of]
  · rw [← (hlo p hp).2]; funext j; simp (disch := omega) only [wq_p, nr_o]
  · refine hall_new hB l0 hq0 rfl ?_ ?_ ?_ ?_ ?_ ?_ ?_
    · refine ⟨?_, ?_, ?_, ?_, ?_, ?_, ?_, ?_⟩
      · simp (disch := omega) only [wr_p, wr_k, wr_eq, zr_p, zr_eq, wr_of]; exact hsB
      all_goals simp (disch := omega) only [wr_p, wr_k, wr_eq, zr_p, zr_eq, wr_of]
    · simp (disch := omega) only [wr_p, wr_k, wr_eq, zr_p, zr_eq, wr_of]; rw [hB8 _ (by omega) (by omega)]; exact sv22.1
    · obtain ⟨⟨u1, u2, u3, u4, u5, u6⟩, u7⟩ := sv33
      refine ⟨?_, ?_, ?_⟩ <;> simp (disch := omega) only [wr_p, wr_k, wr_eq, zr_p, zr_eq, wr_of] <;> assumption
    · intro j; simp (disch := omega) only [wr_p, wr_k, wr_eq, zr_p, zr_eq, wr_of]; exact sv33.2 _ (by omega) (by omega) j
    · refine ⟨?_, ?_, ?_, ?_, ?_, ?_, ?_⟩
      · simp (disch := omega) only [wq_p, wq_k, wq_eq, nr_o]; exact hrB.1
      · simp (disch := omega) only [wq_p, wq_k, wq_eq, nr_o]; exact hrB.2
      all_goals simp (disch := omega) only [wq_p, wq_k, wq_eq, nr_o]
    · obtain ⟨v1, v2, v3, v4, v5⟩ := rv22
      refine ⟨?_, ?_, ?_, ?_, ?_⟩ <;> simp (disch := omega) only [wq_p, nr_o] <;> rw [hr8 _ (by omega) (by omega)] <;> assumption
    · obtain ⟨v1, v2, v3, v4, v5⟩ := rv33
      refine ⟨?_, ?_, ?_, ?_, ?_⟩ <;> simp (disch := omega) only [wq_p, nr_o] <;> assumption
