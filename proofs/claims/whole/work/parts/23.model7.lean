def pushL (b : zS) (r : Int) : List Int → zS
  | [] => b
  | x :: l => pushL (up b r x) (r + 1) l
def tr (σ : xM) (l : List Int) : xM := wr (sw σ 54 (pushL (σ 54) (σ 46 17) l)) 46 17 (σ 46 17 + l.length)
theorem tr_17 (σ : xM) (l : List Int) : tr σ l 46 17 = σ 46 17 + l.length := wr_eq _ _ _ _
theorem tr_f (σ : xM) (l : List Int) {j : Int} (h : j ≠ 17) : tr σ l 46 j = σ 46 j := by unfold tr; rw [wr_k _ _ _ h, sw_ne _ (by decide)]
theorem tr_54 (σ : xM) (l : List Int) : tr σ l 54 = pushL (σ 54) (σ 46 17) l := by funext j; unfold tr; rw [wr_p _ (by decide), sw_eq]
theorem tr_q (σ : xM) (l : List Int) {q : Nat} (h : q ≠ 46) (h2 : q ≠ 54) : tr σ l q = σ q := by funext j; unfold tr; rw [wr_p _ h, sw_ne _ h2]
theorem pushL_app (l2 : List Int) : ∀ (l1 : List Int) (b : zS) (r : Int), pushL (pushL b r l1) (r + l1.length) l2 = pushL b r (l1 ++ l2)
  | [], b, r => by simp [pushL]
  | x :: l1, b, r => by
    show pushL (pushL (up b r x) (r + 1) l1) (r + ((l1.length + 1 : Nat) : Int)) l2 = pushL (up b r x) (r + 1) (l1 ++ l2)
    rw [← pushL_app l2 l1 (up b r x) (r + 1), show r + ((l1.length + 1 : Nat) : Int) = r + 1 + l1.length by omega]
theorem tr_tr (σ : xM) (l1 l2 : List Int) : tr (tr σ l1) l2 = tr σ (l1 ++ l2) := by
  funext q j
  by_cases h46 : q = 46
  · subst h46
    by_cases h17 : j = 17
    · subst h17; rw [tr_17, tr_17, tr_17, List.length_append]; omega
    · rw [tr_f _ _ h17, tr_f _ _ h17, tr_f _ _ h17]
  · by_cases h54 : q = 54
    · subst h54; rw [tr_54, tr_54, tr_54, tr_17, pushL_app]
    · rw [tr_q _ _ h46 h54, tr_q _ _ h46 h54, tr_q _ _ h46 h54]
def blowsT (k : Int) : List Int := if k = 1 ∨ k = 4 then [11, 1] else if k = 5 then [51, 1] else [1]
def goesT (k : Int) : List Int := if k = 6 then [61, 21, 2] ++ blowsT k else if k = 2 then [21, 2] ++ blowsT k else [2] ++ blowsT k
def tellsT (k : Int) : List Int := if k = 3 ∨ k = 5 then [31, 3] ++ goesT k else if k = 4 then [41, 3] ++ (goesT k ++ blowsT k) else [3] ++ goesT k
def blowsV (k n x : Int) : Int := if k = 1 ∨ k = 4 then x * 3 + n else if k = 5 then bXor (x + n) n else x + n
def goesV (k n v x : Int) : Int := if k = 6 then -(blowsV k n x - v) + v else if k = 2 then -(blowsV k n x - v) else blowsV k n x - v
def tellsV (k n v x : Int) : Int := if k = 3 ∨ k = 5 then bXor (goesV k n v x * 2) 7 else if k = 4 then goesV k n v (x - 1) * 2 + blowsV k n 2 else goesV k n v x * 2
theorem blowsT_len (k : Int) : (blowsT k).length ≤ 2 := by
  unfold blowsT
  split
  · decide
  · split <;> decide
theorem goesT_len (k : Int) : (goesT k).length ≤ 5 := by
  have := blowsT_len k
  unfold goesT
  split
  · simp; omega
  · split <;> (simp; omega)
set_option maxHeartbeats 4000000 in
set_option maxRecDepth 100000 in
theorem s_ranBody (E : xE) {σ : xM} {ρ : xR} {ks : xKs} (hk : MK ks) (hw : MW ρ) {x : Int} (h : 0 ≤ σ 46 17 ∧ σ 46 17 < 20) : Sp E yX12_ranBody kX12_ranBody 1 0 0 [.ref 46, .int (iI x)] σ ρ ks (Fn none (tr σ [x]) ρ ks) := by
  obtain ⟨k46, k47, k48, k49, k50, k51, k52, k53, k54⟩ := id hk
  obtain ⟨w1, w2, w3, w10, w11, w14, w15, w16⟩ := id hw
  refine x_enter (own := RX12) (L := [_, _]) (by decide +kernel) rfl (by exact Nat.le_of_ble_eq_true rfl) rfl (fun p e R s m args below meth c Z hZ hC hR hin => ?_)
  refine x_aload_n (pc := 0) hC dX12_ranBody_0 rfl ?_
  refine x_geti (K := 17) (pc := 1) hC fX12_240_12 (by assumption) dX12_ranBody_1 rfl rfl ?_
  refine x_bipush (pc := 4) hC dX12_ranBody_4 (by decide +kernel) ?_
  refine x_icmp_ge (tgt := 19) (pc := 6) hC (by omega) (by omega) dX12_ranBody_6 (by decide) (fun c6 => by (exfalso; omega)) (fun c6 => ?_)
  refine x_aload_n (pc := 9) hC dX12_ranBody_9 rfl ?_
  refine x_getr (K := 16) (pc := 10) hC fX12_34_12 (by assumption) dX12_ranBody_10 rfl rfl (by assumption) ?_
  refine x_aload_n (pc := 13) hC dX12_ranBody_13 rfl ?_
  refine x_geti (K := 17) (pc := 14) hC fX12_240_12 (by assumption) dX12_ranBody_14 rfl rfl ?_
  refine x_iload_n (pc := 17) hC dX12_ranBody_17 rfl ?_
  refine x_iast (pc := 18) hC (by assumption) (by omega) dX12_ranBody_18 ?_
  refine x_aload_n (pc := 19) hC dX12_ranBody_19 rfl ?_
  refine x_dup (pc := 20) hC dX12_ranBody_20 rfl ?_
  refine x_geti (K := 17) (pc := 21) hC fX12_240_12 (by assumption) dX12_ranBody_21 rfl rfl ?_
  refine x_iconst (pc := 24) hC dX12_ranBody_24 ?_
  refine x_iadd (pc := 25) hC dX12_ranBody_25 ?_
  refine x_puti (K := 17) (pc := 26) hC rfl fX12_240_12 rfl (by assumption) dX12_ranBody_26 rfl ?_
  refine x_return hC hZ dX12_ranBody_29 (by decide) (by decide) ?_
  refine ⟨rfl, ?_, rfl, rfl⟩
  unfold tr pushL pushL
  rw [wr_sw σ 54, sw_ne _ (by decide)]
  rfl

set_option maxHeartbeats 4000000 in
set_option maxRecDepth 100000 in
theorem s_plainBlows (E : xE) {σ : xM} {ρ : xR} {ks : xKs} (hk : MK ks) (hw : MW ρ) {x : Int} (hr : 0 ≤ σ 46 17 ∧ σ 46 17 ≤ 19) (hkd : 0 ≤ σ 46 18 ∧ σ 46 18 ≤ 6) : Sp E yX12_plainBlows kX12_plainBlows 2 0 0 [.ref 46, .int (iI x)] σ ρ ks (Fn (some (.int (iI (x + σ 46 19)))) (tr σ ([1])) ρ ks) := by
  obtain ⟨k46, k47, k48, k49, k50, k51, k52, k53, k54⟩ := id hk
  obtain ⟨w1, w2, w3, w10, w11, w14, w15, w16⟩ := id hw
  have hb := blowsT_len (σ 46 18)
  have hg := goesT_len (σ 46 18)
  refine x_enter (own := RX12) (L := [_, _]) (by decide +kernel) rfl (by exact Nat.le_of_ble_eq_true rfl) rfl (fun p e R s m args below meth c Z hZ hC hR hin => ?_)
  refine x_aload_n (pc := 0) hC dX12_plainBlows_0 rfl ?_
  refine x_iconst (pc := 1) hC dX12_plainBlows_1 ?_
  refine x_callV0 (As := [_]) (Bs := [_]) (pc := 2) hC (s_ranBody E hk hw (by first | omega | (simp only [tr_17, tr_tr, tr_f _ _ (show (18 : Int) ≠ 17 by decide), tr_f _ _ (show (19 : Int) ≠ 17 by decide), tr_f _ _ (show (20 : Int) ≠ 17 by decide), List.length_cons, List.length_nil, List.length_append]; omega))) wX12_243_12 pX12_ranBody (by assumption) rfl rfl (by exact Nat.le_of_ble_eq_true rfl) hR (by decide) (by decide) (by decide) rfl dX12_plainBlows_2 ?_
  try simp only [tr_tr, tr_f _ _ (show (18 : Int) ≠ 17 by decide), tr_f _ _ (show (19 : Int) ≠ 17 by decide), tr_f _ _ (show (20 : Int) ≠ 17 by decide)]
  refine x_iload_n (pc := 5) hC dX12_plainBlows_5 rfl ?_
  refine x_aload_n (pc := 6) hC dX12_plainBlows_6 rfl ?_
  refine x_geti (K := 19) (pc := 7) hC fX12_246_12 (by assumption) dX12_plainBlows_7 rfl rfl ?_
  refine x_iadd (pc := 10) hC dX12_plainBlows_10 ?_
  refine x_ireturn hC hZ dX12_plainBlows_11 (by decide) (by decide) ?_
  refine ⟨congrArg (fun z => some (Value.int (iI z))) (by first | rfl | (rw [rfl] <;> (try simp only [tr_tr, tr_f _ _ (show (18 : Int) ≠ 17 by decide), tr_f _ _ (show (19 : Int) ≠ 17 by decide), tr_f _ _ (show (20 : Int) ≠ 17 by decide)]))), ?_, rfl, rfl⟩
  first | rfl | (congr 1; simp)

set_option maxHeartbeats 4000000 in
set_option maxRecDepth 100000 in
theorem s_blowsActs (E : xE) {σ : xM} {ρ : xR} {ks : xKs} (hk : MK ks) (hw : MW ρ) {x : Int} (hr : 0 ≤ σ 46 17 ∧ σ 46 17 ≤ 17) (hkd : 0 ≤ σ 46 18 ∧ σ 46 18 ≤ 6) : Sp E yX12_blowsActs kX12_blowsActs 3 0 0 [.ref 46, .int (iI x)] σ ρ ks (Fn (some (.int (iI (blowsV (σ 46 18) (σ 46 19) x)))) (tr σ (blowsT (σ 46 18))) ρ ks) := by
  obtain ⟨k46, k47, k48, k49, k50, k51, k52, k53, k54⟩ := id hk
  obtain ⟨w1, w2, w3, w10, w11, w14, w15, w16⟩ := id hw
  have hb := blowsT_len (σ 46 18)
  have hg := goesT_len (σ 46 18)
  refine x_enter (own := RX12) (L := [_, _]) (by decide +kernel) rfl (by exact Nat.le_of_ble_eq_true rfl) rfl (fun p e R s m args below meth c Z hZ hC hR hin => ?_)
  refine x_aload_n (pc := 0) hC dX12_blowsActs_0 rfl ?_
  refine x_geti (K := 18) (pc := 1) hC fX12_249_12 (by assumption) dX12_blowsActs_1 rfl rfl ?_
  refine x_iconst (pc := 4) hC dX12_blowsActs_4 ?_
  refine x_callS1 (As := [_, _]) (Bs := [_, _]) (pc := 5) hC (s_isUnder E (by omega) (by omega)) wX12_252 pX12_isUnder rfl rfl (by exact Nat.le_of_ble_eq_true rfl) hR (by decide) (by decide) (by decide) rfl dX12_blowsActs_5 ?_
  refine x_ifB_eq (tgt := 25) (pc := 8) hC  dX12_blowsActs_8 (by decide) (fun c8 => ?_) (fun c8 => ?_)
  · refine x_aload_n (pc := 25) hC dX12_blowsActs_25 rfl ?_
    refine x_geti (K := 18) (pc := 26) hC fX12_249_12 (by assumption) dX12_blowsActs_26 rfl rfl ?_
    refine x_iconst (pc := 29) hC dX12_blowsActs_29 ?_
    refine x_icmp_ne (tgt := 50) (pc := 30) hC (by first | omega | (simp only [tr_17, tr_tr, tr_f _ _ (show (18 : Int) ≠ 17 by decide), tr_f _ _ (show (19 : Int) ≠ 17 by decide), tr_f _ _ (show (20 : Int) ≠ 17 by decide), List.length_cons, List.length_nil, List.length_append]; omega)) (by first | omega | (simp only [tr_17, tr_tr, tr_f _ _ (show (18 : Int) ≠ 17 by decide), tr_f _ _ (show (19 : Int) ≠ 17 by decide), tr_f _ _ (show (20 : Int) ≠ 17 by decide), List.length_cons, List.length_nil, List.length_append]; omega)) dX12_blowsActs_30 (by decide) (fun c30 => ?_) (fun c30 => ?_)
    · refine x_aload_n (pc := 50) hC dX12_blowsActs_50 rfl ?_
      refine x_iload_n (pc := 51) hC dX12_blowsActs_51 rfl ?_
      refine x_callV1 (As := [_]) (Bs := [_]) (pc := 52) hC (s_plainBlows E hk hw (by first | omega | (simp only [tr_17, tr_tr, tr_f _ _ (show (18 : Int) ≠ 17 by decide), tr_f _ _ (show (19 : Int) ≠ 17 by decide), tr_f _ _ (show (20 : Int) ≠ 17 by decide), List.length_cons, List.length_nil, List.length_append]; omega)) (by first | omega | (simp only [tr_17, tr_tr, tr_f _ _ (show (18 : Int) ≠ 17 by decide), tr_f _ _ (show (19 : Int) ≠ 17 by decide), tr_f _ _ (show (20 : Int) ≠ 17 by decide), List.length_cons, List.length_nil, List.length_append]; omega))) wX12_255_12 pX12_plainBlows (by assumption) rfl rfl (by exact Nat.le_of_ble_eq_true rfl) hR (by decide) (by decide) (by decide) rfl dX12_blowsActs_52 ?_
      try simp only [tr_tr, tr_f _ _ (show (18 : Int) ≠ 17 by decide), tr_f _ _ (show (19 : Int) ≠ 17 by decide), tr_f _ _ (show (20 : Int) ≠ 17 by decide)]
      refine x_ireturn hC hZ dX12_blowsActs_55 (by decide) (by decide) ?_
      refine ⟨congrArg (fun z => some (Value.int (iI z))) (by first | rfl | (rw [blowsV, if_neg (by omega), if_neg (by omega)] <;> (try simp only [tr_tr, tr_f _ _ (show (18 : Int) ≠ 17 by decide), tr_f _ _ (show (19 : Int) ≠ 17 by decide), tr_f _ _ (show (20 : Int) ≠ 17 by decide)]))), ?_, rfl, rfl⟩
      rw [blowsT, if_neg (by omega), if_neg (by omega)] <;> (first | rfl | (congr 1; simp))
    · refine x_aload_n (pc := 33) hC dX12_blowsActs_33 rfl ?_
      refine x_bipush (pc := 34) hC dX12_blowsActs_34 (by decide +kernel) ?_
      refine x_callV0 (As := [_]) (Bs := [_]) (pc := 36) hC (s_ranBody E hk hw (by first | omega | (simp only [tr_17, tr_tr, tr_f _ _ (show (18 : Int) ≠ 17 by decide), tr_f _ _ (show (19 : Int) ≠ 17 by decide), tr_f _ _ (show (20 : Int) ≠ 17 by decide), List.length_cons, List.length_nil, List.length_append]; omega))) wX12_243_12 pX12_ranBody (by assumption) rfl rfl (by exact Nat.le_of_ble_eq_true rfl) hR (by decide) (by decide) (by decide) rfl dX12_blowsActs_36 ?_
      try simp only [tr_tr, tr_f _ _ (show (18 : Int) ≠ 17 by decide), tr_f _ _ (show (19 : Int) ≠ 17 by decide), tr_f _ _ (show (20 : Int) ≠ 17 by decide)]
      refine x_aload_n (pc := 39) hC dX12_blowsActs_39 rfl ?_
      refine x_iload_n (pc := 40) hC dX12_blowsActs_40 rfl ?_
      refine x_callV1 (As := [_]) (Bs := [_]) (pc := 41) hC (s_plainBlows E hk hw (by first | omega | (simp only [tr_17, tr_tr, tr_f _ _ (show (18 : Int) ≠ 17 by decide), tr_f _ _ (show (19 : Int) ≠ 17 by decide), tr_f _ _ (show (20 : Int) ≠ 17 by decide), List.length_cons, List.length_nil, List.length_append]; omega)) (by first | omega | (simp only [tr_17, tr_tr, tr_f _ _ (show (18 : Int) ≠ 17 by decide), tr_f _ _ (show (19 : Int) ≠ 17 by decide), tr_f _ _ (show (20 : Int) ≠ 17 by decide), List.length_cons, List.length_nil, List.length_append]; omega))) wX12_255_12 pX12_plainBlows (by assumption) rfl rfl (by exact Nat.le_of_ble_eq_true rfl) hR (by decide) (by decide) (by decide) rfl dX12_blowsActs_41 ?_
      try simp only [tr_tr, tr_f _ _ (show (18 : Int) ≠ 17 by decide), tr_f _ _ (show (19 : Int) ≠ 17 by decide), tr_f _ _ (show (20 : Int) ≠ 17 by decide)]
      refine x_aload_n (pc := 44) hC dX12_blowsActs_44 rfl ?_
      refine x_geti (K := 19) (pc := 45) hC fX12_246_12 (by assumption) dX12_blowsActs_45 rfl rfl ?_
      refine x_ixor (pc := 48) hC dX12_blowsActs_48 ?_
      refine x_ireturn hC hZ dX12_blowsActs_49 (by decide) (by decide) ?_
      refine ⟨congrArg (fun z => some (Value.int (iI z))) (by first | rfl | (rw [blowsV, if_neg (by omega), if_pos (by omega)] <;> (try simp only [tr_tr, tr_f _ _ (show (18 : Int) ≠ 17 by decide), tr_f _ _ (show (19 : Int) ≠ 17 by decide), tr_f _ _ (show (20 : Int) ≠ 17 by decide)]))), ?_, rfl, rfl⟩
      rw [blowsT, if_neg (by omega), if_pos (by omega)] <;> (first | rfl | (congr 1; simp))
  · refine x_aload_n (pc := 11) hC dX12_blowsActs_11 rfl ?_
    refine x_bipush (pc := 12) hC dX12_blowsActs_12 (by decide +kernel) ?_
    refine x_callV0 (As := [_]) (Bs := [_]) (pc := 14) hC (s_ranBody E hk hw (by first | omega | (simp only [tr_17, tr_tr, tr_f _ _ (show (18 : Int) ≠ 17 by decide), tr_f _ _ (show (19 : Int) ≠ 17 by decide), tr_f _ _ (show (20 : Int) ≠ 17 by decide), List.length_cons, List.length_nil, List.length_append]; omega))) wX12_243_12 pX12_ranBody (by assumption) rfl rfl (by exact Nat.le_of_ble_eq_true rfl) hR (by decide) (by decide) (by decide) rfl dX12_blowsActs_14 ?_
    try simp only [tr_tr, tr_f _ _ (show (18 : Int) ≠ 17 by decide), tr_f _ _ (show (19 : Int) ≠ 17 by decide), tr_f _ _ (show (20 : Int) ≠ 17 by decide)]
    refine x_aload_n (pc := 17) hC dX12_blowsActs_17 rfl ?_
    refine x_iload_n (pc := 18) hC dX12_blowsActs_18 rfl ?_
    refine x_iconst (pc := 19) hC dX12_blowsActs_19 ?_
    refine x_imul (pc := 20) hC dX12_blowsActs_20 ?_
    refine x_callV1 (As := [_]) (Bs := [_]) (pc := 21) hC (s_plainBlows E hk hw (by first | omega | (simp only [tr_17, tr_tr, tr_f _ _ (show (18 : Int) ≠ 17 by decide), tr_f _ _ (show (19 : Int) ≠ 17 by decide), tr_f _ _ (show (20 : Int) ≠ 17 by decide), List.length_cons, List.length_nil, List.length_append]; omega)) (by first | omega | (simp only [tr_17, tr_tr, tr_f _ _ (show (18 : Int) ≠ 17 by decide), tr_f _ _ (show (19 : Int) ≠ 17 by decide), tr_f _ _ (show (20 : Int) ≠ 17 by decide), List.length_cons, List.length_nil, List.length_append]; omega))) wX12_255_12 pX12_plainBlows (by assumption) rfl rfl (by exact Nat.le_of_ble_eq_true rfl) hR (by decide) (by decide) (by decide) rfl dX12_blowsActs_21 ?_
    try simp only [tr_tr, tr_f _ _ (show (18 : Int) ≠ 17 by decide), tr_f _ _ (show (19 : Int) ≠ 17 by decide), tr_f _ _ (show (20 : Int) ≠ 17 by decide)]
    refine x_ireturn hC hZ dX12_blowsActs_24 (by decide) (by decide) ?_
    refine ⟨congrArg (fun z => some (Value.int (iI z))) (by first | rfl | (rw [blowsV, if_pos (by omega)] <;> (try simp only [tr_tr, tr_f _ _ (show (18 : Int) ≠ 17 by decide), tr_f _ _ (show (19 : Int) ≠ 17 by decide), tr_f _ _ (show (20 : Int) ≠ 17 by decide)]))), ?_, rfl, rfl⟩
    rw [blowsT, if_pos (by omega)] <;> (first | rfl | (congr 1; simp))

set_option maxHeartbeats 4000000 in
set_option maxRecDepth 100000 in
theorem s_plainGoes (E : xE) {σ : xM} {ρ : xR} {ks : xKs} (hk : MK ks) (hw : MW ρ) {x : Int} (hr : 0 ≤ σ 46 17 ∧ σ 46 17 ≤ 16) (hkd : 0 ≤ σ 46 18 ∧ σ 46 18 ≤ 6) : Sp E yX12_plainGoes kX12_plainGoes 4 0 0 [.ref 46, .int (iI x)] σ ρ ks (Fn (some (.int (iI (blowsV (σ 46 18) (σ 46 19) x - σ 46 20)))) (tr σ ([2] ++ blowsT (σ 46 18))) ρ ks) := by
  obtain ⟨k46, k47, k48, k49, k50, k51, k52, k53, k54⟩ := id hk
  obtain ⟨w1, w2, w3, w10, w11, w14, w15, w16⟩ := id hw
  have hb := blowsT_len (σ 46 18)
  have hg := goesT_len (σ 46 18)
  refine x_enter (own := RX12) (L := [_, _]) (by decide +kernel) rfl (by exact Nat.le_of_ble_eq_true rfl) rfl (fun p e R s m args below meth c Z hZ hC hR hin => ?_)
  refine x_aload_n (pc := 0) hC dX12_plainGoes_0 rfl ?_
  refine x_iconst (pc := 1) hC dX12_plainGoes_1 ?_
  refine x_callV0 (As := [_]) (Bs := [_]) (pc := 2) hC (s_ranBody E hk hw (by first | omega | (simp only [tr_17, tr_tr, tr_f _ _ (show (18 : Int) ≠ 17 by decide), tr_f _ _ (show (19 : Int) ≠ 17 by decide), tr_f _ _ (show (20 : Int) ≠ 17 by decide), List.length_cons, List.length_nil, List.length_append]; omega))) wX12_243_12 pX12_ranBody (by assumption) rfl rfl (by exact Nat.le_of_ble_eq_true rfl) hR (by decide) (by decide) (by decide) rfl dX12_plainGoes_2 ?_
  try simp only [tr_tr, tr_f _ _ (show (18 : Int) ≠ 17 by decide), tr_f _ _ (show (19 : Int) ≠ 17 by decide), tr_f _ _ (show (20 : Int) ≠ 17 by decide)]
  refine x_aload_n (pc := 5) hC dX12_plainGoes_5 rfl ?_
  refine x_iload_n (pc := 6) hC dX12_plainGoes_6 rfl ?_
  refine x_callV1 (As := [_]) (Bs := [_]) (pc := 7) hC (s_blowsActs E hk hw (by first | omega | (simp only [tr_17, tr_tr, tr_f _ _ (show (18 : Int) ≠ 17 by decide), tr_f _ _ (show (19 : Int) ≠ 17 by decide), tr_f _ _ (show (20 : Int) ≠ 17 by decide), List.length_cons, List.length_nil, List.length_append]; omega)) (by first | omega | (simp only [tr_17, tr_tr, tr_f _ _ (show (18 : Int) ≠ 17 by decide), tr_f _ _ (show (19 : Int) ≠ 17 by decide), tr_f _ _ (show (20 : Int) ≠ 17 by decide), List.length_cons, List.length_nil, List.length_append]; omega))) wX12_258_12 pX12_blowsActs (by assumption) rfl rfl (by exact Nat.le_of_ble_eq_true rfl) hR (by decide) (by decide) (by decide) rfl dX12_plainGoes_7 ?_
  try simp only [tr_tr, tr_f _ _ (show (18 : Int) ≠ 17 by decide), tr_f _ _ (show (19 : Int) ≠ 17 by decide), tr_f _ _ (show (20 : Int) ≠ 17 by decide)]
  refine x_aload_n (pc := 10) hC dX12_plainGoes_10 rfl ?_
  refine x_geti (K := 20) (pc := 11) hC fX12_261_12 (by assumption) dX12_plainGoes_11 rfl rfl ?_
  refine x_isub (pc := 14) hC dX12_plainGoes_14 ?_
  refine x_ireturn hC hZ dX12_plainGoes_15 (by decide) (by decide) ?_
  refine ⟨congrArg (fun z => some (Value.int (iI z))) (by first | rfl | (rw [rfl] <;> (try simp only [tr_tr, tr_f _ _ (show (18 : Int) ≠ 17 by decide), tr_f _ _ (show (19 : Int) ≠ 17 by decide), tr_f _ _ (show (20 : Int) ≠ 17 by decide)]))), ?_, rfl, rfl⟩
  first | rfl | (congr 1; simp)

set_option maxHeartbeats 4000000 in
set_option maxRecDepth 100000 in
theorem s_turnGoes (E : xE) {σ : xM} {ρ : xR} {ks : xKs} (hk : MK ks) (hw : MW ρ) {x : Int} (hr : 0 ≤ σ 46 17 ∧ σ 46 17 ≤ 15) (hkd : 0 ≤ σ 46 18 ∧ σ 46 18 ≤ 6) : Sp E yX12_turnGoes kX12_turnGoes 5 0 0 [.ref 46, .int (iI x)] σ ρ ks (Fn (some (.int (iI (-(blowsV (σ 46 18) (σ 46 19) x - σ 46 20))))) (tr σ ([21, 2] ++ blowsT (σ 46 18))) ρ ks) := by
  obtain ⟨k46, k47, k48, k49, k50, k51, k52, k53, k54⟩ := id hk
  obtain ⟨w1, w2, w3, w10, w11, w14, w15, w16⟩ := id hw
  have hb := blowsT_len (σ 46 18)
  have hg := goesT_len (σ 46 18)
  refine x_enter (own := RX12) (L := [_, _]) (by decide +kernel) rfl (by exact Nat.le_of_ble_eq_true rfl) rfl (fun p e R s m args below meth c Z hZ hC hR hin => ?_)
  refine x_aload_n (pc := 0) hC dX12_turnGoes_0 rfl ?_
  refine x_bipush (pc := 1) hC dX12_turnGoes_1 (by decide +kernel) ?_
  refine x_callV0 (As := [_]) (Bs := [_]) (pc := 3) hC (s_ranBody E hk hw (by first | omega | (simp only [tr_17, tr_tr, tr_f _ _ (show (18 : Int) ≠ 17 by decide), tr_f _ _ (show (19 : Int) ≠ 17 by decide), tr_f _ _ (show (20 : Int) ≠ 17 by decide), List.length_cons, List.length_nil, List.length_append]; omega))) wX12_243_12 pX12_ranBody (by assumption) rfl rfl (by exact Nat.le_of_ble_eq_true rfl) hR (by decide) (by decide) (by decide) rfl dX12_turnGoes_3 ?_
  try simp only [tr_tr, tr_f _ _ (show (18 : Int) ≠ 17 by decide), tr_f _ _ (show (19 : Int) ≠ 17 by decide), tr_f _ _ (show (20 : Int) ≠ 17 by decide)]
  refine x_aload_n (pc := 6) hC dX12_turnGoes_6 rfl ?_
  refine x_iload_n (pc := 7) hC dX12_turnGoes_7 rfl ?_
  refine x_callV1 (As := [_]) (Bs := [_]) (pc := 8) hC (s_plainGoes E hk hw (by first | omega | (simp only [tr_17, tr_tr, tr_f _ _ (show (18 : Int) ≠ 17 by decide), tr_f _ _ (show (19 : Int) ≠ 17 by decide), tr_f _ _ (show (20 : Int) ≠ 17 by decide), List.length_cons, List.length_nil, List.length_append]; omega)) (by first | omega | (simp only [tr_17, tr_tr, tr_f _ _ (show (18 : Int) ≠ 17 by decide), tr_f _ _ (show (19 : Int) ≠ 17 by decide), tr_f _ _ (show (20 : Int) ≠ 17 by decide), List.length_cons, List.length_nil, List.length_append]; omega))) wX12_264_12 pX12_plainGoes (by assumption) rfl rfl (by exact Nat.le_of_ble_eq_true rfl) hR (by decide) (by decide) (by decide) rfl dX12_turnGoes_8 ?_
  try simp only [tr_tr, tr_f _ _ (show (18 : Int) ≠ 17 by decide), tr_f _ _ (show (19 : Int) ≠ 17 by decide), tr_f _ _ (show (20 : Int) ≠ 17 by decide)]
  refine x_ineg (pc := 11) hC dX12_turnGoes_11 ?_
  refine x_ireturn hC hZ dX12_turnGoes_12 (by decide) (by decide) ?_
  refine ⟨congrArg (fun z => some (Value.int (iI z))) (by first | rfl | (rw [rfl] <;> (try simp only [tr_tr, tr_f _ _ (show (18 : Int) ≠ 17 by decide), tr_f _ _ (show (19 : Int) ≠ 17 by decide), tr_f _ _ (show (20 : Int) ≠ 17 by decide)]))), ?_, rfl, rfl⟩
  first | rfl | (congr 1; simp)

set_option maxHeartbeats 4000000 in
set_option maxRecDepth 100000 in
theorem s_goesActs (E : xE) {σ : xM} {ρ : xR} {ks : xKs} (hk : MK ks) (hw : MW ρ) {x : Int} (hr : 0 ≤ σ 46 17 ∧ σ 46 17 ≤ 14) (hkd : 0 ≤ σ 46 18 ∧ σ 46 18 ≤ 6) : Sp E yX12_goesActs kX12_goesActs 6 0 0 [.ref 46, .int (iI x)] σ ρ ks (Fn (some (.int (iI (goesV (σ 46 18) (σ 46 19) (σ 46 20) x)))) (tr σ (goesT (σ 46 18))) ρ ks) := by
  obtain ⟨k46, k47, k48, k49, k50, k51, k52, k53, k54⟩ := id hk
  obtain ⟨w1, w2, w3, w10, w11, w14, w15, w16⟩ := id hw
  have hb := blowsT_len (σ 46 18)
  have hg := goesT_len (σ 46 18)
  refine x_enter (own := RX12) (L := [_, _]) (by decide +kernel) rfl (by exact Nat.le_of_ble_eq_true rfl) rfl (fun p e R s m args below meth c Z hZ hC hR hin => ?_)
  refine x_aload_n (pc := 0) hC dX12_goesActs_0 rfl ?_
  refine x_geti (K := 18) (pc := 1) hC fX12_249_12 (by assumption) dX12_goesActs_1 rfl rfl ?_
  refine x_bipush (pc := 4) hC dX12_goesActs_4 (by decide +kernel) ?_
  refine x_icmp_ne (tgt := 26) (pc := 6) hC (by first | omega | (simp only [tr_17, tr_tr, tr_f _ _ (show (18 : Int) ≠ 17 by decide), tr_f _ _ (show (19 : Int) ≠ 17 by decide), tr_f _ _ (show (20 : Int) ≠ 17 by decide), List.length_cons, List.length_nil, List.length_append]; omega)) (by first | omega | (simp only [tr_17, tr_tr, tr_f _ _ (show (18 : Int) ≠ 17 by decide), tr_f _ _ (show (19 : Int) ≠ 17 by decide), tr_f _ _ (show (20 : Int) ≠ 17 by decide), List.length_cons, List.length_nil, List.length_append]; omega)) dX12_goesActs_6 (by decide) (fun c6 => ?_) (fun c6 => ?_)
  · refine x_aload_n (pc := 26) hC dX12_goesActs_26 rfl ?_
    refine x_geti (K := 18) (pc := 27) hC fX12_249_12 (by assumption) dX12_goesActs_27 rfl rfl ?_
    refine x_iconst (pc := 30) hC dX12_goesActs_30 ?_
    refine x_icmp_ne (tgt := 42) (pc := 31) hC (by first | omega | (simp only [tr_17, tr_tr, tr_f _ _ (show (18 : Int) ≠ 17 by decide), tr_f _ _ (show (19 : Int) ≠ 17 by decide), tr_f _ _ (show (20 : Int) ≠ 17 by decide), List.length_cons, List.length_nil, List.length_append]; omega)) (by first | omega | (simp only [tr_17, tr_tr, tr_f _ _ (show (18 : Int) ≠ 17 by decide), tr_f _ _ (show (19 : Int) ≠ 17 by decide), tr_f _ _ (show (20 : Int) ≠ 17 by decide), List.length_cons, List.length_nil, List.length_append]; omega)) dX12_goesActs_31 (by decide) (fun c31 => ?_) (fun c31 => ?_)
    · refine x_aload_n (pc := 42) hC dX12_goesActs_42 rfl ?_
      refine x_iload_n (pc := 43) hC dX12_goesActs_43 rfl ?_
      refine x_callV1 (As := [_]) (Bs := [_]) (pc := 44) hC (s_plainGoes E hk hw (by first | omega | (simp only [tr_17, tr_tr, tr_f _ _ (show (18 : Int) ≠ 17 by decide), tr_f _ _ (show (19 : Int) ≠ 17 by decide), tr_f _ _ (show (20 : Int) ≠ 17 by decide), List.length_cons, List.length_nil, List.length_append]; omega)) (by first | omega | (simp only [tr_17, tr_tr, tr_f _ _ (show (18 : Int) ≠ 17 by decide), tr_f _ _ (show (19 : Int) ≠ 17 by decide), tr_f _ _ (show (20 : Int) ≠ 17 by decide), List.length_cons, List.length_nil, List.length_append]; omega))) wX12_264_12 pX12_plainGoes (by assumption) rfl rfl (by exact Nat.le_of_ble_eq_true rfl) hR (by decide) (by decide) (by decide) rfl dX12_goesActs_44 ?_
      try simp only [tr_tr, tr_f _ _ (show (18 : Int) ≠ 17 by decide), tr_f _ _ (show (19 : Int) ≠ 17 by decide), tr_f _ _ (show (20 : Int) ≠ 17 by decide)]
      refine x_ireturn hC hZ dX12_goesActs_47 (by decide) (by decide) ?_
      refine ⟨congrArg (fun z => some (Value.int (iI z))) (by first | rfl | (rw [goesV, if_neg (by omega), if_neg (by omega)] <;> (try simp only [tr_tr, tr_f _ _ (show (18 : Int) ≠ 17 by decide), tr_f _ _ (show (19 : Int) ≠ 17 by decide), tr_f _ _ (show (20 : Int) ≠ 17 by decide)]))), ?_, rfl, rfl⟩
      rw [goesT, if_neg (by omega), if_neg (by omega)] <;> (first | rfl | (congr 1; simp))
    · refine x_aload_n (pc := 34) hC dX12_goesActs_34 rfl ?_
      refine x_iload_n (pc := 35) hC dX12_goesActs_35 rfl ?_
      refine x_callV1 (As := [_]) (Bs := [_]) (pc := 36) hC (s_turnGoes E hk hw (by first | omega | (simp only [tr_17, tr_tr, tr_f _ _ (show (18 : Int) ≠ 17 by decide), tr_f _ _ (show (19 : Int) ≠ 17 by decide), tr_f _ _ (show (20 : Int) ≠ 17 by decide), List.length_cons, List.length_nil, List.length_append]; omega)) (by first | omega | (simp only [tr_17, tr_tr, tr_f _ _ (show (18 : Int) ≠ 17 by decide), tr_f _ _ (show (19 : Int) ≠ 17 by decide), tr_f _ _ (show (20 : Int) ≠ 17 by decide), List.length_cons, List.length_nil, List.length_append]; omega))) wX12_267_12 pX12_turnGoes (by assumption) rfl rfl (by exact Nat.le_of_ble_eq_true rfl) hR (by decide) (by decide) (by decide) rfl dX12_goesActs_36 ?_
      try simp only [tr_tr, tr_f _ _ (show (18 : Int) ≠ 17 by decide), tr_f _ _ (show (19 : Int) ≠ 17 by decide), tr_f _ _ (show (20 : Int) ≠ 17 by decide)]
      refine x_goto (tgt := 47) (pc := 39) hC dX12_goesActs_39 (by decide) ?_
      try simp only [tr_tr, tr_f _ _ (show (18 : Int) ≠ 17 by decide), tr_f _ _ (show (19 : Int) ≠ 17 by decide), tr_f _ _ (show (20 : Int) ≠ 17 by decide)]
      refine x_ireturn hC hZ dX12_goesActs_47 (by decide) (by decide) ?_
      refine ⟨congrArg (fun z => some (Value.int (iI z))) (by first | rfl | (rw [goesV, if_neg (by omega), if_pos (by omega)] <;> (try simp only [tr_tr, tr_f _ _ (show (18 : Int) ≠ 17 by decide), tr_f _ _ (show (19 : Int) ≠ 17 by decide), tr_f _ _ (show (20 : Int) ≠ 17 by decide)]))), ?_, rfl, rfl⟩
      rw [goesT, if_neg (by omega), if_pos (by omega)] <;> (first | rfl | (congr 1; simp))
  · refine x_aload_n (pc := 9) hC dX12_goesActs_9 rfl ?_
    refine x_bipush (pc := 10) hC dX12_goesActs_10 (by decide +kernel) ?_
    refine x_callV0 (As := [_]) (Bs := [_]) (pc := 12) hC (s_ranBody E hk hw (by first | omega | (simp only [tr_17, tr_tr, tr_f _ _ (show (18 : Int) ≠ 17 by decide), tr_f _ _ (show (19 : Int) ≠ 17 by decide), tr_f _ _ (show (20 : Int) ≠ 17 by decide), List.length_cons, List.length_nil, List.length_append]; omega))) wX12_243_12 pX12_ranBody (by assumption) rfl rfl (by exact Nat.le_of_ble_eq_true rfl) hR (by decide) (by decide) (by decide) rfl dX12_goesActs_12 ?_
    try simp only [tr_tr, tr_f _ _ (show (18 : Int) ≠ 17 by decide), tr_f _ _ (show (19 : Int) ≠ 17 by decide), tr_f _ _ (show (20 : Int) ≠ 17 by decide)]
    refine x_aload_n (pc := 15) hC dX12_goesActs_15 rfl ?_
    refine x_iload_n (pc := 16) hC dX12_goesActs_16 rfl ?_
    refine x_callV1 (As := [_]) (Bs := [_]) (pc := 17) hC (s_turnGoes E hk hw (by first | omega | (simp only [tr_17, tr_tr, tr_f _ _ (show (18 : Int) ≠ 17 by decide), tr_f _ _ (show (19 : Int) ≠ 17 by decide), tr_f _ _ (show (20 : Int) ≠ 17 by decide), List.length_cons, List.length_nil, List.length_append]; omega)) (by first | omega | (simp only [tr_17, tr_tr, tr_f _ _ (show (18 : Int) ≠ 17 by decide), tr_f _ _ (show (19 : Int) ≠ 17 by decide), tr_f _ _ (show (20 : Int) ≠ 17 by decide), List.length_cons, List.length_nil, List.length_append]; omega))) wX12_267_12 pX12_turnGoes (by assumption) rfl rfl (by exact Nat.le_of_ble_eq_true rfl) hR (by decide) (by decide) (by decide) rfl dX12_goesActs_17 ?_
    try simp only [tr_tr, tr_f _ _ (show (18 : Int) ≠ 17 by decide), tr_f _ _ (show (19 : Int) ≠ 17 by decide), tr_f _ _ (show (20 : Int) ≠ 17 by decide)]
    refine x_aload_n (pc := 20) hC dX12_goesActs_20 rfl ?_
    refine x_geti (K := 20) (pc := 21) hC fX12_261_12 (by assumption) dX12_goesActs_21 rfl rfl ?_
    refine x_iadd (pc := 24) hC dX12_goesActs_24 ?_
    refine x_ireturn hC hZ dX12_goesActs_25 (by decide) (by decide) ?_
    refine ⟨congrArg (fun z => some (Value.int (iI z))) (by first | rfl | (rw [goesV, if_pos (by omega)] <;> (try simp only [tr_tr, tr_f _ _ (show (18 : Int) ≠ 17 by decide), tr_f _ _ (show (19 : Int) ≠ 17 by decide), tr_f _ _ (show (20 : Int) ≠ 17 by decide)]))), ?_, rfl, rfl⟩
    rw [goesT, if_pos (by omega)] <;> (first | rfl | (congr 1; simp))

set_option maxHeartbeats 4000000 in
set_option maxRecDepth 100000 in
theorem s_plainTells (E : xE) {σ : xM} {ρ : xR} {ks : xKs} (hk : MK ks) (hw : MW ρ) {x : Int} (hr : 0 ≤ σ 46 17 ∧ σ 46 17 ≤ 13) (hkd : 0 ≤ σ 46 18 ∧ σ 46 18 ≤ 6) : Sp E yX12_plainTells kX12_plainTells 7 0 0 [.ref 46, .int (iI x)] σ ρ ks (Fn (some (.int (iI (goesV (σ 46 18) (σ 46 19) (σ 46 20) x * 2)))) (tr σ ([3] ++ goesT (σ 46 18))) ρ ks) := by
  obtain ⟨k46, k47, k48, k49, k50, k51, k52, k53, k54⟩ := id hk
  obtain ⟨w1, w2, w3, w10, w11, w14, w15, w16⟩ := id hw
  have hb := blowsT_len (σ 46 18)
  have hg := goesT_len (σ 46 18)
  refine x_enter (own := RX12) (L := [_, _]) (by decide +kernel) rfl (by exact Nat.le_of_ble_eq_true rfl) rfl (fun p e R s m args below meth c Z hZ hC hR hin => ?_)
  refine x_aload_n (pc := 0) hC dX12_plainTells_0 rfl ?_
  refine x_iconst (pc := 1) hC dX12_plainTells_1 ?_
  refine x_callV0 (As := [_]) (Bs := [_]) (pc := 2) hC (s_ranBody E hk hw (by first | omega | (simp only [tr_17, tr_tr, tr_f _ _ (show (18 : Int) ≠ 17 by decide), tr_f _ _ (show (19 : Int) ≠ 17 by decide), tr_f _ _ (show (20 : Int) ≠ 17 by decide), List.length_cons, List.length_nil, List.length_append]; omega))) wX12_243_12 pX12_ranBody (by assumption) rfl rfl (by exact Nat.le_of_ble_eq_true rfl) hR (by decide) (by decide) (by decide) rfl dX12_plainTells_2 ?_
  try simp only [tr_tr, tr_f _ _ (show (18 : Int) ≠ 17 by decide), tr_f _ _ (show (19 : Int) ≠ 17 by decide), tr_f _ _ (show (20 : Int) ≠ 17 by decide)]
  refine x_aload_n (pc := 5) hC dX12_plainTells_5 rfl ?_
  refine x_iload_n (pc := 6) hC dX12_plainTells_6 rfl ?_
  refine x_callV1 (As := [_]) (Bs := [_]) (pc := 7) hC (s_goesActs E hk hw (by first | omega | (simp only [tr_17, tr_tr, tr_f _ _ (show (18 : Int) ≠ 17 by decide), tr_f _ _ (show (19 : Int) ≠ 17 by decide), tr_f _ _ (show (20 : Int) ≠ 17 by decide), List.length_cons, List.length_nil, List.length_append]; omega)) (by first | omega | (simp only [tr_17, tr_tr, tr_f _ _ (show (18 : Int) ≠ 17 by decide), tr_f _ _ (show (19 : Int) ≠ 17 by decide), tr_f _ _ (show (20 : Int) ≠ 17 by decide), List.length_cons, List.length_nil, List.length_append]; omega))) wX12_270_12 pX12_goesActs (by assumption) rfl rfl (by exact Nat.le_of_ble_eq_true rfl) hR (by decide) (by decide) (by decide) rfl dX12_plainTells_7 ?_
  try simp only [tr_tr, tr_f _ _ (show (18 : Int) ≠ 17 by decide), tr_f _ _ (show (19 : Int) ≠ 17 by decide), tr_f _ _ (show (20 : Int) ≠ 17 by decide)]
  refine x_iconst (pc := 10) hC dX12_plainTells_10 ?_
  refine x_imul (pc := 11) hC dX12_plainTells_11 ?_
  refine x_ireturn hC hZ dX12_plainTells_12 (by decide) (by decide) ?_
  refine ⟨congrArg (fun z => some (Value.int (iI z))) (by first | rfl | (rw [rfl] <;> (try simp only [tr_tr, tr_f _ _ (show (18 : Int) ≠ 17 by decide), tr_f _ _ (show (19 : Int) ≠ 17 by decide), tr_f _ _ (show (20 : Int) ≠ 17 by decide)]))), ?_, rfl, rfl⟩
  first | rfl | (congr 1; simp)

set_option maxHeartbeats 4000000 in
set_option maxRecDepth 100000 in
theorem s_tellsActs (E : xE) {σ : xM} {ρ : xR} {ks : xKs} (hk : MK ks) (hw : MW ρ) {x : Int} (hr : 0 ≤ σ 46 17 ∧ σ 46 17 ≤ 10) (hkd : 0 ≤ σ 46 18 ∧ σ 46 18 ≤ 6) : Sp E yX12_tellsActs kX12_tellsActs 8 0 0 [.ref 46, .int (iI x)] σ ρ ks (Fn (some (.int (iI (tellsV (σ 46 18) (σ 46 19) (σ 46 20) x)))) (tr σ (tellsT (σ 46 18))) ρ ks) := by
  obtain ⟨k46, k47, k48, k49, k50, k51, k52, k53, k54⟩ := id hk
  obtain ⟨w1, w2, w3, w10, w11, w14, w15, w16⟩ := id hw
  have hb := blowsT_len (σ 46 18)
  have hg := goesT_len (σ 46 18)
  refine x_enter (own := RX12) (L := [_, _, _]) (by decide +kernel) rfl (by exact Nat.le_of_ble_eq_true rfl) rfl (fun p e R s m args below meth c Z hZ hC hR hin => ?_)
  refine x_aload_n (pc := 0) hC dX12_tellsActs_0 rfl ?_
  refine x_geti (K := 18) (pc := 1) hC fX12_249_12 (by assumption) dX12_tellsActs_1 rfl rfl ?_
  refine x_iconst (pc := 4) hC dX12_tellsActs_4 ?_
  refine x_callS1 (As := [_, _]) (Bs := [_, _]) (pc := 5) hC (s_isUnder E (by omega) (by omega)) wX12_252 pX12_isUnder rfl rfl (by exact Nat.le_of_ble_eq_true rfl) hR (by decide) (by decide) (by decide) rfl dX12_tellsActs_5 ?_
  refine x_ifB_eq (tgt := 26) (pc := 8) hC  dX12_tellsActs_8 (by decide) (fun c8 => ?_) (fun c8 => ?_)
  · refine x_aload_n (pc := 26) hC dX12_tellsActs_26 rfl ?_
    refine x_geti (K := 18) (pc := 27) hC fX12_249_12 (by assumption) dX12_tellsActs_27 rfl rfl ?_
    refine x_iconst (pc := 30) hC dX12_tellsActs_30 ?_
    refine x_icmp_ne (tgt := 56) (pc := 31) hC (by first | omega | (simp only [tr_17, tr_tr, tr_f _ _ (show (18 : Int) ≠ 17 by decide), tr_f _ _ (show (19 : Int) ≠ 17 by decide), tr_f _ _ (show (20 : Int) ≠ 17 by decide), List.length_cons, List.length_nil, List.length_append]; omega)) (by first | omega | (simp only [tr_17, tr_tr, tr_f _ _ (show (18 : Int) ≠ 17 by decide), tr_f _ _ (show (19 : Int) ≠ 17 by decide), tr_f _ _ (show (20 : Int) ≠ 17 by decide), List.length_cons, List.length_nil, List.length_append]; omega)) dX12_tellsActs_31 (by decide) (fun c31 => ?_) (fun c31 => ?_)
    · refine x_aload_n (pc := 56) hC dX12_tellsActs_56 rfl ?_
      refine x_iload_n (pc := 57) hC dX12_tellsActs_57 rfl ?_
      refine x_callV1 (As := [_]) (Bs := [_]) (pc := 58) hC (s_plainTells E hk hw (by first | omega | (simp only [tr_17, tr_tr, tr_f _ _ (show (18 : Int) ≠ 17 by decide), tr_f _ _ (show (19 : Int) ≠ 17 by decide), tr_f _ _ (show (20 : Int) ≠ 17 by decide), List.length_cons, List.length_nil, List.length_append]; omega)) (by first | omega | (simp only [tr_17, tr_tr, tr_f _ _ (show (18 : Int) ≠ 17 by decide), tr_f _ _ (show (19 : Int) ≠ 17 by decide), tr_f _ _ (show (20 : Int) ≠ 17 by decide), List.length_cons, List.length_nil, List.length_append]; omega))) wX12_273_12 pX12_plainTells (by assumption) rfl rfl (by exact Nat.le_of_ble_eq_true rfl) hR (by decide) (by decide) (by decide) rfl dX12_tellsActs_58 ?_
      try simp only [tr_tr, tr_f _ _ (show (18 : Int) ≠ 17 by decide), tr_f _ _ (show (19 : Int) ≠ 17 by decide), tr_f _ _ (show (20 : Int) ≠ 17 by decide)]
      refine x_ireturn hC hZ dX12_tellsActs_61 (by decide) (by decide) ?_
      refine ⟨congrArg (fun z => some (Value.int (iI z))) (by first | rfl | (rw [tellsV, if_neg (by omega), if_neg (by omega)] <;> (try simp only [tr_tr, tr_f _ _ (show (18 : Int) ≠ 17 by decide), tr_f _ _ (show (19 : Int) ≠ 17 by decide), tr_f _ _ (show (20 : Int) ≠ 17 by decide)]))), ?_, rfl, rfl⟩
      rw [tellsT, if_neg (by omega), if_neg (by omega)] <;> (first | rfl | (congr 1; simp))
    · refine x_aload_n (pc := 34) hC dX12_tellsActs_34 rfl ?_
      refine x_bipush (pc := 35) hC dX12_tellsActs_35 (by decide +kernel) ?_
      refine x_callV0 (As := [_]) (Bs := [_]) (pc := 37) hC (s_ranBody E hk hw (by first | omega | (simp only [tr_17, tr_tr, tr_f _ _ (show (18 : Int) ≠ 17 by decide), tr_f _ _ (show (19 : Int) ≠ 17 by decide), tr_f _ _ (show (20 : Int) ≠ 17 by decide), List.length_cons, List.length_nil, List.length_append]; omega))) wX12_243_12 pX12_ranBody (by assumption) rfl rfl (by exact Nat.le_of_ble_eq_true rfl) hR (by decide) (by decide) (by decide) rfl dX12_tellsActs_37 ?_
      try simp only [tr_tr, tr_f _ _ (show (18 : Int) ≠ 17 by decide), tr_f _ _ (show (19 : Int) ≠ 17 by decide), tr_f _ _ (show (20 : Int) ≠ 17 by decide)]
      refine x_aload_n (pc := 40) hC dX12_tellsActs_40 rfl ?_
      refine x_iload_n (pc := 41) hC dX12_tellsActs_41 rfl ?_
      refine x_iconst (pc := 42) hC dX12_tellsActs_42 ?_
      refine x_isub (pc := 43) hC dX12_tellsActs_43 ?_
      refine x_callV1 (As := [_]) (Bs := [_]) (pc := 44) hC (s_plainTells E hk hw (by first | omega | (simp only [tr_17, tr_tr, tr_f _ _ (show (18 : Int) ≠ 17 by decide), tr_f _ _ (show (19 : Int) ≠ 17 by decide), tr_f _ _ (show (20 : Int) ≠ 17 by decide), List.length_cons, List.length_nil, List.length_append]; omega)) (by first | omega | (simp only [tr_17, tr_tr, tr_f _ _ (show (18 : Int) ≠ 17 by decide), tr_f _ _ (show (19 : Int) ≠ 17 by decide), tr_f _ _ (show (20 : Int) ≠ 17 by decide), List.length_cons, List.length_nil, List.length_append]; omega))) wX12_273_12 pX12_plainTells (by assumption) rfl rfl (by exact Nat.le_of_ble_eq_true rfl) hR (by decide) (by decide) (by decide) rfl dX12_tellsActs_44 ?_
      try simp only [tr_tr, tr_f _ _ (show (18 : Int) ≠ 17 by decide), tr_f _ _ (show (19 : Int) ≠ 17 by decide), tr_f _ _ (show (20 : Int) ≠ 17 by decide)]
      refine x_istore_n (L' := [_, _, _]) (pc := 47) hC dX12_tellsActs_47 rfl rfl ?_
      refine x_iload_n (pc := 48) hC dX12_tellsActs_48 rfl ?_
      refine x_aload_n (pc := 49) hC dX12_tellsActs_49 rfl ?_
      refine x_iconst (pc := 50) hC dX12_tellsActs_50 ?_
      refine x_callV1 (As := [_]) (Bs := [_]) (pc := 51) hC (s_blowsActs E hk hw (by first | omega | (simp only [tr_17, tr_tr, tr_f _ _ (show (18 : Int) ≠ 17 by decide), tr_f _ _ (show (19 : Int) ≠ 17 by decide), tr_f _ _ (show (20 : Int) ≠ 17 by decide), List.length_cons, List.length_nil, List.length_append]; omega)) (by first | omega | (simp only [tr_17, tr_tr, tr_f _ _ (show (18 : Int) ≠ 17 by decide), tr_f _ _ (show (19 : Int) ≠ 17 by decide), tr_f _ _ (show (20 : Int) ≠ 17 by decide), List.length_cons, List.length_nil, List.length_append]; omega))) wX12_258_12 pX12_blowsActs (by assumption) rfl rfl (by exact Nat.le_of_ble_eq_true rfl) hR (by decide) (by decide) (by decide) rfl dX12_tellsActs_51 ?_
      try simp only [tr_tr, tr_f _ _ (show (18 : Int) ≠ 17 by decide), tr_f _ _ (show (19 : Int) ≠ 17 by decide), tr_f _ _ (show (20 : Int) ≠ 17 by decide)]
      refine x_iadd (pc := 54) hC dX12_tellsActs_54 ?_
      refine x_ireturn hC hZ dX12_tellsActs_55 (by decide) (by decide) ?_
      refine ⟨congrArg (fun z => some (Value.int (iI z))) (by first | rfl | (rw [tellsV, if_neg (by omega), if_pos (by omega)] <;> (try simp only [tr_tr, tr_f _ _ (show (18 : Int) ≠ 17 by decide), tr_f _ _ (show (19 : Int) ≠ 17 by decide), tr_f _ _ (show (20 : Int) ≠ 17 by decide)]))), ?_, rfl, rfl⟩
      rw [tellsT, if_neg (by omega), if_pos (by omega)] <;> (first | rfl | (congr 1; simp))
  · refine x_aload_n (pc := 11) hC dX12_tellsActs_11 rfl ?_
    refine x_bipush (pc := 12) hC dX12_tellsActs_12 (by decide +kernel) ?_
    refine x_callV0 (As := [_]) (Bs := [_]) (pc := 14) hC (s_ranBody E hk hw (by first | omega | (simp only [tr_17, tr_tr, tr_f _ _ (show (18 : Int) ≠ 17 by decide), tr_f _ _ (show (19 : Int) ≠ 17 by decide), tr_f _ _ (show (20 : Int) ≠ 17 by decide), List.length_cons, List.length_nil, List.length_append]; omega))) wX12_243_12 pX12_ranBody (by assumption) rfl rfl (by exact Nat.le_of_ble_eq_true rfl) hR (by decide) (by decide) (by decide) rfl dX12_tellsActs_14 ?_
    try simp only [tr_tr, tr_f _ _ (show (18 : Int) ≠ 17 by decide), tr_f _ _ (show (19 : Int) ≠ 17 by decide), tr_f _ _ (show (20 : Int) ≠ 17 by decide)]
    refine x_aload_n (pc := 17) hC dX12_tellsActs_17 rfl ?_
    refine x_iload_n (pc := 18) hC dX12_tellsActs_18 rfl ?_
    refine x_callV1 (As := [_]) (Bs := [_]) (pc := 19) hC (s_plainTells E hk hw (by first | omega | (simp only [tr_17, tr_tr, tr_f _ _ (show (18 : Int) ≠ 17 by decide), tr_f _ _ (show (19 : Int) ≠ 17 by decide), tr_f _ _ (show (20 : Int) ≠ 17 by decide), List.length_cons, List.length_nil, List.length_append]; omega)) (by first | omega | (simp only [tr_17, tr_tr, tr_f _ _ (show (18 : Int) ≠ 17 by decide), tr_f _ _ (show (19 : Int) ≠ 17 by decide), tr_f _ _ (show (20 : Int) ≠ 17 by decide), List.length_cons, List.length_nil, List.length_append]; omega))) wX12_273_12 pX12_plainTells (by assumption) rfl rfl (by exact Nat.le_of_ble_eq_true rfl) hR (by decide) (by decide) (by decide) rfl dX12_tellsActs_19 ?_
    try simp only [tr_tr, tr_f _ _ (show (18 : Int) ≠ 17 by decide), tr_f _ _ (show (19 : Int) ≠ 17 by decide), tr_f _ _ (show (20 : Int) ≠ 17 by decide)]
    refine x_bipush (pc := 22) hC dX12_tellsActs_22 (by decide +kernel) ?_
    refine x_ixor (pc := 24) hC dX12_tellsActs_24 ?_
    refine x_ireturn hC hZ dX12_tellsActs_25 (by decide) (by decide) ?_
    refine ⟨congrArg (fun z => some (Value.int (iI z))) (by first | rfl | (rw [tellsV, if_pos (by omega)] <;> (try simp only [tr_tr, tr_f _ _ (show (18 : Int) ≠ 17 by decide), tr_f _ _ (show (19 : Int) ≠ 17 by decide), tr_f _ _ (show (20 : Int) ≠ 17 by decide)]))), ?_, rfl, rfl⟩
    rw [tellsT, if_pos (by omega)] <;> (first | rfl | (congr 1; simp))

def actV (z : zS) (f a x : Int) : Int := if ¬ ((0 ≤ f ∧ f ≤ z 13 - 1) ∧ 0 ≤ a ∧ a ≤ 2) then 0 else if a = 0 then blowsV (z (22 + f)) f x else if a = 1 then goesV (z (22 + f)) f (z (26 + f)) x else tellsV (z (22 + f)) f (z (26 + f)) x
def actT (z : zS) (f a : Int) : List Int := if ¬ ((0 ≤ f ∧ f ≤ z 13 - 1) ∧ 0 ≤ a ∧ a ≤ 2) then [] else if a = 0 then blowsT (z (22 + f)) else if a = 1 then goesT (z (22 + f)) else tellsT (z (22 + f))
set_option maxHeartbeats 4000000 in
set_option maxRecDepth 100000 in
theorem s_act (E : xE) {σ : xM} {ρ : xR} {ks : xKs} (hk : MK ks) (hw : MW ρ) {f a x : Int} (hf : rg f) (ha : rg a) (hfan : FansOk (σ 47)) : Sp E yX12_act kX12_act 9 0 0 [.ref 46, .int (iI f), .int (iI a), .int (iI x)] σ ρ ks (fun r σ' ρ' ks' => r = some (.int (iI (actV (σ 47) f a x))) ∧ ρ' = ρ ∧ ks' = ks ∧ (∀ q, q ≠ 46 → q ≠ 54 → σ' q = σ q) ∧ (∀ j, j ≠ 17 → j ≠ 18 → j ≠ 19 → j ≠ 20 → σ' 46 j = σ 46 j) ∧ σ' 54 = pushL (σ 54) 0 (actT (σ 47) f a) ∧ σ' 46 17 = (actT (σ 47) f a).length) := by
  obtain ⟨k46, k47, k48, k49, k50, k51, k52, k53, k54⟩ := id hk
  obtain ⟨w1, w2, w3, w10, w11, w14, w15, w16⟩ := id hw
  have hf13 := hfan.1
  refine x_enter (own := RX12) (L := [_, _, _, _]) (by decide +kernel) rfl (by exact Nat.le_of_ble_eq_true rfl) rfl (fun p e R s m args below meth c Z hZ hC hR hin => ?_)
  refine x_aload_n (pc := 0) hC dX12_act_0 rfl ?_
  refine x_iconst (pc := 1) hC dX12_act_1 ?_
  refine x_puti (K := 17) (pc := 2) hC rfl fX12_240_12 rfl (by assumption) dX12_act_2 rfl ?_
  have w47 : wr σ 46 17 0 47 = σ 47 := funext fun j => wr_p _ (by decide) _ _ _
  refine x_aload_n (pc := 5) hC dX12_act_5 rfl ?_
  refine x_iload_n (pc := 6) hC dX12_act_6 rfl ?_
  refine x_callV1 (As := [_]) (Bs := [_]) (pc := 7) hC (s_isFan E hk hw (by omega) (by rw [w47]; omega)) wX12_151_12 pX12_isFan (by assumption) rfl rfl (by exact Nat.le_of_ble_eq_true rfl) hR (by decide) (by decide) (by decide) rfl dX12_act_7 ?_
  rw [w47]
  refine x_ifB_eq (tgt := 22) (pc := 10) hC  dX12_act_10 (by decide) (fun c10 => ?_) (fun c10 => ?_)
  · refine x_iconst (pc := 22) hC dX12_act_22 ?_
    refine x_ireturn hC hZ dX12_act_23 (by decide) (by decide) ?_
    refine ⟨congrArg (fun z => some (Value.int (iI z))) (by rw [actV, if_pos (by omega)]), rfl, rfl, fun q h1 h2 => by funext j; exact wr_p _ h1 _ _ _, fun j h1 h2 h3 h4 => wr_k _ _ _ h1 _, ?_, ?_⟩
    · rw [actT, if_pos (by omega)]; funext j; exact wr_p _ (by decide) _ _ _
    · rw [actT, if_pos (by omega)]; exact wr_eq _ _ _ _
  · refine x_iload_n (pc := 13) hC dX12_act_13 rfl ?_
    refine x_iconst (pc := 14) hC dX12_act_14 ?_
    refine x_iconst (pc := 15) hC dX12_act_15 ?_
    refine x_callS1 (As := [_, _, _]) (Bs := [_, _, _]) (pc := 16) hC (s_in E (by omega) (by omega) (by omega)) wX12_41 pX12_in rfl rfl (by exact Nat.le_of_ble_eq_true rfl) hR (by decide) (by decide) (by decide) rfl dX12_act_16 ?_
    refine x_ifB_ne (tgt := 24) (pc := 19) hC  dX12_act_19 (by decide) (fun c19 => ?_) (fun c19 => ?_)
    · obtain ⟨g1, g2, -⟩ := hfan.2 f (by omega) (by omega)
      refine x_aload_n (pc := 24) hC dX12_act_24 rfl ?_
      refine x_aload_n (pc := 25) hC dX12_act_25 rfl ?_
      refine x_getr (K := 1) (pc := 26) hC fX12_9_12 (by assumption) dX12_act_26 rfl rfl (by assumption) ?_
      refine x_bipush (pc := 29) hC dX12_act_29 (by decide +kernel) ?_
      refine x_iload_n (pc := 31) hC dX12_act_31 rfl ?_
      refine x_iadd (pc := 32) hC dX12_act_32 ?_
      refine x_iald (pc := 33) hC (by assumption) (by omega) dX12_act_33 ?_
      refine x_puti (K := 18) (pc := 34) hC rfl fX12_249_12 rfl (by assumption) dX12_act_34 rfl ?_
      refine x_aload_n (pc := 37) hC dX12_act_37 rfl ?_
      refine x_iload_n (pc := 38) hC dX12_act_38 rfl ?_
      refine x_puti (K := 19) (pc := 39) hC rfl fX12_246_12 rfl (by assumption) dX12_act_39 rfl ?_
      refine x_aload_n (pc := 42) hC dX12_act_42 rfl ?_
      refine x_aload_n (pc := 43) hC dX12_act_43 rfl ?_
      refine x_getr (K := 1) (pc := 44) hC fX12_9_12 (by assumption) dX12_act_44 rfl rfl (by assumption) ?_
      refine x_bipush (pc := 47) hC dX12_act_47 (by decide +kernel) ?_
      refine x_iload_n (pc := 49) hC dX12_act_49 rfl ?_
      refine x_iadd (pc := 50) hC dX12_act_50 ?_
      refine x_iald (pc := 51) hC (by assumption) (by omega) dX12_act_51 ?_
      refine x_puti (K := 20) (pc := 52) hC rfl fX12_261_12 rfl (by assumption) dX12_act_52 rfl ?_
      refine X.gen (P := fun m => (∀ q, q ≠ 46 → m q = σ q) ∧ (∀ j, j ≠ 17 → j ≠ 18 → j ≠ 19 → j ≠ 20 → m 46 j = σ 46 j) ∧ m 46 17 = 0 ∧ m 46 18 = σ 47 (22 + f) ∧ m 46 19 = f ∧ m 46 20 = σ 47 (26 + f)) ⟨fun q h => by funext j; simp [wr, h], fun j h1 h2 h3 h4 => by simp [wr, h1, h2, h3, h4], by simp [wr], by simp [wr], by simp [wr], by simp [wr]⟩ (fun m hm => ?_)
      obtain ⟨m1, m2, m3, m4, m5, m6⟩ := hm
      refine x_iload_n (pc := 55) hC dX12_act_55 rfl ?_
      refine x_if_ne (tgt := 67) (pc := 56) hC (by omega) dX12_act_56 (by decide) (fun c56 => ?_) (fun c56 => ?_)
      · refine x_iload_n (pc := 67) hC dX12_act_67 rfl ?_
        refine x_iconst (pc := 68) hC dX12_act_68 ?_
        refine x_icmp_ne (tgt := 80) (pc := 69) hC (by omega) (by omega) dX12_act_69 (by decide) (fun c69 => ?_) (fun c69 => ?_)
        · refine x_aload_n (pc := 80) hC dX12_act_80 rfl ?_
          refine x_iload_n (pc := 81) hC dX12_act_81 rfl ?_
          refine x_callV1 (As := [_]) (Bs := [_]) (pc := 82) hC (s_tellsActs E hk hw (by omega) (by omega)) wX12_276_12 pX12_tellsActs (by assumption) rfl rfl (by exact Nat.le_of_ble_eq_true rfl) hR (by decide) (by decide) (by decide) rfl dX12_act_82 ?_
          refine x_ireturn hC hZ dX12_act_85 (by decide) (by decide) ?_
          refine ⟨?_, rfl, rfl, fun q h1 h2 => by rw [tr_q _ _ h1 h2]; exact m1 q h1, fun j h1 h2 h3 h4 => by rw [tr_f _ _ h1]; exact m2 j h1 h2 h3 h4, ?_, ?_⟩
          · rw [m4, m5, actV, if_neg (by omega), if_neg (by omega), if_neg (by omega)] <;> rw [m6]
          · rw [tr_54, m1 54 (by decide), m3, actT, if_neg (by omega), if_neg (by omega), if_neg (by omega), m4]
          · rw [tr_17, m3, actT, if_neg (by omega), if_neg (by omega), if_neg (by omega), m4, Int.zero_add]
        · refine x_aload_n (pc := 72) hC dX12_act_72 rfl ?_
          refine x_iload_n (pc := 73) hC dX12_act_73 rfl ?_
          refine x_callV1 (As := [_]) (Bs := [_]) (pc := 74) hC (s_goesActs E hk hw (by omega) (by omega)) wX12_270_12 pX12_goesActs (by assumption) rfl rfl (by exact Nat.le_of_ble_eq_true rfl) hR (by decide) (by decide) (by decide) rfl dX12_act_74 ?_
          refine x_goto (tgt := 85) (pc := 77) hC dX12_act_77 (by decide) ?_
          refine x_ireturn hC hZ dX12_act_85 (by decide) (by decide) ?_
          refine ⟨?_, rfl, rfl, fun q h1 h2 => by rw [tr_q _ _ h1 h2]; exact m1 q h1, fun j h1 h2 h3 h4 => by rw [tr_f _ _ h1]; exact m2 j h1 h2 h3 h4, ?_, ?_⟩
          · rw [m4, m5, actV, if_neg (by omega), if_neg (by omega), if_pos (by omega)] <;> rw [m6]
          · rw [tr_54, m1 54 (by decide), m3, actT, if_neg (by omega), if_neg (by omega), if_pos (by omega), m4]
          · rw [tr_17, m3, actT, if_neg (by omega), if_neg (by omega), if_pos (by omega), m4, Int.zero_add]
      · refine x_aload_n (pc := 59) hC dX12_act_59 rfl ?_
        refine x_iload_n (pc := 60) hC dX12_act_60 rfl ?_
        refine x_callV1 (As := [_]) (Bs := [_]) (pc := 61) hC (s_blowsActs E hk hw (by omega) (by omega)) wX12_258_12 pX12_blowsActs (by assumption) rfl rfl (by exact Nat.le_of_ble_eq_true rfl) hR (by decide) (by decide) (by decide) rfl dX12_act_61 ?_
        refine x_goto (tgt := 85) (pc := 64) hC dX12_act_64 (by decide) ?_
        refine x_ireturn hC hZ dX12_act_85 (by decide) (by decide) ?_
        refine ⟨?_, rfl, rfl, fun q h1 h2 => by rw [tr_q _ _ h1 h2]; exact m1 q h1, fun j h1 h2 h3 h4 => by rw [tr_f _ _ h1]; exact m2 j h1 h2 h3 h4, ?_, ?_⟩
        · rw [m4, m5, actV, if_neg (by omega), if_pos (by omega)] <;> rw [m6]
        · rw [tr_54, m1 54 (by decide), m3, actT, if_neg (by omega), if_pos (by omega), m4]
        · rw [tr_17, m3, actT, if_neg (by omega), if_pos (by omega), m4, Int.zero_add]
    · refine x_iconst (pc := 22) hC dX12_act_22 ?_
      refine x_ireturn hC hZ dX12_act_23 (by decide) (by decide) ?_
      refine ⟨congrArg (fun z => some (Value.int (iI z))) (by rw [actV, if_pos (by omega)]), rfl, rfl, fun q h1 h2 => by funext j; exact wr_p _ h1 _ _ _, fun j h1 h2 h3 h4 => wr_k _ _ _ h1 _, ?_, ?_⟩
      · rw [actT, if_pos (by omega)]; funext j; exact wr_p _ (by decide) _ _ _
      · rw [actT, if_pos (by omega)]; exact wr_eq _ _ _ _
