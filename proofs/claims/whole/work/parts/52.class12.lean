set_option maxHeartbeats 4000000 in
set_option maxRecDepth 100000 in
theorem c_tells0_0 (E : xE) {σ : xM} {ρ : xR} {ks : xKs} (htk : TK ks ρ) {q : Nat} {f : Int} {z : zS} (hfz : FZ σ q f z) (hfo : FanOk z f) (hff : 0 ≤ f ∧ f < 4) (hq : ks[q]? = some (0, 0)) (hr : 0 ≤ σ 44 1 ∧ σ 44 1 ≤ 14) {x : Int} : Sp E yX0_tells kX0_tells 6 0 0 [.ref q, .int (iI x), .ref 44] σ ρ ks (Fn (some (.int (iI ((x + f - z (26 + f)) * 2)))) (tc σ ([3] ++ ([2] ++ ([1])))) ρ ks) := by
  refine x_enter (own := RX0) (L := [_, _, _]) (by decide +kernel) rfl (by exact Nat.le_of_ble_eq_true rfl) rfl (fun p e R s m args below meth c Z hZ hC hR hin => ?_)
  obtain ⟨t1, t2, t3⟩ := id htk
  have hn1 : q ≠ 44 := by rintro rfl; rw [t1] at hq; simp at hq
  have hn2 : q ≠ 45 := by rintro rfl; rw [t2] at hq; simp at hq
  obtain ⟨a0, a1, a2, a3, a4, a5, a6⟩ := id hfz
  obtain ⟨b1, b2, b3, b4, b5, b6⟩ := id hfo
  refine x_aload_n (pc := 0) hC dX0_tells_0 rfl ?_
  refine x_iconst (pc := 1) hC dX0_tells_1 ?_
  refine x_callV0 (As := [_]) (Bs := [_]) (pc := 2) hC (c_began E htk (by omega)) wX0_36_8 pX8_began (by assumption) rfl rfl (by exact Nat.le_of_ble_eq_true rfl) hR (by decide) (by decide) (by decide) rfl dX0_tells_2 ?_
  refine x_aload_n (pc := 5) hC dX0_tells_5 rfl ?_
  refine x_iload_n (pc := 6) hC dX0_tells_6 rfl ?_
  refine x_aload_n (pc := 7) hC dX0_tells_7 rfl ?_
  refine x_callV1 (As := [_, _]) (Bs := [_, _]) (pc := 8) hC (c_goes0_0 E htk (hfz.tc hn1 hn2 _) hfo hff hq (by rw [tc_a]; simp; omega)) wX0_46_0 pX0_goes (by assumption) rfl rfl (by exact Nat.le_of_ble_eq_true rfl) hR (by decide) (by decide) (by decide) rfl dX0_tells_8 ?_
  refine x_iconst (pc := 11) hC dX0_tells_11 ?_
  refine x_imul (pc := 12) hC dX0_tells_12 ?_
  refine x_ireturn hC hZ dX0_tells_13 (by decide) (by decide) ?_
  refine ⟨rfl, ?_, rfl, rfl⟩
  rw [tc_tc]

set_option maxHeartbeats 4000000 in
set_option maxRecDepth 100000 in
theorem c_tells0_3 (E : xE) {σ : xM} {ρ : xR} {ks : xKs} (htk : TK ks ρ) {q : Nat} {f : Int} {z : zS} (hfz : FZ σ q f z) (hfo : FanOk z f) (hff : 0 ≤ f ∧ f < 4) (hq : ks[q]? = some (0, 3)) (hr : 0 ≤ σ 44 1 ∧ σ 44 1 ≤ 14) {x : Int} : Sp E yX0_tells kX0_tells 6 0 0 [.ref q, .int (iI x), .ref 44] σ ρ ks (Fn (some (.int (iI ((x + f - z (26 + f)) * 2)))) (tc σ ([3] ++ ([2] ++ ([1])))) ρ ks) := by
  refine x_enter (own := RX0) (L := [_, _, _]) (by decide +kernel) rfl (by exact Nat.le_of_ble_eq_true rfl) rfl (fun p e R s m args below meth c Z hZ hC hR hin => ?_)
  obtain ⟨t1, t2, t3⟩ := id htk
  have hn1 : q ≠ 44 := by rintro rfl; rw [t1] at hq; simp at hq
  have hn2 : q ≠ 45 := by rintro rfl; rw [t2] at hq; simp at hq
  obtain ⟨a0, a1, a2, a3, a4, a5, a6⟩ := id hfz
  obtain ⟨b1, b2, b3, b4, b5, b6⟩ := id hfo
  refine x_aload_n (pc := 0) hC dX0_tells_0 rfl ?_
  refine x_iconst (pc := 1) hC dX0_tells_1 ?_
  refine x_callV0 (As := [_]) (Bs := [_]) (pc := 2) hC (c_began E htk (by omega)) wX0_36_8 pX8_began (by assumption) rfl rfl (by exact Nat.le_of_ble_eq_true rfl) hR (by decide) (by decide) (by decide) rfl dX0_tells_2 ?_
  refine x_aload_n (pc := 5) hC dX0_tells_5 rfl ?_
  refine x_iload_n (pc := 6) hC dX0_tells_6 rfl ?_
  refine x_aload_n (pc := 7) hC dX0_tells_7 rfl ?_
  refine x_callU1 (As := [_, _]) (Bs := [_, _]) (pc := 8) hC (c_goes0_3 E htk (hfz.tc hn1 hn2 _) hfo hff hq (by rw [tc_a]; simp; omega)) wX0_46_3 pX0_46_3 (by assumption) rfl rfl (by exact Nat.le_of_ble_eq_true rfl) hR (by decide) (by decide) (by decide) rfl dX0_tells_8 ?_
  refine x_iconst (pc := 11) hC dX0_tells_11 ?_
  refine x_imul (pc := 12) hC dX0_tells_12 ?_
  refine x_ireturn hC hZ dX0_tells_13 (by decide) (by decide) ?_
  refine ⟨rfl, ?_, rfl, rfl⟩
  rw [tc_tc]

set_option maxHeartbeats 4000000 in
set_option maxRecDepth 100000 in
theorem c_tells0_6 (E : xE) {σ : xM} {ρ : xR} {ks : xKs} (htk : TK ks ρ) {q : Nat} {f : Int} {z : zS} (hfz : FZ σ q f z) (hfo : FanOk z f) (hff : 0 ≤ f ∧ f < 4) (hq : ks[q]? = some (0, 6)) (hr : 0 ≤ σ 44 1 ∧ σ 44 1 ≤ 14) {x : Int} : Sp E yX0_tells kX0_tells 6 0 0 [.ref q, .int (iI x), .ref 44] σ ρ ks (Fn (some (.int (iI ((x * 3 + f - z (26 + f)) * 2)))) (tc σ ([3] ++ ([2] ++ ([11] ++ [1])))) ρ ks) := by
  refine x_enter (own := RX0) (L := [_, _, _]) (by decide +kernel) rfl (by exact Nat.le_of_ble_eq_true rfl) rfl (fun p e R s m args below meth c Z hZ hC hR hin => ?_)
  obtain ⟨t1, t2, t3⟩ := id htk
  have hn1 : q ≠ 44 := by rintro rfl; rw [t1] at hq; simp at hq
  have hn2 : q ≠ 45 := by rintro rfl; rw [t2] at hq; simp at hq
  obtain ⟨a0, a1, a2, a3, a4, a5, a6⟩ := id hfz
  obtain ⟨b1, b2, b3, b4, b5, b6⟩ := id hfo
  refine x_aload_n (pc := 0) hC dX0_tells_0 rfl ?_
  refine x_iconst (pc := 1) hC dX0_tells_1 ?_
  refine x_callV0 (As := [_]) (Bs := [_]) (pc := 2) hC (c_began E htk (by omega)) wX0_36_8 pX8_began (by assumption) rfl rfl (by exact Nat.le_of_ble_eq_true rfl) hR (by decide) (by decide) (by decide) rfl dX0_tells_2 ?_
  refine x_aload_n (pc := 5) hC dX0_tells_5 rfl ?_
  refine x_iload_n (pc := 6) hC dX0_tells_6 rfl ?_
  refine x_aload_n (pc := 7) hC dX0_tells_7 rfl ?_
  refine x_callU1 (As := [_, _]) (Bs := [_, _]) (pc := 8) hC (c_goes0_6 E htk (hfz.tc hn1 hn2 _) hfo hff hq (by rw [tc_a]; simp; omega)) wX0_46_6 pX0_46_6 (by assumption) rfl rfl (by exact Nat.le_of_ble_eq_true rfl) hR (by decide) (by decide) (by decide) rfl dX0_tells_8 ?_
  refine x_iconst (pc := 11) hC dX0_tells_11 ?_
  refine x_imul (pc := 12) hC dX0_tells_12 ?_
  refine x_ireturn hC hZ dX0_tells_13 (by decide) (by decide) ?_
  refine ⟨rfl, ?_, rfl, rfl⟩
  rw [tc_tc]

set_option maxHeartbeats 4000000 in
set_option maxRecDepth 100000 in
theorem c_tells0_7 (E : xE) {σ : xM} {ρ : xR} {ks : xKs} (htk : TK ks ρ) {q : Nat} {f : Int} {z : zS} (hfz : FZ σ q f z) (hfo : FanOk z f) (hff : 0 ≤ f ∧ f < 4) (hq : ks[q]? = some (0, 7)) (hr : 0 ≤ σ 44 1 ∧ σ 44 1 ≤ 14) {x : Int} : Sp E yX0_tells kX0_tells 6 0 0 [.ref q, .int (iI x), .ref 44] σ ρ ks (Fn (some (.int (iI ((-(x + f - z (26 + f)) + z (26 + f)) * 2)))) (tc σ ([3] ++ ([61] ++ ([21] ++ ([2] ++ [1]))))) ρ ks) := by
  refine x_enter (own := RX0) (L := [_, _, _]) (by decide +kernel) rfl (by exact Nat.le_of_ble_eq_true rfl) rfl (fun p e R s m args below meth c Z hZ hC hR hin => ?_)
  obtain ⟨t1, t2, t3⟩ := id htk
  have hn1 : q ≠ 44 := by rintro rfl; rw [t1] at hq; simp at hq
  have hn2 : q ≠ 45 := by rintro rfl; rw [t2] at hq; simp at hq
  obtain ⟨a0, a1, a2, a3, a4, a5, a6⟩ := id hfz
  obtain ⟨b1, b2, b3, b4, b5, b6⟩ := id hfo
  refine x_aload_n (pc := 0) hC dX0_tells_0 rfl ?_
  refine x_iconst (pc := 1) hC dX0_tells_1 ?_
  refine x_callV0 (As := [_]) (Bs := [_]) (pc := 2) hC (c_began E htk (by omega)) wX0_36_8 pX8_began (by assumption) rfl rfl (by exact Nat.le_of_ble_eq_true rfl) hR (by decide) (by decide) (by decide) rfl dX0_tells_2 ?_
  refine x_aload_n (pc := 5) hC dX0_tells_5 rfl ?_
  refine x_iload_n (pc := 6) hC dX0_tells_6 rfl ?_
  refine x_aload_n (pc := 7) hC dX0_tells_7 rfl ?_
  refine x_callU1 (As := [_, _]) (Bs := [_, _]) (pc := 8) hC (c_goes7_7 E htk (hfz.tc hn1 hn2 _) hfo hff hq (by rw [tc_a]; simp; omega)) wX0_46_7 pX0_46_7 (by assumption) rfl rfl (by exact Nat.le_of_ble_eq_true rfl) hR (by decide) (by decide) (by decide) rfl dX0_tells_8 ?_
  refine x_iconst (pc := 11) hC dX0_tells_11 ?_
  refine x_imul (pc := 12) hC dX0_tells_12 ?_
  refine x_ireturn hC hZ dX0_tells_13 (by decide) (by decide) ?_
  refine ⟨rfl, ?_, rfl, rfl⟩
  rw [tc_tc]

set_option maxHeartbeats 4000000 in
set_option maxRecDepth 100000 in
theorem c_tells0_9 (E : xE) {σ : xM} {ρ : xR} {ks : xKs} (htk : TK ks ρ) {q : Nat} {f : Int} {z : zS} (hfz : FZ σ q f z) (hfo : FanOk z f) (hff : 0 ≤ f ∧ f < 4) (hq : ks[q]? = some (0, 9)) (hr : 0 ≤ σ 44 1 ∧ σ 44 1 ≤ 14) {x : Int} : Sp E yX0_tells kX0_tells 6 0 0 [.ref q, .int (iI x), .ref 44] σ ρ ks (Fn (some (.int (iI ((-(x + f - z (26 + f))) * 2)))) (tc σ ([3] ++ ([21] ++ ([2] ++ [1])))) ρ ks) := by
  refine x_enter (own := RX0) (L := [_, _, _]) (by decide +kernel) rfl (by exact Nat.le_of_ble_eq_true rfl) rfl (fun p e R s m args below meth c Z hZ hC hR hin => ?_)
  obtain ⟨t1, t2, t3⟩ := id htk
  have hn1 : q ≠ 44 := by rintro rfl; rw [t1] at hq; simp at hq
  have hn2 : q ≠ 45 := by rintro rfl; rw [t2] at hq; simp at hq
  obtain ⟨a0, a1, a2, a3, a4, a5, a6⟩ := id hfz
  obtain ⟨b1, b2, b3, b4, b5, b6⟩ := id hfo
  refine x_aload_n (pc := 0) hC dX0_tells_0 rfl ?_
  refine x_iconst (pc := 1) hC dX0_tells_1 ?_
  refine x_callV0 (As := [_]) (Bs := [_]) (pc := 2) hC (c_began E htk (by omega)) wX0_36_8 pX8_began (by assumption) rfl rfl (by exact Nat.le_of_ble_eq_true rfl) hR (by decide) (by decide) (by decide) rfl dX0_tells_2 ?_
  refine x_aload_n (pc := 5) hC dX0_tells_5 rfl ?_
  refine x_iload_n (pc := 6) hC dX0_tells_6 rfl ?_
  refine x_aload_n (pc := 7) hC dX0_tells_7 rfl ?_
  refine x_callU1 (As := [_, _]) (Bs := [_, _]) (pc := 8) hC (c_goes9_9 E htk (hfz.tc hn1 hn2 _) hfo hff hq (by rw [tc_a]; simp; omega)) wX0_46_9 pX0_46_9 (by assumption) rfl rfl (by exact Nat.le_of_ble_eq_true rfl) hR (by decide) (by decide) (by decide) rfl dX0_tells_8 ?_
  refine x_iconst (pc := 11) hC dX0_tells_11 ?_
  refine x_imul (pc := 12) hC dX0_tells_12 ?_
  refine x_ireturn hC hZ dX0_tells_13 (by decide) (by decide) ?_
  refine ⟨rfl, ?_, rfl, rfl⟩
  rw [tc_tc]

set_option maxHeartbeats 4000000 in
set_option maxRecDepth 100000 in
theorem c_tells0_10 (E : xE) {σ : xM} {ρ : xR} {ks : xKs} (htk : TK ks ρ) {q : Nat} {f : Int} {z : zS} (hfz : FZ σ q f z) (hfo : FanOk z f) (hff : 0 ≤ f ∧ f < 4) (hq : ks[q]? = some (0, 10)) (hr : 0 ≤ σ 44 1 ∧ σ 44 1 ≤ 14) {x : Int} : Sp E yX0_tells kX0_tells 6 0 0 [.ref q, .int (iI x), .ref 44] σ ρ ks (Fn (some (.int (iI ((x * 3 + f - z (26 + f)) * 2)))) (tc σ ([3] ++ ([2] ++ ([11] ++ [1])))) ρ ks) := by
  refine x_enter (own := RX0) (L := [_, _, _]) (by decide +kernel) rfl (by exact Nat.le_of_ble_eq_true rfl) rfl (fun p e R s m args below meth c Z hZ hC hR hin => ?_)
  obtain ⟨t1, t2, t3⟩ := id htk
  have hn1 : q ≠ 44 := by rintro rfl; rw [t1] at hq; simp at hq
  have hn2 : q ≠ 45 := by rintro rfl; rw [t2] at hq; simp at hq
  obtain ⟨a0, a1, a2, a3, a4, a5, a6⟩ := id hfz
  obtain ⟨b1, b2, b3, b4, b5, b6⟩ := id hfo
  refine x_aload_n (pc := 0) hC dX0_tells_0 rfl ?_
  refine x_iconst (pc := 1) hC dX0_tells_1 ?_
  refine x_callV0 (As := [_]) (Bs := [_]) (pc := 2) hC (c_began E htk (by omega)) wX0_36_8 pX8_began (by assumption) rfl rfl (by exact Nat.le_of_ble_eq_true rfl) hR (by decide) (by decide) (by decide) rfl dX0_tells_2 ?_
  refine x_aload_n (pc := 5) hC dX0_tells_5 rfl ?_
  refine x_iload_n (pc := 6) hC dX0_tells_6 rfl ?_
  refine x_aload_n (pc := 7) hC dX0_tells_7 rfl ?_
  refine x_callU1 (As := [_, _]) (Bs := [_, _]) (pc := 8) hC (c_goes0_10 E htk (hfz.tc hn1 hn2 _) hfo hff hq (by rw [tc_a]; simp; omega)) wX0_46_10 pX0_46_10 (by assumption) rfl rfl (by exact Nat.le_of_ble_eq_true rfl) hR (by decide) (by decide) (by decide) rfl dX0_tells_8 ?_
  refine x_iconst (pc := 11) hC dX0_tells_11 ?_
  refine x_imul (pc := 12) hC dX0_tells_12 ?_
  refine x_ireturn hC hZ dX0_tells_13 (by decide) (by decide) ?_
  refine ⟨rfl, ?_, rfl, rfl⟩
  rw [tc_tc]

set_option maxHeartbeats 4000000 in
set_option maxRecDepth 100000 in
theorem c_tells3_3 (E : xE) {σ : xM} {ρ : xR} {ks : xKs} (htk : TK ks ρ) {q : Nat} {f : Int} {z : zS} (hfz : FZ σ q f z) (hfo : FanOk z f) (hff : 0 ≤ f ∧ f < 4) (hq : ks[q]? = some (0, 3)) (hr : 0 ≤ σ 44 1 ∧ σ 44 1 ≤ 13) {x : Int} : Sp E yX3_tells kX3_tells 7 0 0 [.ref q, .int (iI x), .ref 44] σ ρ ks (Fn (some (.int (iI (bXor ((x + f - z (26 + f)) * 2) 7)))) (tc σ ([31] ++ ([3] ++ ([2] ++ [1])))) ρ ks) := by
  refine x_enter (own := RX3) (L := [_, _, _]) (by decide +kernel) rfl (by exact Nat.le_of_ble_eq_true rfl) rfl (fun p e R s m args below meth c Z hZ hC hR hin => ?_)
  obtain ⟨t1, t2, t3⟩ := id htk
  have hn1 : q ≠ 44 := by rintro rfl; rw [t1] at hq; simp at hq
  have hn2 : q ≠ 45 := by rintro rfl; rw [t2] at hq; simp at hq
  obtain ⟨a0, a1, a2, a3, a4, a5, a6⟩ := id hfz
  obtain ⟨b1, b2, b3, b4, b5, b6⟩ := id hfo
  refine x_aload_n (pc := 0) hC dX3_tells_0 rfl ?_
  refine x_bipush (pc := 1) hC dX3_tells_1 (by decide +kernel) ?_
  refine x_callV0 (As := [_]) (Bs := [_]) (pc := 3) hC (c_began E htk (by omega)) wX3_17_8 pX8_began (by assumption) rfl rfl (by exact Nat.le_of_ble_eq_true rfl) hR (by decide) (by decide) (by decide) rfl dX3_tells_3 ?_
  refine x_aload_n (pc := 6) hC dX3_tells_6 rfl ?_
  refine x_iload_n (pc := 7) hC dX3_tells_7 rfl ?_
  refine x_aload_n (pc := 8) hC dX3_tells_8 rfl ?_
  refine x_callSU1 (As := [_, _]) (Bs := [_, _]) (pc := 9) hC (c_tells0_3 E htk (hfz.tc hn1 hn2 _) hfo hff hq (by rw [tc_a]; simp; omega)) wX3_23 pX3_23 (by assumption) rfl rfl (by exact Nat.le_of_ble_eq_true rfl) hR (by decide) (by decide) (by decide) rfl dX3_tells_9 ?_
  refine x_bipush (pc := 12) hC dX3_tells_12 (by decide +kernel) ?_
  refine x_ixor (pc := 14) hC dX3_tells_14 ?_
  refine x_ireturn hC hZ dX3_tells_15 (by decide) (by decide) ?_
  refine ⟨rfl, ?_, rfl, rfl⟩
  rw [tc_tc]
