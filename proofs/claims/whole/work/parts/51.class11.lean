set_option maxHeartbeats 4000000 in
set_option maxRecDepth 100000 in
theorem c_goes0_0 (E : xE) {σ : xM} {ρ : xR} {ks : xKs} (htk : TK ks ρ) {q : Nat} {f : Int} {z : zS} (hfz : FZ σ q f z) (hfo : FanOk z f) (hff : 0 ≤ f ∧ f < 4) (hq : ks[q]? = some (0, 0)) (hr : 0 ≤ σ 44 1 ∧ σ 44 1 ≤ 17) {x : Int} : Sp E yX0_goes kX0_goes 3 0 0 [.ref q, .int (iI x), .ref 44] σ ρ ks (Fn (some (.int (iI (x + f - z (26 + f))))) (tc σ ([2] ++ ([1]))) ρ ks) := by
  refine x_enter (own := RX0) (L := [_, _, _]) (by decide +kernel) rfl (by exact Nat.le_of_ble_eq_true rfl) rfl (fun p e R s m args below meth c Z hZ hC hR hin => ?_)
  obtain ⟨t1, t2, t3⟩ := id htk
  have hn1 : q ≠ 44 := by rintro rfl; rw [t1] at hq; simp at hq
  have hn2 : q ≠ 45 := by rintro rfl; rw [t2] at hq; simp at hq
  obtain ⟨a0, a1, a2, a3, a4, a5, a6⟩ := id hfz
  obtain ⟨b1, b2, b3, b4, b5, b6⟩ := id hfo
  refine x_aload_n (pc := 0) hC dX0_goes_0 rfl ?_
  refine x_iconst (pc := 1) hC dX0_goes_1 ?_
  refine x_callV0 (As := [_]) (Bs := [_]) (pc := 2) hC (c_began E htk (by omega)) wX0_36_8 pX8_began (by assumption) rfl rfl (by exact Nat.le_of_ble_eq_true rfl) hR (by decide) (by decide) (by decide) rfl dX0_goes_2 ?_
  refine x_aload_n (pc := 5) hC dX0_goes_5 rfl ?_
  refine x_iload_n (pc := 6) hC dX0_goes_6 rfl ?_
  refine x_aload_n (pc := 7) hC dX0_goes_7 rfl ?_
  refine x_callV1 (As := [_, _]) (Bs := [_, _]) (pc := 8) hC (c_blows0_0 E htk (hfz.tc hn1 hn2 _) hfo hff hq (by rw [tc_a]; simp; omega)) wX0_42_0 pX0_blows (by assumption) rfl rfl (by exact Nat.le_of_ble_eq_true rfl) hR (by decide) (by decide) (by decide) rfl dX0_goes_8 ?_
  refine x_aload_n (pc := 11) hC dX0_goes_11 rfl ?_
  refine x_geti (K := 2) (pc := 12) hC fX0_20_0 (by assumption) dX0_goes_12 rfl rfl ?_
  rw [tc_q _ _ hn1 hn2, tc_q _ _ hn1 hn2, a2]
  refine x_isub (pc := 15) hC dX0_goes_15 ?_
  refine x_ireturn hC hZ dX0_goes_16 (by decide) (by decide) ?_
  refine ⟨rfl, ?_, rfl, rfl⟩
  rw [tc_tc]

set_option maxHeartbeats 4000000 in
set_option maxRecDepth 100000 in
theorem c_goes0_3 (E : xE) {σ : xM} {ρ : xR} {ks : xKs} (htk : TK ks ρ) {q : Nat} {f : Int} {z : zS} (hfz : FZ σ q f z) (hfo : FanOk z f) (hff : 0 ≤ f ∧ f < 4) (hq : ks[q]? = some (0, 3)) (hr : 0 ≤ σ 44 1 ∧ σ 44 1 ≤ 17) {x : Int} : Sp E yX0_goes kX0_goes 3 0 0 [.ref q, .int (iI x), .ref 44] σ ρ ks (Fn (some (.int (iI (x + f - z (26 + f))))) (tc σ ([2] ++ ([1]))) ρ ks) := by
  refine x_enter (own := RX0) (L := [_, _, _]) (by decide +kernel) rfl (by exact Nat.le_of_ble_eq_true rfl) rfl (fun p e R s m args below meth c Z hZ hC hR hin => ?_)
  obtain ⟨t1, t2, t3⟩ := id htk
  have hn1 : q ≠ 44 := by rintro rfl; rw [t1] at hq; simp at hq
  have hn2 : q ≠ 45 := by rintro rfl; rw [t2] at hq; simp at hq
  obtain ⟨a0, a1, a2, a3, a4, a5, a6⟩ := id hfz
  obtain ⟨b1, b2, b3, b4, b5, b6⟩ := id hfo
  refine x_aload_n (pc := 0) hC dX0_goes_0 rfl ?_
  refine x_iconst (pc := 1) hC dX0_goes_1 ?_
  refine x_callV0 (As := [_]) (Bs := [_]) (pc := 2) hC (c_began E htk (by omega)) wX0_36_8 pX8_began (by assumption) rfl rfl (by exact Nat.le_of_ble_eq_true rfl) hR (by decide) (by decide) (by decide) rfl dX0_goes_2 ?_
  refine x_aload_n (pc := 5) hC dX0_goes_5 rfl ?_
  refine x_iload_n (pc := 6) hC dX0_goes_6 rfl ?_
  refine x_aload_n (pc := 7) hC dX0_goes_7 rfl ?_
  refine x_callU1 (As := [_, _]) (Bs := [_, _]) (pc := 8) hC (c_blows0_3 E htk (hfz.tc hn1 hn2 _) hfo hff hq (by rw [tc_a]; simp; omega)) wX0_42_3 pX0_42_3 (by assumption) rfl rfl (by exact Nat.le_of_ble_eq_true rfl) hR (by decide) (by decide) (by decide) rfl dX0_goes_8 ?_
  refine x_aload_n (pc := 11) hC dX0_goes_11 rfl ?_
  refine x_geti (K := 2) (pc := 12) hC fX0_20_3 (by assumption) dX0_goes_12 rfl rfl ?_
  rw [tc_q _ _ hn1 hn2, tc_q _ _ hn1 hn2, a2]
  refine x_isub (pc := 15) hC dX0_goes_15 ?_
  refine x_ireturn hC hZ dX0_goes_16 (by decide) (by decide) ?_
  refine ⟨rfl, ?_, rfl, rfl⟩
  rw [tc_tc]

set_option maxHeartbeats 4000000 in
set_option maxRecDepth 100000 in
theorem c_goes0_6 (E : xE) {σ : xM} {ρ : xR} {ks : xKs} (htk : TK ks ρ) {q : Nat} {f : Int} {z : zS} (hfz : FZ σ q f z) (hfo : FanOk z f) (hff : 0 ≤ f ∧ f < 4) (hq : ks[q]? = some (0, 6)) (hr : 0 ≤ σ 44 1 ∧ σ 44 1 ≤ 17) {x : Int} : Sp E yX0_goes kX0_goes 3 0 0 [.ref q, .int (iI x), .ref 44] σ ρ ks (Fn (some (.int (iI (x * 3 + f - z (26 + f))))) (tc σ ([2] ++ ([11] ++ [1]))) ρ ks) := by
  refine x_enter (own := RX0) (L := [_, _, _]) (by decide +kernel) rfl (by exact Nat.le_of_ble_eq_true rfl) rfl (fun p e R s m args below meth c Z hZ hC hR hin => ?_)
  obtain ⟨t1, t2, t3⟩ := id htk
  have hn1 : q ≠ 44 := by rintro rfl; rw [t1] at hq; simp at hq
  have hn2 : q ≠ 45 := by rintro rfl; rw [t2] at hq; simp at hq
  obtain ⟨a0, a1, a2, a3, a4, a5, a6⟩ := id hfz
  obtain ⟨b1, b2, b3, b4, b5, b6⟩ := id hfo
  refine x_aload_n (pc := 0) hC dX0_goes_0 rfl ?_
  refine x_iconst (pc := 1) hC dX0_goes_1 ?_
  refine x_callV0 (As := [_]) (Bs := [_]) (pc := 2) hC (c_began E htk (by omega)) wX0_36_8 pX8_began (by assumption) rfl rfl (by exact Nat.le_of_ble_eq_true rfl) hR (by decide) (by decide) (by decide) rfl dX0_goes_2 ?_
  refine x_aload_n (pc := 5) hC dX0_goes_5 rfl ?_
  refine x_iload_n (pc := 6) hC dX0_goes_6 rfl ?_
  refine x_aload_n (pc := 7) hC dX0_goes_7 rfl ?_
  refine x_callU1 (As := [_, _]) (Bs := [_, _]) (pc := 8) hC (c_blows6_6 E htk (hfz.tc hn1 hn2 _) hfo hff hq (by rw [tc_a]; simp; omega)) wX0_42_6 pX0_42_6 (by assumption) rfl rfl (by exact Nat.le_of_ble_eq_true rfl) hR (by decide) (by decide) (by decide) rfl dX0_goes_8 ?_
  refine x_aload_n (pc := 11) hC dX0_goes_11 rfl ?_
  refine x_geti (K := 2) (pc := 12) hC fX0_20_6 (by assumption) dX0_goes_12 rfl rfl ?_
  rw [tc_q _ _ hn1 hn2, tc_q _ _ hn1 hn2, a2]
  refine x_isub (pc := 15) hC dX0_goes_15 ?_
  refine x_ireturn hC hZ dX0_goes_16 (by decide) (by decide) ?_
  refine ⟨rfl, ?_, rfl, rfl⟩
  rw [tc_tc]

set_option maxHeartbeats 4000000 in
set_option maxRecDepth 100000 in
theorem c_goes0_7 (E : xE) {σ : xM} {ρ : xR} {ks : xKs} (htk : TK ks ρ) {q : Nat} {f : Int} {z : zS} (hfz : FZ σ q f z) (hfo : FanOk z f) (hff : 0 ≤ f ∧ f < 4) (hq : ks[q]? = some (0, 7)) (hr : 0 ≤ σ 44 1 ∧ σ 44 1 ≤ 17) {x : Int} : Sp E yX0_goes kX0_goes 3 0 0 [.ref q, .int (iI x), .ref 44] σ ρ ks (Fn (some (.int (iI (x + f - z (26 + f))))) (tc σ ([2] ++ ([1]))) ρ ks) := by
  refine x_enter (own := RX0) (L := [_, _, _]) (by decide +kernel) rfl (by exact Nat.le_of_ble_eq_true rfl) rfl (fun p e R s m args below meth c Z hZ hC hR hin => ?_)
  obtain ⟨t1, t2, t3⟩ := id htk
  have hn1 : q ≠ 44 := by rintro rfl; rw [t1] at hq; simp at hq
  have hn2 : q ≠ 45 := by rintro rfl; rw [t2] at hq; simp at hq
  obtain ⟨a0, a1, a2, a3, a4, a5, a6⟩ := id hfz
  obtain ⟨b1, b2, b3, b4, b5, b6⟩ := id hfo
  refine x_aload_n (pc := 0) hC dX0_goes_0 rfl ?_
  refine x_iconst (pc := 1) hC dX0_goes_1 ?_
  refine x_callV0 (As := [_]) (Bs := [_]) (pc := 2) hC (c_began E htk (by omega)) wX0_36_8 pX8_began (by assumption) rfl rfl (by exact Nat.le_of_ble_eq_true rfl) hR (by decide) (by decide) (by decide) rfl dX0_goes_2 ?_
  refine x_aload_n (pc := 5) hC dX0_goes_5 rfl ?_
  refine x_iload_n (pc := 6) hC dX0_goes_6 rfl ?_
  refine x_aload_n (pc := 7) hC dX0_goes_7 rfl ?_
  refine x_callU1 (As := [_, _]) (Bs := [_, _]) (pc := 8) hC (c_blows0_7 E htk (hfz.tc hn1 hn2 _) hfo hff hq (by rw [tc_a]; simp; omega)) wX0_42_7 pX0_42_7 (by assumption) rfl rfl (by exact Nat.le_of_ble_eq_true rfl) hR (by decide) (by decide) (by decide) rfl dX0_goes_8 ?_
  refine x_aload_n (pc := 11) hC dX0_goes_11 rfl ?_
  refine x_geti (K := 2) (pc := 12) hC fX0_20_7 (by assumption) dX0_goes_12 rfl rfl ?_
  rw [tc_q _ _ hn1 hn2, tc_q _ _ hn1 hn2, a2]
  refine x_isub (pc := 15) hC dX0_goes_15 ?_
  refine x_ireturn hC hZ dX0_goes_16 (by decide) (by decide) ?_
  refine ⟨rfl, ?_, rfl, rfl⟩
  rw [tc_tc]

set_option maxHeartbeats 4000000 in
set_option maxRecDepth 100000 in
theorem c_goes0_9 (E : xE) {σ : xM} {ρ : xR} {ks : xKs} (htk : TK ks ρ) {q : Nat} {f : Int} {z : zS} (hfz : FZ σ q f z) (hfo : FanOk z f) (hff : 0 ≤ f ∧ f < 4) (hq : ks[q]? = some (0, 9)) (hr : 0 ≤ σ 44 1 ∧ σ 44 1 ≤ 17) {x : Int} : Sp E yX0_goes kX0_goes 3 0 0 [.ref q, .int (iI x), .ref 44] σ ρ ks (Fn (some (.int (iI (x + f - z (26 + f))))) (tc σ ([2] ++ ([1]))) ρ ks) := by
  refine x_enter (own := RX0) (L := [_, _, _]) (by decide +kernel) rfl (by exact Nat.le_of_ble_eq_true rfl) rfl (fun p e R s m args below meth c Z hZ hC hR hin => ?_)
  obtain ⟨t1, t2, t3⟩ := id htk
  have hn1 : q ≠ 44 := by rintro rfl; rw [t1] at hq; simp at hq
  have hn2 : q ≠ 45 := by rintro rfl; rw [t2] at hq; simp at hq
  obtain ⟨a0, a1, a2, a3, a4, a5, a6⟩ := id hfz
  obtain ⟨b1, b2, b3, b4, b5, b6⟩ := id hfo
  refine x_aload_n (pc := 0) hC dX0_goes_0 rfl ?_
  refine x_iconst (pc := 1) hC dX0_goes_1 ?_
  refine x_callV0 (As := [_]) (Bs := [_]) (pc := 2) hC (c_began E htk (by omega)) wX0_36_8 pX8_began (by assumption) rfl rfl (by exact Nat.le_of_ble_eq_true rfl) hR (by decide) (by decide) (by decide) rfl dX0_goes_2 ?_
  refine x_aload_n (pc := 5) hC dX0_goes_5 rfl ?_
  refine x_iload_n (pc := 6) hC dX0_goes_6 rfl ?_
  refine x_aload_n (pc := 7) hC dX0_goes_7 rfl ?_
  refine x_callU1 (As := [_, _]) (Bs := [_, _]) (pc := 8) hC (c_blows0_9 E htk (hfz.tc hn1 hn2 _) hfo hff hq (by rw [tc_a]; simp; omega)) wX0_42_9 pX0_42_9 (by assumption) rfl rfl (by exact Nat.le_of_ble_eq_true rfl) hR (by decide) (by decide) (by decide) rfl dX0_goes_8 ?_
  refine x_aload_n (pc := 11) hC dX0_goes_11 rfl ?_
  refine x_geti (K := 2) (pc := 12) hC fX0_20_9 (by assumption) dX0_goes_12 rfl rfl ?_
  rw [tc_q _ _ hn1 hn2, tc_q _ _ hn1 hn2, a2]
  refine x_isub (pc := 15) hC dX0_goes_15 ?_
  refine x_ireturn hC hZ dX0_goes_16 (by decide) (by decide) ?_
  refine ⟨rfl, ?_, rfl, rfl⟩
  rw [tc_tc]

set_option maxHeartbeats 4000000 in
set_option maxRecDepth 100000 in
theorem c_goes0_10 (E : xE) {σ : xM} {ρ : xR} {ks : xKs} (htk : TK ks ρ) {q : Nat} {f : Int} {z : zS} (hfz : FZ σ q f z) (hfo : FanOk z f) (hff : 0 ≤ f ∧ f < 4) (hq : ks[q]? = some (0, 10)) (hr : 0 ≤ σ 44 1 ∧ σ 44 1 ≤ 17) {x : Int} : Sp E yX0_goes kX0_goes 3 0 0 [.ref q, .int (iI x), .ref 44] σ ρ ks (Fn (some (.int (iI (x * 3 + f - z (26 + f))))) (tc σ ([2] ++ ([11] ++ [1]))) ρ ks) := by
  refine x_enter (own := RX0) (L := [_, _, _]) (by decide +kernel) rfl (by exact Nat.le_of_ble_eq_true rfl) rfl (fun p e R s m args below meth c Z hZ hC hR hin => ?_)
  obtain ⟨t1, t2, t3⟩ := id htk
  have hn1 : q ≠ 44 := by rintro rfl; rw [t1] at hq; simp at hq
  have hn2 : q ≠ 45 := by rintro rfl; rw [t2] at hq; simp at hq
  obtain ⟨a0, a1, a2, a3, a4, a5, a6⟩ := id hfz
  obtain ⟨b1, b2, b3, b4, b5, b6⟩ := id hfo
  refine x_aload_n (pc := 0) hC dX0_goes_0 rfl ?_
  refine x_iconst (pc := 1) hC dX0_goes_1 ?_
  refine x_callV0 (As := [_]) (Bs := [_]) (pc := 2) hC (c_began E htk (by omega)) wX0_36_8 pX8_began (by assumption) rfl rfl (by exact Nat.le_of_ble_eq_true rfl) hR (by decide) (by decide) (by decide) rfl dX0_goes_2 ?_
  refine x_aload_n (pc := 5) hC dX0_goes_5 rfl ?_
  refine x_iload_n (pc := 6) hC dX0_goes_6 rfl ?_
  refine x_aload_n (pc := 7) hC dX0_goes_7 rfl ?_
  refine x_callU1 (As := [_, _]) (Bs := [_, _]) (pc := 8) hC (c_blows6_10 E htk (hfz.tc hn1 hn2 _) hfo hff hq (by rw [tc_a]; simp; omega)) wX0_42_10 pX0_42_10 (by assumption) rfl rfl (by exact Nat.le_of_ble_eq_true rfl) hR (by decide) (by decide) (by decide) rfl dX0_goes_8 ?_
  refine x_aload_n (pc := 11) hC dX0_goes_11 rfl ?_
  refine x_geti (K := 2) (pc := 12) hC fX0_20_10 (by assumption) dX0_goes_12 rfl rfl ?_
  rw [tc_q _ _ hn1 hn2, tc_q _ _ hn1 hn2, a2]
  refine x_isub (pc := 15) hC dX0_goes_15 ?_
  refine x_ireturn hC hZ dX0_goes_16 (by decide) (by decide) ?_
  refine ⟨rfl, ?_, rfl, rfl⟩
  rw [tc_tc]

set_option maxHeartbeats 4000000 in
set_option maxRecDepth 100000 in
theorem c_goes9_7 (E : xE) {σ : xM} {ρ : xR} {ks : xKs} (htk : TK ks ρ) {q : Nat} {f : Int} {z : zS} (hfz : FZ σ q f z) (hfo : FanOk z f) (hff : 0 ≤ f ∧ f < 4) (hq : ks[q]? = some (0, 7)) (hr : 0 ≤ σ 44 1 ∧ σ 44 1 ≤ 16) {x : Int} : Sp E yX9_goes kX9_goes 4 0 0 [.ref q, .int (iI x), .ref 44] σ ρ ks (Fn (some (.int (iI (-(x + f - z (26 + f)))))) (tc σ ([21] ++ ([2] ++ [1]))) ρ ks) := by
  refine x_enter (own := RX9) (L := [_, _, _]) (by decide +kernel) rfl (by exact Nat.le_of_ble_eq_true rfl) rfl (fun p e R s m args below meth c Z hZ hC hR hin => ?_)
  obtain ⟨t1, t2, t3⟩ := id htk
  have hn1 : q ≠ 44 := by rintro rfl; rw [t1] at hq; simp at hq
  have hn2 : q ≠ 45 := by rintro rfl; rw [t2] at hq; simp at hq
  obtain ⟨a0, a1, a2, a3, a4, a5, a6⟩ := id hfz
  obtain ⟨b1, b2, b3, b4, b5, b6⟩ := id hfo
  refine x_aload_n (pc := 0) hC dX9_goes_0 rfl ?_
  refine x_bipush (pc := 1) hC dX9_goes_1 (by decide +kernel) ?_
  refine x_callV0 (As := [_]) (Bs := [_]) (pc := 3) hC (c_began E htk (by omega)) wX9_24_8 pX8_began (by assumption) rfl rfl (by exact Nat.le_of_ble_eq_true rfl) hR (by decide) (by decide) (by decide) rfl dX9_goes_3 ?_
  refine x_aload_n (pc := 6) hC dX9_goes_6 rfl ?_
  refine x_iload_n (pc := 7) hC dX9_goes_7 rfl ?_
  refine x_aload_n (pc := 8) hC dX9_goes_8 rfl ?_
  refine x_callSU1 (As := [_, _]) (Bs := [_, _]) (pc := 9) hC (c_goes0_7 E htk (hfz.tc hn1 hn2 _) hfo hff hq (by rw [tc_a]; simp; omega)) wX9_30 pX9_30 (by assumption) rfl rfl (by exact Nat.le_of_ble_eq_true rfl) hR (by decide) (by decide) (by decide) rfl dX9_goes_9 ?_
  refine x_ineg (pc := 12) hC dX9_goes_12 ?_
  refine x_ireturn hC hZ dX9_goes_13 (by decide) (by decide) ?_
  refine ⟨rfl, ?_, rfl, rfl⟩
  rw [tc_tc]

set_option maxHeartbeats 4000000 in
set_option maxRecDepth 100000 in
theorem c_goes9_9 (E : xE) {σ : xM} {ρ : xR} {ks : xKs} (htk : TK ks ρ) {q : Nat} {f : Int} {z : zS} (hfz : FZ σ q f z) (hfo : FanOk z f) (hff : 0 ≤ f ∧ f < 4) (hq : ks[q]? = some (0, 9)) (hr : 0 ≤ σ 44 1 ∧ σ 44 1 ≤ 16) {x : Int} : Sp E yX9_goes kX9_goes 4 0 0 [.ref q, .int (iI x), .ref 44] σ ρ ks (Fn (some (.int (iI (-(x + f - z (26 + f)))))) (tc σ ([21] ++ ([2] ++ [1]))) ρ ks) := by
  refine x_enter (own := RX9) (L := [_, _, _]) (by decide +kernel) rfl (by exact Nat.le_of_ble_eq_true rfl) rfl (fun p e R s m args below meth c Z hZ hC hR hin => ?_)
  obtain ⟨t1, t2, t3⟩ := id htk
  have hn1 : q ≠ 44 := by rintro rfl; rw [t1] at hq; simp at hq
  have hn2 : q ≠ 45 := by rintro rfl; rw [t2] at hq; simp at hq
  obtain ⟨a0, a1, a2, a3, a4, a5, a6⟩ := id hfz
  obtain ⟨b1, b2, b3, b4, b5, b6⟩ := id hfo
  refine x_aload_n (pc := 0) hC dX9_goes_0 rfl ?_
  refine x_bipush (pc := 1) hC dX9_goes_1 (by decide +kernel) ?_
  refine x_callV0 (As := [_]) (Bs := [_]) (pc := 3) hC (c_began E htk (by omega)) wX9_24_8 pX8_began (by assumption) rfl rfl (by exact Nat.le_of_ble_eq_true rfl) hR (by decide) (by decide) (by decide) rfl dX9_goes_3 ?_
  refine x_aload_n (pc := 6) hC dX9_goes_6 rfl ?_
  refine x_iload_n (pc := 7) hC dX9_goes_7 rfl ?_
  refine x_aload_n (pc := 8) hC dX9_goes_8 rfl ?_
  refine x_callSU1 (As := [_, _]) (Bs := [_, _]) (pc := 9) hC (c_goes0_9 E htk (hfz.tc hn1 hn2 _) hfo hff hq (by rw [tc_a]; simp; omega)) wX9_30 pX9_30 (by assumption) rfl rfl (by exact Nat.le_of_ble_eq_true rfl) hR (by decide) (by decide) (by decide) rfl dX9_goes_9 ?_
  refine x_ineg (pc := 12) hC dX9_goes_12 ?_
  refine x_ireturn hC hZ dX9_goes_13 (by decide) (by decide) ?_
  refine ⟨rfl, ?_, rfl, rfl⟩
  rw [tc_tc]

set_option maxHeartbeats 4000000 in
set_option maxRecDepth 100000 in
theorem c_goes7_7 (E : xE) {σ : xM} {ρ : xR} {ks : xKs} (htk : TK ks ρ) {q : Nat} {f : Int} {z : zS} (hfz : FZ σ q f z) (hfo : FanOk z f) (hff : 0 ≤ f ∧ f < 4) (hq : ks[q]? = some (0, 7)) (hr : 0 ≤ σ 44 1 ∧ σ 44 1 ≤ 15) {x : Int} : Sp E yX7_goes kX7_goes 5 0 0 [.ref q, .int (iI x), .ref 44] σ ρ ks (Fn (some (.int (iI (-(x + f - z (26 + f)) + z (26 + f))))) (tc σ ([61] ++ ([21] ++ ([2] ++ [1])))) ρ ks) := by
  refine x_enter (own := RX7) (L := [_, _, _]) (by decide +kernel) rfl (by exact Nat.le_of_ble_eq_true rfl) rfl (fun p e R s m args below meth c Z hZ hC hR hin => ?_)
  obtain ⟨t1, t2, t3⟩ := id htk
  have hn1 : q ≠ 44 := by rintro rfl; rw [t1] at hq; simp at hq
  have hn2 : q ≠ 45 := by rintro rfl; rw [t2] at hq; simp at hq
  obtain ⟨a0, a1, a2, a3, a4, a5, a6⟩ := id hfz
  obtain ⟨b1, b2, b3, b4, b5, b6⟩ := id hfo
  refine x_aload_n (pc := 0) hC dX7_goes_0 rfl ?_
  refine x_bipush (pc := 1) hC dX7_goes_1 (by decide +kernel) ?_
  refine x_callV0 (As := [_]) (Bs := [_]) (pc := 3) hC (c_began E htk (by omega)) wX7_31_8 pX8_began (by assumption) rfl rfl (by exact Nat.le_of_ble_eq_true rfl) hR (by decide) (by decide) (by decide) rfl dX7_goes_3 ?_
  refine x_aload_n (pc := 6) hC dX7_goes_6 rfl ?_
  refine x_iload_n (pc := 7) hC dX7_goes_7 rfl ?_
  refine x_aload_n (pc := 8) hC dX7_goes_8 rfl ?_
  refine x_callSU1 (As := [_, _]) (Bs := [_, _]) (pc := 9) hC (c_goes9_7 E htk (hfz.tc hn1 hn2 _) hfo hff hq (by rw [tc_a]; simp; omega)) wX7_37 pX7_37 (by assumption) rfl rfl (by exact Nat.le_of_ble_eq_true rfl) hR (by decide) (by decide) (by decide) rfl dX7_goes_9 ?_
  refine x_aload_n (pc := 12) hC dX7_goes_12 rfl ?_
  refine x_geti (K := 2) (pc := 13) hC fX7_41_7 (by assumption) dX7_goes_13 rfl rfl ?_
  rw [tc_q _ _ hn1 hn2, tc_q _ _ hn1 hn2, a2]
  refine x_iadd (pc := 16) hC dX7_goes_16 ?_
  refine x_ireturn hC hZ dX7_goes_17 (by decide) (by decide) ?_
  refine ⟨rfl, ?_, rfl, rfl⟩
  rw [tc_tc]
