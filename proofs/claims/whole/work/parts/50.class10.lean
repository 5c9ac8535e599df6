theorem FZ.tc {σ : xM} {q : Nat} {f : Int} {z : zS} (h : FZ σ q f z) (h1 : q ≠ 44) (h2 : q ≠ 45) (l : List Int) : FZ (tc σ l) q f z := by
  unfold FZ
  rw [tc_q _ _ h1 h2]
  exact h
set_option maxHeartbeats 4000000 in
set_option maxRecDepth 100000 in
theorem c_blows0_0 (E : xE) {σ : xM} {ρ : xR} {ks : xKs} (htk : TK ks ρ) {q : Nat} {f : Int} {z : zS} (hfz : FZ σ q f z) (hfo : FanOk z f) (hff : 0 ≤ f ∧ f < 4) (hq : ks[q]? = some (0, 0)) (hr : 0 ≤ σ 44 1 ∧ σ 44 1 ≤ 19) {x : Int} : Sp E yX0_blows kX0_blows 1 0 0 [.ref q, .int (iI x), .ref 44] σ ρ ks (Fn (some (.int (iI (x + f)))) (tc σ [1]) ρ ks) := by
  refine x_enter (own := RX0) (L := [_, _, _]) (by decide +kernel) rfl (by exact Nat.le_of_ble_eq_true rfl) rfl (fun p e R s m args below meth c Z hZ hC hR hin => ?_)
  obtain ⟨t1, t2, t3⟩ := id htk
  have hn1 : q ≠ 44 := by rintro rfl; rw [t1] at hq; simp at hq
  have hn2 : q ≠ 45 := by rintro rfl; rw [t2] at hq; simp at hq
  obtain ⟨a0, a1, a2, a3, a4, a5, a6⟩ := id hfz
  obtain ⟨b1, b2, b3, b4, b5, b6⟩ := id hfo
  refine x_aload_n (pc := 0) hC dX0_blows_0 rfl ?_
  refine x_iconst (pc := 1) hC dX0_blows_1 ?_
  refine x_callV0 (As := [_]) (Bs := [_]) (pc := 2) hC (c_began E htk (by omega)) wX0_36_8 pX8_began (by assumption) rfl rfl (by exact Nat.le_of_ble_eq_true rfl) hR (by decide) (by decide) (by decide) rfl dX0_blows_2 ?_
  refine x_iload_n (pc := 5) hC dX0_blows_5 rfl ?_
  refine x_aload_n (pc := 6) hC dX0_blows_6 rfl ?_
  refine x_geti (K := 1) (pc := 7) hC fX0_17_0 (by assumption) dX0_blows_7 rfl rfl ?_
  rw [tc_q _ _ hn1 hn2, a1]
  refine x_iadd (pc := 10) hC dX0_blows_10 ?_
  refine x_ireturn hC hZ dX0_blows_11 (by decide) (by decide) ?_
  exact ⟨rfl, rfl, rfl, rfl⟩

set_option maxHeartbeats 4000000 in
set_option maxRecDepth 100000 in
theorem c_blows0_2 (E : xE) {σ : xM} {ρ : xR} {ks : xKs} (htk : TK ks ρ) {q : Nat} {f : Int} {z : zS} (hfz : FZ σ q f z) (hfo : FanOk z f) (hff : 0 ≤ f ∧ f < 4) (hq : ks[q]? = some (0, 2)) (hr : 0 ≤ σ 44 1 ∧ σ 44 1 ≤ 19) {x : Int} : Sp E yX0_blows kX0_blows 1 0 0 [.ref q, .int (iI x), .ref 44] σ ρ ks (Fn (some (.int (iI (x + f)))) (tc σ [1]) ρ ks) := by
  refine x_enter (own := RX0) (L := [_, _, _]) (by decide +kernel) rfl (by exact Nat.le_of_ble_eq_true rfl) rfl (fun p e R s m args below meth c Z hZ hC hR hin => ?_)
  obtain ⟨t1, t2, t3⟩ := id htk
  have hn1 : q ≠ 44 := by rintro rfl; rw [t1] at hq; simp at hq
  have hn2 : q ≠ 45 := by rintro rfl; rw [t2] at hq; simp at hq
  obtain ⟨a0, a1, a2, a3, a4, a5, a6⟩ := id hfz
  obtain ⟨b1, b2, b3, b4, b5, b6⟩ := id hfo
  refine x_aload_n (pc := 0) hC dX0_blows_0 rfl ?_
  refine x_iconst (pc := 1) hC dX0_blows_1 ?_
  refine x_callV0 (As := [_]) (Bs := [_]) (pc := 2) hC (c_began E htk (by omega)) wX0_36_8 pX8_began (by assumption) rfl rfl (by exact Nat.le_of_ble_eq_true rfl) hR (by decide) (by decide) (by decide) rfl dX0_blows_2 ?_
  refine x_iload_n (pc := 5) hC dX0_blows_5 rfl ?_
  refine x_aload_n (pc := 6) hC dX0_blows_6 rfl ?_
  refine x_geti (K := 1) (pc := 7) hC fX0_17_2 (by assumption) dX0_blows_7 rfl rfl ?_
  rw [tc_q _ _ hn1 hn2, a1]
  refine x_iadd (pc := 10) hC dX0_blows_10 ?_
  refine x_ireturn hC hZ dX0_blows_11 (by decide) (by decide) ?_
  exact ⟨rfl, rfl, rfl, rfl⟩

set_option maxHeartbeats 4000000 in
set_option maxRecDepth 100000 in
theorem c_blows0_3 (E : xE) {σ : xM} {ρ : xR} {ks : xKs} (htk : TK ks ρ) {q : Nat} {f : Int} {z : zS} (hfz : FZ σ q f z) (hfo : FanOk z f) (hff : 0 ≤ f ∧ f < 4) (hq : ks[q]? = some (0, 3)) (hr : 0 ≤ σ 44 1 ∧ σ 44 1 ≤ 19) {x : Int} : Sp E yX0_blows kX0_blows 1 0 0 [.ref q, .int (iI x), .ref 44] σ ρ ks (Fn (some (.int (iI (x + f)))) (tc σ [1]) ρ ks) := by
  refine x_enter (own := RX0) (L := [_, _, _]) (by decide +kernel) rfl (by exact Nat.le_of_ble_eq_true rfl) rfl (fun p e R s m args below meth c Z hZ hC hR hin => ?_)
  obtain ⟨t1, t2, t3⟩ := id htk
  have hn1 : q ≠ 44 := by rintro rfl; rw [t1] at hq; simp at hq
  have hn2 : q ≠ 45 := by rintro rfl; rw [t2] at hq; simp at hq
  obtain ⟨a0, a1, a2, a3, a4, a5, a6⟩ := id hfz
  obtain ⟨b1, b2, b3, b4, b5, b6⟩ := id hfo
  refine x_aload_n (pc := 0) hC dX0_blows_0 rfl ?_
  refine x_iconst (pc := 1) hC dX0_blows_1 ?_
  refine x_callV0 (As := [_]) (Bs := [_]) (pc := 2) hC (c_began E htk (by omega)) wX0_36_8 pX8_began (by assumption) rfl rfl (by exact Nat.le_of_ble_eq_true rfl) hR (by decide) (by decide) (by decide) rfl dX0_blows_2 ?_
  refine x_iload_n (pc := 5) hC dX0_blows_5 rfl ?_
  refine x_aload_n (pc := 6) hC dX0_blows_6 rfl ?_
  refine x_geti (K := 1) (pc := 7) hC fX0_17_3 (by assumption) dX0_blows_7 rfl rfl ?_
  rw [tc_q _ _ hn1 hn2, a1]
  refine x_iadd (pc := 10) hC dX0_blows_10 ?_
  refine x_ireturn hC hZ dX0_blows_11 (by decide) (by decide) ?_
  exact ⟨rfl, rfl, rfl, rfl⟩

set_option maxHeartbeats 4000000 in
set_option maxRecDepth 100000 in
theorem c_blows0_6 (E : xE) {σ : xM} {ρ : xR} {ks : xKs} (htk : TK ks ρ) {q : Nat} {f : Int} {z : zS} (hfz : FZ σ q f z) (hfo : FanOk z f) (hff : 0 ≤ f ∧ f < 4) (hq : ks[q]? = some (0, 6)) (hr : 0 ≤ σ 44 1 ∧ σ 44 1 ≤ 19) {x : Int} : Sp E yX0_blows kX0_blows 1 0 0 [.ref q, .int (iI x), .ref 44] σ ρ ks (Fn (some (.int (iI (x + f)))) (tc σ [1]) ρ ks) := by
  refine x_enter (own := RX0) (L := [_, _, _]) (by decide +kernel) rfl (by exact Nat.le_of_ble_eq_true rfl) rfl (fun p e R s m args below meth c Z hZ hC hR hin => ?_)
  obtain ⟨t1, t2, t3⟩ := id htk
  have hn1 : q ≠ 44 := by rintro rfl; rw [t1] at hq; simp at hq
  have hn2 : q ≠ 45 := by rintro rfl; rw [t2] at hq; simp at hq
  obtain ⟨a0, a1, a2, a3, a4, a5, a6⟩ := id hfz
  obtain ⟨b1, b2, b3, b4, b5, b6⟩ := id hfo
  refine x_aload_n (pc := 0) hC dX0_blows_0 rfl ?_
  refine x_iconst (pc := 1) hC dX0_blows_1 ?_
  refine x_callV0 (As := [_]) (Bs := [_]) (pc := 2) hC (c_began E htk (by omega)) wX0_36_8 pX8_began (by assumption) rfl rfl (by exact Nat.le_of_ble_eq_true rfl) hR (by decide) (by decide) (by decide) rfl dX0_blows_2 ?_
  refine x_iload_n (pc := 5) hC dX0_blows_5 rfl ?_
  refine x_aload_n (pc := 6) hC dX0_blows_6 rfl ?_
  refine x_geti (K := 1) (pc := 7) hC fX0_17_6 (by assumption) dX0_blows_7 rfl rfl ?_
  rw [tc_q _ _ hn1 hn2, a1]
  refine x_iadd (pc := 10) hC dX0_blows_10 ?_
  refine x_ireturn hC hZ dX0_blows_11 (by decide) (by decide) ?_
  exact ⟨rfl, rfl, rfl, rfl⟩

set_option maxHeartbeats 4000000 in
set_option maxRecDepth 100000 in
theorem c_blows0_7 (E : xE) {σ : xM} {ρ : xR} {ks : xKs} (htk : TK ks ρ) {q : Nat} {f : Int} {z : zS} (hfz : FZ σ q f z) (hfo : FanOk z f) (hff : 0 ≤ f ∧ f < 4) (hq : ks[q]? = some (0, 7)) (hr : 0 ≤ σ 44 1 ∧ σ 44 1 ≤ 19) {x : Int} : Sp E yX0_blows kX0_blows 1 0 0 [.ref q, .int (iI x), .ref 44] σ ρ ks (Fn (some (.int (iI (x + f)))) (tc σ [1]) ρ ks) := by
  refine x_enter (own := RX0) (L := [_, _, _]) (by decide +kernel) rfl (by exact Nat.le_of_ble_eq_true rfl) rfl (fun p e R s m args below meth c Z hZ hC hR hin => ?_)
  obtain ⟨t1, t2, t3⟩ := id htk
  have hn1 : q ≠ 44 := by rintro rfl; rw [t1] at hq; simp at hq
  have hn2 : q ≠ 45 := by rintro rfl; rw [t2] at hq; simp at hq
  obtain ⟨a0, a1, a2, a3, a4, a5, a6⟩ := id hfz
  obtain ⟨b1, b2, b3, b4, b5, b6⟩ := id hfo
  refine x_aload_n (pc := 0) hC dX0_blows_0 rfl ?_
  refine x_iconst (pc := 1) hC dX0_blows_1 ?_
  refine x_callV0 (As := [_]) (Bs := [_]) (pc := 2) hC (c_began E htk (by omega)) wX0_36_8 pX8_began (by assumption) rfl rfl (by exact Nat.le_of_ble_eq_true rfl) hR (by decide) (by decide) (by decide) rfl dX0_blows_2 ?_
  refine x_iload_n (pc := 5) hC dX0_blows_5 rfl ?_
  refine x_aload_n (pc := 6) hC dX0_blows_6 rfl ?_
  refine x_geti (K := 1) (pc := 7) hC fX0_17_7 (by assumption) dX0_blows_7 rfl rfl ?_
  rw [tc_q _ _ hn1 hn2, a1]
  refine x_iadd (pc := 10) hC dX0_blows_10 ?_
  refine x_ireturn hC hZ dX0_blows_11 (by decide) (by decide) ?_
  exact ⟨rfl, rfl, rfl, rfl⟩

set_option maxHeartbeats 4000000 in
set_option maxRecDepth 100000 in
theorem c_blows0_9 (E : xE) {σ : xM} {ρ : xR} {ks : xKs} (htk : TK ks ρ) {q : Nat} {f : Int} {z : zS} (hfz : FZ σ q f z) (hfo : FanOk z f) (hff : 0 ≤ f ∧ f < 4) (hq : ks[q]? = some (0, 9)) (hr : 0 ≤ σ 44 1 ∧ σ 44 1 ≤ 19) {x : Int} : Sp E yX0_blows kX0_blows 1 0 0 [.ref q, .int (iI x), .ref 44] σ ρ ks (Fn (some (.int (iI (x + f)))) (tc σ [1]) ρ ks) := by
  refine x_enter (own := RX0) (L := [_, _, _]) (by decide +kernel) rfl (by exact Nat.le_of_ble_eq_true rfl) rfl (fun p e R s m args below meth c Z hZ hC hR hin => ?_)
  obtain ⟨t1, t2, t3⟩ := id htk
  have hn1 : q ≠ 44 := by rintro rfl; rw [t1] at hq; simp at hq
  have hn2 : q ≠ 45 := by rintro rfl; rw [t2] at hq; simp at hq
  obtain ⟨a0, a1, a2, a3, a4, a5, a6⟩ := id hfz
  obtain ⟨b1, b2, b3, b4, b5, b6⟩ := id hfo
  refine x_aload_n (pc := 0) hC dX0_blows_0 rfl ?_
  refine x_iconst (pc := 1) hC dX0_blows_1 ?_
  refine x_callV0 (As := [_]) (Bs := [_]) (pc := 2) hC (c_began E htk (by omega)) wX0_36_8 pX8_began (by assumption) rfl rfl (by exact Nat.le_of_ble_eq_true rfl) hR (by decide) (by decide) (by decide) rfl dX0_blows_2 ?_
  refine x_iload_n (pc := 5) hC dX0_blows_5 rfl ?_
  refine x_aload_n (pc := 6) hC dX0_blows_6 rfl ?_
  refine x_geti (K := 1) (pc := 7) hC fX0_17_9 (by assumption) dX0_blows_7 rfl rfl ?_
  rw [tc_q _ _ hn1 hn2, a1]
  refine x_iadd (pc := 10) hC dX0_blows_10 ?_
  refine x_ireturn hC hZ dX0_blows_11 (by decide) (by decide) ?_
  exact ⟨rfl, rfl, rfl, rfl⟩

set_option maxHeartbeats 4000000 in
set_option maxRecDepth 100000 in
theorem c_blows0_10 (E : xE) {σ : xM} {ρ : xR} {ks : xKs} (htk : TK ks ρ) {q : Nat} {f : Int} {z : zS} (hfz : FZ σ q f z) (hfo : FanOk z f) (hff : 0 ≤ f ∧ f < 4) (hq : ks[q]? = some (0, 10)) (hr : 0 ≤ σ 44 1 ∧ σ 44 1 ≤ 19) {x : Int} : Sp E yX0_blows kX0_blows 1 0 0 [.ref q, .int (iI x), .ref 44] σ ρ ks (Fn (some (.int (iI (x + f)))) (tc σ [1]) ρ ks) := by
  refine x_enter (own := RX0) (L := [_, _, _]) (by decide +kernel) rfl (by exact Nat.le_of_ble_eq_true rfl) rfl (fun p e R s m args below meth c Z hZ hC hR hin => ?_)
  obtain ⟨t1, t2, t3⟩ := id htk
  have hn1 : q ≠ 44 := by rintro rfl; rw [t1] at hq; simp at hq
  have hn2 : q ≠ 45 := by rintro rfl; rw [t2] at hq; simp at hq
  obtain ⟨a0, a1, a2, a3, a4, a5, a6⟩ := id hfz
  obtain ⟨b1, b2, b3, b4, b5, b6⟩ := id hfo
  refine x_aload_n (pc := 0) hC dX0_blows_0 rfl ?_
  refine x_iconst (pc := 1) hC dX0_blows_1 ?_
  refine x_callV0 (As := [_]) (Bs := [_]) (pc := 2) hC (c_began E htk (by omega)) wX0_36_8 pX8_began (by assumption) rfl rfl (by exact Nat.le_of_ble_eq_true rfl) hR (by decide) (by decide) (by decide) rfl dX0_blows_2 ?_
  refine x_iload_n (pc := 5) hC dX0_blows_5 rfl ?_
  refine x_aload_n (pc := 6) hC dX0_blows_6 rfl ?_
  refine x_geti (K := 1) (pc := 7) hC fX0_17_10 (by assumption) dX0_blows_7 rfl rfl ?_
  rw [tc_q _ _ hn1 hn2, a1]
  refine x_iadd (pc := 10) hC dX0_blows_10 ?_
  refine x_ireturn hC hZ dX0_blows_11 (by decide) (by decide) ?_
  exact ⟨rfl, rfl, rfl, rfl⟩

set_option maxHeartbeats 4000000 in
set_option maxRecDepth 100000 in
theorem c_blows6_6 (E : xE) {σ : xM} {ρ : xR} {ks : xKs} (htk : TK ks ρ) {q : Nat} {f : Int} {z : zS} (hfz : FZ σ q f z) (hfo : FanOk z f) (hff : 0 ≤ f ∧ f < 4) (hq : ks[q]? = some (0, 6)) (hr : 0 ≤ σ 44 1 ∧ σ 44 1 ≤ 18) {x : Int} : Sp E yX6_blows kX6_blows 2 0 0 [.ref q, .int (iI x), .ref 44] σ ρ ks (Fn (some (.int (iI (x * 3 + f)))) (tc σ ([11] ++ [1])) ρ ks) := by
  refine x_enter (own := RX6) (L := [_, _, _]) (by decide +kernel) rfl (by exact Nat.le_of_ble_eq_true rfl) rfl (fun p e R s m args below meth c Z hZ hC hR hin => ?_)
  obtain ⟨t1, t2, t3⟩ := id htk
  have hn1 : q ≠ 44 := by rintro rfl; rw [t1] at hq; simp at hq
  have hn2 : q ≠ 45 := by rintro rfl; rw [t2] at hq; simp at hq
  obtain ⟨a0, a1, a2, a3, a4, a5, a6⟩ := id hfz
  obtain ⟨b1, b2, b3, b4, b5, b6⟩ := id hfo
  refine x_aload_n (pc := 0) hC dX6_blows_0 rfl ?_
  refine x_bipush (pc := 1) hC dX6_blows_1 (by decide +kernel) ?_
  refine x_callV0 (As := [_]) (Bs := [_]) (pc := 3) hC (c_began E htk (by omega)) wX6_30_8 pX8_began (by assumption) rfl rfl (by exact Nat.le_of_ble_eq_true rfl) hR (by decide) (by decide) (by decide) rfl dX6_blows_3 ?_
  refine x_aload_n (pc := 6) hC dX6_blows_6 rfl ?_
  refine x_iload_n (pc := 7) hC dX6_blows_7 rfl ?_
  refine x_iconst (pc := 8) hC dX6_blows_8 ?_
  refine x_imul (pc := 9) hC dX6_blows_9 ?_
  refine x_aload_n (pc := 10) hC dX6_blows_10 rfl ?_
  refine x_callSU1 (As := [_, _]) (Bs := [_, _]) (pc := 11) hC (c_blows0_6 E htk (hfz.tc hn1 hn2 _) hfo hff hq (by rw [tc_a]; simp; omega)) wX6_36 pX6_36 (by assumption) rfl rfl (by exact Nat.le_of_ble_eq_true rfl) hR (by decide) (by decide) (by decide) rfl dX6_blows_11 ?_
  refine x_ireturn hC hZ dX6_blows_14 (by decide) (by decide) ?_
  refine ⟨rfl, ?_, rfl, rfl⟩
  rw [tc_tc]

set_option maxHeartbeats 4000000 in
set_option maxRecDepth 100000 in
theorem c_blows6_10 (E : xE) {σ : xM} {ρ : xR} {ks : xKs} (htk : TK ks ρ) {q : Nat} {f : Int} {z : zS} (hfz : FZ σ q f z) (hfo : FanOk z f) (hff : 0 ≤ f ∧ f < 4) (hq : ks[q]? = some (0, 10)) (hr : 0 ≤ σ 44 1 ∧ σ 44 1 ≤ 18) {x : Int} : Sp E yX6_blows kX6_blows 2 0 0 [.ref q, .int (iI x), .ref 44] σ ρ ks (Fn (some (.int (iI (x * 3 + f)))) (tc σ ([11] ++ [1])) ρ ks) := by
  refine x_enter (own := RX6) (L := [_, _, _]) (by decide +kernel) rfl (by exact Nat.le_of_ble_eq_true rfl) rfl (fun p e R s m args below meth c Z hZ hC hR hin => ?_)
  obtain ⟨t1, t2, t3⟩ := id htk
  have hn1 : q ≠ 44 := by rintro rfl; rw [t1] at hq; simp at hq
  have hn2 : q ≠ 45 := by rintro rfl; rw [t2] at hq; simp at hq
  obtain ⟨a0, a1, a2, a3, a4, a5, a6⟩ := id hfz
  obtain ⟨b1, b2, b3, b4, b5, b6⟩ := id hfo
  refine x_aload_n (pc := 0) hC dX6_blows_0 rfl ?_
  refine x_bipush (pc := 1) hC dX6_blows_1 (by decide +kernel) ?_
  refine x_callV0 (As := [_]) (Bs := [_]) (pc := 3) hC (c_began E htk (by omega)) wX6_30_8 pX8_began (by assumption) rfl rfl (by exact Nat.le_of_ble_eq_true rfl) hR (by decide) (by decide) (by decide) rfl dX6_blows_3 ?_
  refine x_aload_n (pc := 6) hC dX6_blows_6 rfl ?_
  refine x_iload_n (pc := 7) hC dX6_blows_7 rfl ?_
  refine x_iconst (pc := 8) hC dX6_blows_8 ?_
  refine x_imul (pc := 9) hC dX6_blows_9 ?_
  refine x_aload_n (pc := 10) hC dX6_blows_10 rfl ?_
  refine x_callSU1 (As := [_, _]) (Bs := [_, _]) (pc := 11) hC (c_blows0_10 E htk (hfz.tc hn1 hn2 _) hfo hff hq (by rw [tc_a]; simp; omega)) wX6_36 pX6_36 (by assumption) rfl rfl (by exact Nat.le_of_ble_eq_true rfl) hR (by decide) (by decide) (by decide) rfl dX6_blows_11 ?_
  refine x_ireturn hC hZ dX6_blows_14 (by decide) (by decide) ?_
  refine ⟨rfl, ?_, rfl, rfl⟩
  rw [tc_tc]
