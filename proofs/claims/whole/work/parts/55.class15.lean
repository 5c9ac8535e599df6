section XSU1
variable {E : xE} {p : Program} {e : Env} {R : Room} {s : State} {m : MethodId} {args : Array Value} {below : List Frame} {meth : Method} {c : Code} {Z : State → Prop} {kc ns : Nat} {σ : xM} {ρ : xR} {ks : xKs} {pc : Nat} {L : List (Option Value)} {st : List Value} {cc : ByteArray} {own : String} {ret : Option FieldType} {nL : Nat}
theorem x_callSUU1 (C : XC E p R s m args meth c cc own ret nL) {i q ci d D n KC KS : Nat} {x y : MethodName} {bytes : ByteArray} {maxL : Nat} {r : Option FieldType} {As Bs : List Value} {v1 : Value} {σ1 : xM} {ρ1 : xR} {ks1 : xKs}
    (hM : Sp E y (.code y bytes maxL r) d 0 0 (.ref q :: As) σ ρ ks (Fn (some v1) σ1 ρ1 ks1)) (hws : Cond.code y bytes maxL r ∈ TW ∧ Cond.methodLink own i x ∈ TW ∧ Cond.sameMethod x.cls y.cls x.name x.desc ∈ TW ∧ Cond.superclass own x.cls ∈ TW ∧ Cond.superclass x.cls y.cls ∈ TW ∧ Cond.instanceMethod y ∈ TW ∧ Cond.initialized y.cls ∈ TW)
    (hxy : x.name = y.name ∧ x.desc = y.desc) (hy : x.name ≠ "<init>" ∧ (parseMethodDescriptor y.desc).map (fun d => d.parameters.length) = some n) (hq : ks[q]? = some (0, ci)) (hn : As.length = n) (hst : Bs = As.reverse) (hcat : (st.map fun v => v.category).sum ≤ 8) (hR : xRm R D KC KS) (hd1 : d < D) (hm : maxL ≤ 45) (hf : kc ≤ KC ∧ ns ≤ KS) (hL : L.length = nL)
    (hd : decode cc pc = .ok (.invokespecial i, 3)) (kk : X E p e R s m args below meth c Z kc ns σ1 ρ1 ks1 (pc + 3) L (v1 :: st)) : X E p e R s m args below meth c Z kc ns σ ρ ks pc L (Bs ++ .ref q :: st) :=
  x_callSUU C hM hws hxy hy hq hn hst hcat hR hd1 hm hf hL hd (fun r σ' ρ' ks' h => by obtain ⟨rfl, rfl, rfl, rfl⟩ := h; exact kk)
theorem x_callSUU0 (C : XC E p R s m args meth c cc own ret nL) {i q ci d D n KC KS : Nat} {x y : MethodName} {bytes : ByteArray} {maxL : Nat} {r : Option FieldType} {As Bs : List Value} {σ1 : xM} {ρ1 : xR} {ks1 : xKs}
    (hM : Sp E y (.code y bytes maxL r) d 0 0 (.ref q :: As) σ ρ ks (Fn none σ1 ρ1 ks1)) (hws : Cond.code y bytes maxL r ∈ TW ∧ Cond.methodLink own i x ∈ TW ∧ Cond.sameMethod x.cls y.cls x.name x.desc ∈ TW ∧ Cond.superclass own x.cls ∈ TW ∧ Cond.superclass x.cls y.cls ∈ TW ∧ Cond.instanceMethod y ∈ TW ∧ Cond.initialized y.cls ∈ TW)
    (hxy : x.name = y.name ∧ x.desc = y.desc) (hy : x.name ≠ "<init>" ∧ (parseMethodDescriptor y.desc).map (fun d => d.parameters.length) = some n) (hq : ks[q]? = some (0, ci)) (hn : As.length = n) (hst : Bs = As.reverse) (hcat : (st.map fun v => v.category).sum ≤ 8) (hR : xRm R D KC KS) (hd1 : d < D) (hm : maxL ≤ 45) (hf : kc ≤ KC ∧ ns ≤ KS) (hL : L.length = nL)
    (hd : decode cc pc = .ok (.invokespecial i, 3)) (kk : X E p e R s m args below meth c Z kc ns σ1 ρ1 ks1 (pc + 3) L st) : X E p e R s m args below meth c Z kc ns σ ρ ks pc L (Bs ++ .ref q :: st) :=
  x_callSUU C hM hws hxy hy hq hn hst hcat hR hd1 hm hf hL hd (fun r σ' ρ' ks' h => by obtain ⟨rfl, rfl, rfl, rfl⟩ := h; exact kk)
end XSU1
/-! the rest of the acts; calls of acts on a fan of any kind -/
set_option maxHeartbeats 4000000 in
set_option maxRecDepth 100000 in
theorem c_blows2_2 (E : xE) {σ : xM} {ρ : xR} {ks : xKs} (htk : TK ks ρ) {q : Nat} {f : Int} {z : zS} (hfz : FZ σ q f z) (hfo : FanOk z f) (hff : 0 ≤ f ∧ f < 4) (hq : ks[q]? = some (0, 2)) (hr : 0 ≤ σ 44 1 ∧ σ 44 1 ≤ 18) {x : Int} : Sp E yX2_blows kX2_blows 2 0 0 [.ref q, .int (iI x), .ref 44] σ ρ ks (Fn (some (.int (iI (bXor (x + f) f)))) (tc σ ([51] ++ [1])) ρ ks) := by
  refine x_enter (own := RX2) (L := [_, _, _]) (by decide +kernel) rfl (by exact Nat.le_of_ble_eq_true rfl) rfl (fun p e R s m args below meth c Z hZ hC hR hin => ?_)
  obtain ⟨t1, t2, t3⟩ := id htk
  have hn1 : q ≠ 44 := by rintro rfl; rw [t1] at hq; simp at hq
  have hn2 : q ≠ 45 := by rintro rfl; rw [t2] at hq; simp at hq
  obtain ⟨a0, a1, a2, a3, a4, a5, a6⟩ := id hfz
  obtain ⟨b1, b2, b3, b4, b5, b6⟩ := id hfo
  refine x_aload_n (pc := 0) hC dX2_blows_0 rfl ?_
  refine x_bipush (pc := 1) hC dX2_blows_1 (by decide +kernel) ?_
  refine x_callV0 (As := [_]) (Bs := [_]) (pc := 3) hC (c_began E htk (by omega)) wX2_26_8 pX8_began (by assumption) rfl rfl (by exact Nat.le_of_ble_eq_true rfl) hR (by decide) (by decide) (by decide) rfl dX2_blows_3 ?_
  refine x_aload_n (pc := 6) hC dX2_blows_6 rfl ?_
  refine x_iload_n (pc := 7) hC dX2_blows_7 rfl ?_
  refine x_aload_n (pc := 8) hC dX2_blows_8 rfl ?_
  refine x_callSUU1 (n := 2) (As := [_, _]) (Bs := [_, _]) (x := (⟨"OneFan$Hold", "blows", "(ILOneFan$Trace;)I"⟩ : MethodName)) (pc := 9) hC (c_blows0_2 E htk (hfz.tc hn1 hn2 _) hfo hff hq (by rw [tc_a]; simp; omega)) wX2_32 ⟨rfl, rfl⟩ (by decide +kernel) (by assumption) rfl rfl (by exact Nat.le_of_ble_eq_true rfl) hR (by decide) (by decide) (by decide) rfl dX2_blows_9 ?_
  refine x_aload_n (pc := 12) hC dX2_blows_12 rfl ?_
  refine x_geti (K := 1) (pc := 13) hC fX2_36_2 (by assumption) dX2_blows_13 rfl rfl ?_
  rw [tc_q _ _ hn1 hn2, tc_q _ _ hn1 hn2, a1]
  refine x_ixor (pc := 16) hC dX2_blows_16 ?_
  refine x_ireturn hC hZ dX2_blows_17 (by decide) (by decide) ?_
  refine ⟨rfl, ?_, rfl, rfl⟩
  rw [tc_tc]

set_option maxHeartbeats 4000000 in
set_option maxRecDepth 100000 in
theorem c_goes0_2 (E : xE) {σ : xM} {ρ : xR} {ks : xKs} (htk : TK ks ρ) {q : Nat} {f : Int} {z : zS} (hfz : FZ σ q f z) (hfo : FanOk z f) (hff : 0 ≤ f ∧ f < 4) (hq : ks[q]? = some (0, 2)) (hr : 0 ≤ σ 44 1 ∧ σ 44 1 ≤ 17) {x : Int} : Sp E yX0_goes kX0_goes 3 0 0 [.ref q, .int (iI x), .ref 44] σ ρ ks (Fn (some (.int (iI (bXor (x + f) f - z (26 + f))))) (tc σ ([2] ++ ([51] ++ [1]))) ρ ks) := by
  refine x_enter (own := RX0) (L := [_, _, _]) (by decide +kernel) rfl (by exact Nat.le_of_ble_eq_true rfl) rfl (fun p e R s m args below meth c Z hZ hC hR hin => ?_)
  obtain ⟨t1, t2, t3⟩ := id htk
  have hn1 : q ≠ 44 := by rintro rfl; rw [t1] at hq; simp at hq
  have hn2 : q ≠ 45 := by rintro rfl; rw [t2] at hq; simp at hq
  obtain ⟨a0, a1, a2, a3, a4, a5, a6⟩ := id hfz
  obtain ⟨b1, b2, b3, b4, b5, b6⟩ := id hfo
  refine x_aload_n (pc := 0) hC dX0_goes_0 rfl ?_
  refine x_iconst (pc := 1) hC dX0_goes_1 ?_
  refine x_callV0 (As := [_]) (Bs := [_]) (pc := 2) hC (c_began E htk (by omega)) wX0_36_8 pX8_began (by assumption) rfl rfl (by exact Nat.le_of_ble_eq_true rfl) hR (by decide) (by decide) (by decide) rfl dX0_goes_2 ?_
  refine x_aload_n (pc := 5) hC dX0_goes_5 rfl ?_
  refine x_iload_n (pc := 6) hC dX0_goes_6 rfl ?_
  refine x_aload_n (pc := 7) hC dX0_goes_7 rfl ?_
  refine x_callU1 (As := [_, _]) (Bs := [_, _]) (pc := 8) hC (c_blows2_2 E htk (hfz.tc hn1 hn2 _) hfo hff hq (by rw [tc_a]; simp; omega)) wX0_42_2 pX0_42_2 (by assumption) rfl rfl (by exact Nat.le_of_ble_eq_true rfl) hR (by decide) (by decide) (by decide) rfl dX0_goes_8 ?_
  refine x_aload_n (pc := 11) hC dX0_goes_11 rfl ?_
  refine x_geti (K := 2) (pc := 12) hC fX0_20_2 (by assumption) dX0_goes_12 rfl rfl ?_
  rw [tc_q _ _ hn1 hn2, tc_q _ _ hn1 hn2, a2]
  refine x_isub (pc := 15) hC dX0_goes_15 ?_
  refine x_ireturn hC hZ dX0_goes_16 (by decide) (by decide) ?_
  refine ⟨rfl, ?_, rfl, rfl⟩
  rw [tc_tc]

set_option maxHeartbeats 4000000 in
set_option maxRecDepth 100000 in
theorem c_tells0_2 (E : xE) {σ : xM} {ρ : xR} {ks : xKs} (htk : TK ks ρ) {q : Nat} {f : Int} {z : zS} (hfz : FZ σ q f z) (hfo : FanOk z f) (hff : 0 ≤ f ∧ f < 4) (hq : ks[q]? = some (0, 2)) (hr : 0 ≤ σ 44 1 ∧ σ 44 1 ≤ 14) {x : Int} : Sp E yX0_tells kX0_tells 6 0 0 [.ref q, .int (iI x), .ref 44] σ ρ ks (Fn (some (.int (iI ((bXor (x + f) f - z (26 + f)) * 2)))) (tc σ ([3] ++ ([2] ++ ([51] ++ [1])))) ρ ks) := by
  refine x_enter (own := RX0) (L := [_, _, _]) (by decide +kernel) rfl (by exact Nat.le_of_ble_eq_true rfl) rfl (fun p e R s m args below meth c Z hZ hC hR hin => ?_)
  obtain ⟨t1, t2, t3⟩ := id htk
  have hn1 : q ≠ 44 := by rintro rfl; rw [t1] at hq; simp at hq
  have hn2 : q ≠ 45 := by rintro rfl; rw [t2] at hq; simp at hq
  obtain ⟨a0, a1, a2, a3, a4, a5, a6⟩ := id hfz
  obtain ⟨b1, b2, b3, b4, b5, b6⟩ := id hfo
  refine x_aload_n (pc := 0) hC dX0_tells_0 rfl ?_
  refine x_iconst (pc := 1) hC dX0_tells_1 ?_
  refine x_callV0 (As := [_]) (Bs := [_]) (pc := 2) hC (c_began E htk (by omega)) wX0_36_8 pX8_began (by assumption) rfl rfl (by exact Nat.le_of_ble_eq_true rfl) hR (by decide) (by decide) (by decide) rfl dX0_tells_2 ?_
  refine x_aload_n (pc := 5) hC dX0_tells_5 rfl ?_
  refine x_iload_n (pc := 6) hC dX0_tells_6 rfl ?_
  refine x_aload_n (pc := 7) hC dX0_tells_7 rfl ?_
  refine x_callU1 (As := [_, _]) (Bs := [_, _]) (pc := 8) hC (c_goes0_2 E htk (hfz.tc hn1 hn2 _) hfo hff hq (by rw [tc_a]; simp; omega)) wX0_46_2 pX0_46_2 (by assumption) rfl rfl (by exact Nat.le_of_ble_eq_true rfl) hR (by decide) (by decide) (by decide) rfl dX0_tells_8 ?_
  refine x_iconst (pc := 11) hC dX0_tells_11 ?_
  refine x_imul (pc := 12) hC dX0_tells_12 ?_
  refine x_ireturn hC hZ dX0_tells_13 (by decide) (by decide) ?_
  refine ⟨rfl, ?_, rfl, rfl⟩
  rw [tc_tc]

set_option maxHeartbeats 4000000 in
set_option maxRecDepth 100000 in
theorem c_tells3_2 (E : xE) {σ : xM} {ρ : xR} {ks : xKs} (htk : TK ks ρ) {q : Nat} {f : Int} {z : zS} (hfz : FZ σ q f z) (hfo : FanOk z f) (hff : 0 ≤ f ∧ f < 4) (hq : ks[q]? = some (0, 2)) (hr : 0 ≤ σ 44 1 ∧ σ 44 1 ≤ 13) {x : Int} : Sp E yX3_tells kX3_tells 7 0 0 [.ref q, .int (iI x), .ref 44] σ ρ ks (Fn (some (.int (iI (bXor ((bXor (x + f) f - z (26 + f)) * 2) 7)))) (tc σ ([31] ++ ([3] ++ ([2] ++ ([51] ++ [1]))))) ρ ks) := by
  refine x_enter (own := RX3) (L := [_, _, _]) (by decide +kernel) rfl (by exact Nat.le_of_ble_eq_true rfl) rfl (fun p e R s m args below meth c Z hZ hC hR hin => ?_)
  obtain ⟨t1, t2, t3⟩ := id htk
  have hn1 : q ≠ 44 := by rintro rfl; rw [t1] at hq; simp at hq
  have hn2 : q ≠ 45 := by rintro rfl; rw [t2] at hq; simp at hq
  obtain ⟨a0, a1, a2, a3, a4, a5, a6⟩ := id hfz
  obtain ⟨b1, b2, b3, b4, b5, b6⟩ := id hfo
  refine x_aload_n (pc := 0) hC dX3_tells_0 rfl ?_
  refine x_bipush (pc := 1) hC dX3_tells_1 (by decide +kernel) ?_
  refine x_callV0 (As := [_]) (Bs := [_]) (pc := 3) hC (c_began E htk (by omega)) wX3_17_8 pX8_began (by assumption) rfl rfl (by exact Nat.le_of_ble_eq_true rfl) hR (by decide) (by decide) (by decide) rfl dX3_tells_3 ?_
  refine x_aload_n (pc := 6) hC dX3_tells_6 rfl ?_
  refine x_iload_n (pc := 7) hC dX3_tells_7 rfl ?_
  refine x_aload_n (pc := 8) hC dX3_tells_8 rfl ?_
  refine x_callSU1 (As := [_, _]) (Bs := [_, _]) (pc := 9) hC (c_tells0_2 E htk (hfz.tc hn1 hn2 _) hfo hff hq (by rw [tc_a]; simp; omega)) wX3_23 pX3_23 (by assumption) rfl rfl (by exact Nat.le_of_ble_eq_true rfl) hR (by decide) (by decide) (by decide) rfl dX3_tells_9 ?_
  refine x_bipush (pc := 12) hC dX3_tells_12 (by decide +kernel) ?_
  refine x_ixor (pc := 14) hC dX3_tells_14 ?_
  refine x_ireturn hC hZ dX3_tells_15 (by decide) (by decide) ?_
  refine ⟨rfl, ?_, rfl, rfl⟩
  rw [tc_tc]

set_option maxHeartbeats 4000000 in
set_option maxRecDepth 100000 in
theorem c_tells10_10 (E : xE) {σ : xM} {ρ : xR} {ks : xKs} (htk : TK ks ρ) {q : Nat} {f : Int} {z : zS} (hfz : FZ σ q f z) (hfo : FanOk z f) (hff : 0 ≤ f ∧ f < 4) (hq : ks[q]? = some (0, 10)) (hr : 0 ≤ σ 44 1 ∧ σ 44 1 ≤ 8) {x : Int} : Sp E yX10_tells kX10_tells 7 0 0 [.ref q, .int (iI x), .ref 44] σ ρ ks (Fn (some (.int (iI (((x - 1) * 3 + f - z (26 + f)) * 2 + (2 * 3 + f))))) (tc σ ([41] ++ (([3] ++ ([2] ++ ([11] ++ [1]))) ++ ([11] ++ [1])))) ρ ks) := by
  refine x_enter (own := RX10) (L := [_, _, _]) (by decide +kernel) rfl (by exact Nat.le_of_ble_eq_true rfl) rfl (fun p e R s m args below meth c Z hZ hC hR hin => ?_)
  obtain ⟨t1, t2, t3⟩ := id htk
  have hn1 : q ≠ 44 := by rintro rfl; rw [t1] at hq; simp at hq
  have hn2 : q ≠ 45 := by rintro rfl; rw [t2] at hq; simp at hq
  obtain ⟨a0, a1, a2, a3, a4, a5, a6⟩ := id hfz
  obtain ⟨b1, b2, b3, b4, b5, b6⟩ := id hfo
  refine x_aload_n (pc := 0) hC dX10_tells_0 rfl ?_
  refine x_bipush (pc := 1) hC dX10_tells_1 (by decide +kernel) ?_
  refine x_callV0 (As := [_]) (Bs := [_]) (pc := 3) hC (c_began E htk (by omega)) wX10_25_8 pX8_began (by assumption) rfl rfl (by exact Nat.le_of_ble_eq_true rfl) hR (by decide) (by decide) (by decide) rfl dX10_tells_3 ?_
  refine x_aload_n (pc := 6) hC dX10_tells_6 rfl ?_
  refine x_iload_n (pc := 7) hC dX10_tells_7 rfl ?_
  refine x_iconst (pc := 8) hC dX10_tells_8 ?_
  refine x_isub (pc := 9) hC dX10_tells_9 ?_
  refine x_aload_n (pc := 10) hC dX10_tells_10 rfl ?_
  refine x_callSUU1 (n := 2) (As := [_, _]) (Bs := [_, _]) (x := (⟨"OneFan$Swing", "tells", "(ILOneFan$Trace;)I"⟩ : MethodName)) (pc := 11) hC (c_tells0_10 E htk (hfz.tc hn1 hn2 _) hfo hff hq (by rw [tc_a]; simp; omega)) wX10_31 ⟨rfl, rfl⟩ (by decide +kernel) (by assumption) rfl rfl (by exact Nat.le_of_ble_eq_true rfl) hR (by decide) (by decide) (by decide) rfl dX10_tells_11 ?_
  refine x_aload_n (pc := 14) hC dX10_tells_14 rfl ?_
  refine x_iconst (pc := 15) hC dX10_tells_15 ?_
  refine x_aload_n (pc := 16) hC dX10_tells_16 rfl ?_
  refine x_callU1 (As := [_, _]) (Bs := [_, _]) (pc := 17) hC (c_blows6_10 E htk ((hfz.tc hn1 hn2 _).tc hn1 hn2 _) hfo hff hq (by rw [tc_a, tc_a]; simp; omega)) wX10_35_10 pX10_35_10 (by assumption) rfl rfl (by exact Nat.le_of_ble_eq_true rfl) hR (by decide) (by decide) (by decide) rfl dX10_tells_17 ?_
  refine x_iadd (pc := 20) hC dX10_tells_20 ?_
  refine x_ireturn hC hZ dX10_tells_21 (by decide) (by decide) ?_
  refine ⟨rfl, ?_, rfl, rfl⟩
  rw [tc_tc, tc_tc, List.append_assoc]

theorem x_fanX11_253 {E : xE} {p : Program} {e : Env} {R : Room} {s : State} {m : MethodId} {args : Array Value} {below : List Frame} {meth : Method} {c : Code} {Z : State → Prop} {kc ns : Nat} {σ : xM} {ρ : xR} {ks : xKs} {pc : Nat} {L : List (Option Value)} {st : List Value} {cc : ByteArray} {ret : Option FieldType} {nL : Nat} (C : XC E p R s m args meth c cc RX11 ret nL) (htk : TK ks ρ) {q : Nat} {f : Int} {z : zS} (hfa : FanAt σ ρ ks q f z) (hfo : FanOk z f) (hff : 0 ≤ f ∧ f < 4) (hr : 0 ≤ σ 44 1 ∧ σ 44 1 ≤ 8) {x : Int} {D KC KS : Nat} (hR : xRm R D KC KS) (hD : 2 < D) (hcat : (st.map fun v => v.category).sum ≤ 8) (hf : kc ≤ KC ∧ ns ≤ KS) (hL : L.length = nL) (hd : decode cc pc = .ok (.invokevirtual 253, 3))
    (kk : X E p e R s m args below meth c Z kc ns (tc σ (blowsT (z (22 + f)))) ρ ks (pc + 3) L (.int (iI (blowsV (z (22 + f)) f x)) :: st)) : X E p e R s m args below meth c Z kc ns σ ρ ks pc L (.ref 44 :: .int (iI x) :: .ref q :: st) := by
  obtain ⟨hq, hfz, htz⟩ := hfa
  obtain ⟨hk0, -⟩ := id hfo
  rcases (show z (22 + f) = 0 ∨ z (22 + f) = 1 ∨ z (22 + f) = 2 ∨ z (22 + f) = 3 ∨ z (22 + f) = 4 ∨ z (22 + f) = 5 ∨ z (22 + f) = 6 by omega) with hkd | hkd | hkd | hkd | hkd | hkd | hkd
  · have hq2 : ks[q]? = some (0, 0) := by rw [hq, hkd]; rfl
    exact x_callV1 (As := [_, _]) (Bs := [_, _]) C (c_blows0_0 E htk hfz hfo hff hq2 (by omega)) wX11_253_0 pX0_blows hq2 rfl rfl hcat hR (by omega) (by decide) hf hL hd (by rw [hkd] at kk; exact kk)
  · have hq2 : ks[q]? = some (0, 6) := by rw [hq, hkd]; rfl
    exact x_callU1 (As := [_, _]) (Bs := [_, _]) C (c_blows6_6 E htk hfz hfo hff hq2 (by omega)) wX11_253_6 pX11_253_6 hq2 rfl rfl hcat hR (by omega) (by decide) hf hL hd (by rw [hkd] at kk; exact kk)
  · have hq2 : ks[q]? = some (0, 9) := by rw [hq, hkd]; rfl
    exact x_callU1 (As := [_, _]) (Bs := [_, _]) C (c_blows0_9 E htk hfz hfo hff hq2 (by omega)) wX11_253_9 pX11_253_9 hq2 rfl rfl hcat hR (by omega) (by decide) hf hL hd (by rw [hkd] at kk; exact kk)
  · have hq2 : ks[q]? = some (0, 3) := by rw [hq, hkd]; rfl
    exact x_callU1 (As := [_, _]) (Bs := [_, _]) C (c_blows0_3 E htk hfz hfo hff hq2 (by omega)) wX11_253_3 pX11_253_3 hq2 rfl rfl hcat hR (by omega) (by decide) hf hL hd (by rw [hkd] at kk; exact kk)
  · have hq2 : ks[q]? = some (0, 10) := by rw [hq, hkd]; rfl
    exact x_callU1 (As := [_, _]) (Bs := [_, _]) C (c_blows6_10 E htk hfz hfo hff hq2 (by omega)) wX11_253_10 pX11_253_10 hq2 rfl rfl hcat hR (by omega) (by decide) hf hL hd (by rw [hkd] at kk; exact kk)
  · have hq2 : ks[q]? = some (0, 2) := by rw [hq, hkd]; rfl
    exact x_callU1 (As := [_, _]) (Bs := [_, _]) C (c_blows2_2 E htk hfz hfo hff hq2 (by omega)) wX11_253_2 pX11_253_2 hq2 rfl rfl hcat hR (by omega) (by decide) hf hL hd (by rw [hkd] at kk; exact kk)
  · have hq2 : ks[q]? = some (0, 7) := by rw [hq, hkd]; rfl
    exact x_callU1 (As := [_, _]) (Bs := [_, _]) C (c_blows0_7 E htk hfz hfo hff hq2 (by omega)) wX11_253_7 pX11_253_7 hq2 rfl rfl hcat hR (by omega) (by decide) hf hL hd (by rw [hkd] at kk; exact kk)
theorem x_fanX11_257 {E : xE} {p : Program} {e : Env} {R : Room} {s : State} {m : MethodId} {args : Array Value} {below : List Frame} {meth : Method} {c : Code} {Z : State → Prop} {kc ns : Nat} {σ : xM} {ρ : xR} {ks : xKs} {pc : Nat} {L : List (Option Value)} {st : List Value} {cc : ByteArray} {ret : Option FieldType} {nL : Nat} (C : XC E p R s m args meth c cc RX11 ret nL) (htk : TK ks ρ) {q : Nat} {f : Int} {z : zS} (hfa : FanAt σ ρ ks q f z) (hfo : FanOk z f) (hff : 0 ≤ f ∧ f < 4) (hr : 0 ≤ σ 44 1 ∧ σ 44 1 ≤ 8) {x : Int} {D KC KS : Nat} (hR : xRm R D KC KS) (hD : 5 < D) (hcat : (st.map fun v => v.category).sum ≤ 8) (hf : kc ≤ KC ∧ ns ≤ KS) (hL : L.length = nL) (hd : decode cc pc = .ok (.invokevirtual 257, 3))
    (kk : X E p e R s m args below meth c Z kc ns (tc σ (goesT (z (22 + f)))) ρ ks (pc + 3) L (.int (iI (goesV (z (22 + f)) f (z (26 + f)) x)) :: st)) : X E p e R s m args below meth c Z kc ns σ ρ ks pc L (.ref 44 :: .int (iI x) :: .ref q :: st) := by
  obtain ⟨hq, hfz, htz⟩ := hfa
  obtain ⟨hk0, -⟩ := id hfo
  rcases (show z (22 + f) = 0 ∨ z (22 + f) = 1 ∨ z (22 + f) = 2 ∨ z (22 + f) = 3 ∨ z (22 + f) = 4 ∨ z (22 + f) = 5 ∨ z (22 + f) = 6 by omega) with hkd | hkd | hkd | hkd | hkd | hkd | hkd
  · have hq2 : ks[q]? = some (0, 0) := by rw [hq, hkd]; rfl
    exact x_callV1 (As := [_, _]) (Bs := [_, _]) C (c_goes0_0 E htk hfz hfo hff hq2 (by omega)) wX11_257_0 pX0_goes hq2 rfl rfl hcat hR (by omega) (by decide) hf hL hd (by rw [hkd] at kk; exact kk)
  · have hq2 : ks[q]? = some (0, 6) := by rw [hq, hkd]; rfl
    exact x_callU1 (As := [_, _]) (Bs := [_, _]) C (c_goes0_6 E htk hfz hfo hff hq2 (by omega)) wX11_257_6 pX11_257_6 hq2 rfl rfl hcat hR (by omega) (by decide) hf hL hd (by rw [hkd] at kk; exact kk)
  · have hq2 : ks[q]? = some (0, 9) := by rw [hq, hkd]; rfl
    exact x_callU1 (As := [_, _]) (Bs := [_, _]) C (c_goes9_9 E htk hfz hfo hff hq2 (by omega)) wX11_257_9 pX11_257_9 hq2 rfl rfl hcat hR (by omega) (by decide) hf hL hd (by rw [hkd] at kk; exact kk)
  · have hq2 : ks[q]? = some (0, 3) := by rw [hq, hkd]; rfl
    exact x_callU1 (As := [_, _]) (Bs := [_, _]) C (c_goes0_3 E htk hfz hfo hff hq2 (by omega)) wX11_257_3 pX11_257_3 hq2 rfl rfl hcat hR (by omega) (by decide) hf hL hd (by rw [hkd] at kk; exact kk)
  · have hq2 : ks[q]? = some (0, 10) := by rw [hq, hkd]; rfl
    exact x_callU1 (As := [_, _]) (Bs := [_, _]) C (c_goes0_10 E htk hfz hfo hff hq2 (by omega)) wX11_257_10 pX11_257_10 hq2 rfl rfl hcat hR (by omega) (by decide) hf hL hd (by rw [hkd] at kk; exact kk)
  · have hq2 : ks[q]? = some (0, 2) := by rw [hq, hkd]; rfl
    exact x_callU1 (As := [_, _]) (Bs := [_, _]) C (c_goes0_2 E htk hfz hfo hff hq2 (by omega)) wX11_257_2 pX11_257_2 hq2 rfl rfl hcat hR (by omega) (by decide) hf hL hd (by rw [hkd] at kk; exact kk)
  · have hq2 : ks[q]? = some (0, 7) := by rw [hq, hkd]; rfl
    exact x_callU1 (As := [_, _]) (Bs := [_, _]) C (c_goes7_7 E htk hfz hfo hff hq2 (by omega)) wX11_257_7 pX11_257_7 hq2 rfl rfl hcat hR (by omega) (by decide) hf hL hd (by rw [hkd] at kk; exact kk)
theorem x_fanX11_260 {E : xE} {p : Program} {e : Env} {R : Room} {s : State} {m : MethodId} {args : Array Value} {below : List Frame} {meth : Method} {c : Code} {Z : State → Prop} {kc ns : Nat} {σ : xM} {ρ : xR} {ks : xKs} {pc : Nat} {L : List (Option Value)} {st : List Value} {cc : ByteArray} {ret : Option FieldType} {nL : Nat} (C : XC E p R s m args meth c cc RX11 ret nL) (htk : TK ks ρ) {q : Nat} {f : Int} {z : zS} (hfa : FanAt σ ρ ks q f z) (hfo : FanOk z f) (hff : 0 ≤ f ∧ f < 4) (hr : 0 ≤ σ 44 1 ∧ σ 44 1 ≤ 8) {x : Int} {D KC KS : Nat} (hR : xRm R D KC KS) (hD : 7 < D) (hcat : (st.map fun v => v.category).sum ≤ 8) (hf : kc ≤ KC ∧ ns ≤ KS) (hL : L.length = nL) (hd : decode cc pc = .ok (.invokevirtual 260, 3))
    (kk : X E p e R s m args below meth c Z kc ns (tc σ (tellsT (z (22 + f)))) ρ ks (pc + 3) L (.int (iI (tellsV (z (22 + f)) f (z (26 + f)) x)) :: st)) : X E p e R s m args below meth c Z kc ns σ ρ ks pc L (.ref 44 :: .int (iI x) :: .ref q :: st) := by
  obtain ⟨hq, hfz, htz⟩ := hfa
  obtain ⟨hk0, -⟩ := id hfo
  rcases (show z (22 + f) = 0 ∨ z (22 + f) = 1 ∨ z (22 + f) = 2 ∨ z (22 + f) = 3 ∨ z (22 + f) = 4 ∨ z (22 + f) = 5 ∨ z (22 + f) = 6 by omega) with hkd | hkd | hkd | hkd | hkd | hkd | hkd
  · have hq2 : ks[q]? = some (0, 0) := by rw [hq, hkd]; rfl
    exact x_callV1 (As := [_, _]) (Bs := [_, _]) C (c_tells0_0 E htk hfz hfo hff hq2 (by omega)) wX11_260_0 pX0_tells hq2 rfl rfl hcat hR (by omega) (by decide) hf hL hd (by rw [hkd] at kk; exact kk)
  · have hq2 : ks[q]? = some (0, 6) := by rw [hq, hkd]; rfl
    exact x_callU1 (As := [_, _]) (Bs := [_, _]) C (c_tells0_6 E htk hfz hfo hff hq2 (by omega)) wX11_260_6 pX11_260_6 hq2 rfl rfl hcat hR (by omega) (by decide) hf hL hd (by rw [hkd] at kk; exact kk)
  · have hq2 : ks[q]? = some (0, 9) := by rw [hq, hkd]; rfl
    exact x_callU1 (As := [_, _]) (Bs := [_, _]) C (c_tells0_9 E htk hfz hfo hff hq2 (by omega)) wX11_260_9 pX11_260_9 hq2 rfl rfl hcat hR (by omega) (by decide) hf hL hd (by rw [hkd] at kk; exact kk)
  · have hq2 : ks[q]? = some (0, 3) := by rw [hq, hkd]; rfl
    exact x_callU1 (As := [_, _]) (Bs := [_, _]) C (c_tells3_3 E htk hfz hfo hff hq2 (by omega)) wX11_260_3 pX11_260_3 hq2 rfl rfl hcat hR (by omega) (by decide) hf hL hd (by rw [hkd] at kk; exact kk)
  · have hq2 : ks[q]? = some (0, 10) := by rw [hq, hkd]; rfl
    exact x_callU1 (As := [_, _]) (Bs := [_, _]) C (c_tells10_10 E htk hfz hfo hff hq2 (by omega)) wX11_260_10 pX11_260_10 hq2 rfl rfl hcat hR (by omega) (by decide) hf hL hd (by rw [hkd] at kk; exact kk)
  · have hq2 : ks[q]? = some (0, 2) := by rw [hq, hkd]; rfl
    exact x_callU1 (As := [_, _]) (Bs := [_, _]) C (c_tells3_2 E htk hfz hfo hff hq2 (by omega)) wX11_260_2 pX11_260_2 hq2 rfl rfl hcat hR (by omega) (by decide) hf hL hd (by rw [hkd] at kk; exact kk)
  · have hq2 : ks[q]? = some (0, 7) := by rw [hq, hkd]; rfl
    exact x_callU1 (As := [_, _]) (Bs := [_, _]) C (c_tells0_7 E htk hfz hfo hff hq2 (by omega)) wX11_260_7 pX11_260_7 hq2 rfl rfl hcat hR (by omega) (by decide) hf hL hd (by rw [hkd] at kk; exact kk)
theorem bI_iff {P Q : Prop} [Decidable P] [Decidable Q] (h : P ↔ Q) : bI P = bI Q := by unfold bI; by_cases hp : P <;> simp [hp, ← h]
theorem x_fanX11_ISONE {E : xE} {p : Program} {e : Env} {R : Room} {s : State} {m : MethodId} {args : Array Value} {below : List Frame} {meth : Method} {c : Code} {Z : State → Prop} {kc ns : Nat} {σ : xM} {ρ : xR} {ks : xKs} {pc : Nat} {L : List (Option Value)} {st : List Value} {cc : ByteArray} {ret : Option FieldType} {nL : Nat} (C : XC E p R s m args meth c cc RX11 ret nL) {q : Nat} {f : Int} {z : zS} (hfa : FanAt σ ρ ks q f z) (hfo : FanOk z f) {k : Int} (hk0 : rg k) {D KC KS : Nat} (hR : xRm R D KC KS) (hD : 2 < D) (hcat : (st.map fun v => v.category).sum ≤ 8) (hf : kc ≤ KC ∧ ns ≤ KS) (hL : L.length = nL) (hd : decode cc pc = .ok (.invokevirtual 269, 3))
    (kk : X E p e R s m args below meth c Z kc ns σ ρ ks (pc + 3) L (.int (iI (bI (k = 0 ∨ k = z (22 + f) ∨ (z (22 + f) = 4 ∧ k = 1) ∨ (z (22 + f) = 5 ∧ k = 3) ∨ (z (22 + f) = 6 ∧ k = 2)))) :: st)) : X E p e R s m args below meth c Z kc ns σ ρ ks pc L (.int (iI k) :: .ref q :: st) := by
  obtain ⟨hq, hfz, htz⟩ := hfa
  obtain ⟨hkk, -⟩ := id hfo
  rcases (show z (22 + f) = 0 ∨ z (22 + f) = 1 ∨ z (22 + f) = 2 ∨ z (22 + f) = 3 ∨ z (22 + f) = 4 ∨ z (22 + f) = 5 ∨ z (22 + f) = 6 by omega) with hkd | hkd | hkd | hkd | hkd | hkd | hkd
  · have hq2 : ks[q]? = some (0, 0) := by rw [hq, hkd]; rfl
    rw [hkd, bI_iff (Q := k = 0) (by omega)] at kk
    exact x_callV1 (As := [_]) (Bs := [_]) C (c_isOne0_0 E hk0 hq2) wX11_269_0 pX0_isOne hq2 rfl rfl hcat hR (by omega) (by decide) hf hL hd kk
  · have hq2 : ks[q]? = some (0, 6) := by rw [hq, hkd]; rfl
    rw [hkd, bI_iff (Q := k = 1 ∨ k = 0) (by omega)] at kk
    exact x_callU1 (As := [_]) (Bs := [_]) C (c_isOne1_6 E hk0 hq2) wX11_269_6 pX11_269_6 hq2 rfl rfl hcat hR (by omega) (by decide) hf hL hd kk
  · have hq2 : ks[q]? = some (0, 9) := by rw [hq, hkd]; rfl
    rw [hkd, bI_iff (Q := k = 2 ∨ k = 0) (by omega)] at kk
    exact x_callU1 (As := [_]) (Bs := [_]) C (c_isOne2_9 E hk0 hq2) wX11_269_9 pX11_269_9 hq2 rfl rfl hcat hR (by omega) (by decide) hf hL hd kk
  · have hq2 : ks[q]? = some (0, 3) := by rw [hq, hkd]; rfl
    rw [hkd, bI_iff (Q := k = 3 ∨ k = 0) (by omega)] at kk
    exact x_callU1 (As := [_]) (Bs := [_]) C (c_isOne3_3 E hk0 hq2) wX11_269_3 pX11_269_3 hq2 rfl rfl hcat hR (by omega) (by decide) hf hL hd kk
  · have hq2 : ks[q]? = some (0, 10) := by rw [hq, hkd]; rfl
    rw [hkd, bI_iff (Q := k = 4 ∨ k = 1 ∨ k = 0) (by omega)] at kk
    exact x_callU1 (As := [_]) (Bs := [_]) C (c_isOne4_10 E hk0 hq2) wX11_269_10 pX11_269_10 hq2 rfl rfl hcat hR (by omega) (by decide) hf hL hd kk
  · have hq2 : ks[q]? = some (0, 2) := by rw [hq, hkd]; rfl
    rw [hkd, bI_iff (Q := k = 5 ∨ k = 3 ∨ k = 0) (by omega)] at kk
    exact x_callU1 (As := [_]) (Bs := [_]) C (c_isOne5_2 E hk0 hq2) wX11_269_2 pX11_269_2 hq2 rfl rfl hcat hR (by omega) (by decide) hf hL hd kk
  · have hq2 : ks[q]? = some (0, 7) := by rw [hq, hkd]; rfl
    rw [hkd, bI_iff (Q := k = 6 ∨ k = 2 ∨ k = 0) (by omega)] at kk
    exact x_callU1 (As := [_]) (Bs := [_]) C (c_isOne6_7 E hk0 hq2) wX11_269_7 pX11_269_7 hq2 rfl rfl hcat hR (by omega) (by decide) hf hL hd kk