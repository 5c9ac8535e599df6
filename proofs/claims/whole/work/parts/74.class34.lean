/-! fans as others; copies of fans -/
set_option maxHeartbeats 4000000 in
set_option maxRecDepth 100000 in
theorem c_res0_0 (E : xE) {σ : xM} {ρ : xR} {ks : xKs} {q o : Nat} (hq : ks[q]? = some (0, 0)) (ho : ks[o]? = some (0, 0)) (hb : σ o 6 = 0 ∨ σ o 6 = 1) : Sp E yX0_resemble kX0_resemble 0 0 0 [.ref q, .ref o] σ ρ ks (Fn none (wr σ q 6 (σ o 6)) ρ ks) := by
  refine x_enter (own := RX0) (L := [_, _]) (by decide +kernel) rfl (by exact Nat.le_of_ble_eq_true rfl) rfl (fun p e R s m args below meth c Z hZ hC hR hin => ?_)
  refine x_aload_n (pc := 0) hC dX0_resemble_0 rfl ?_
  refine x_aload_n (pc := 1) hC dX0_resemble_1 rfl ?_
  refine x_geti (K := 6) (pc := 2) hC fX0_7_0 (by assumption) dX0_resemble_2 rfl rfl ?_
  refine x_putz (K := 6) (pc := 5) hC rfl fX0_7_0 rfl (by assumption) dX0_resemble_5 rfl (by omega) ?_
  refine x_return hC hZ dX0_resemble_8 (by decide) (by decide) ?_
  exact ⟨rfl, rfl, rfl, rfl⟩

set_option maxHeartbeats 4000000 in
set_option maxRecDepth 100000 in
theorem c_res0_2 (E : xE) {σ : xM} {ρ : xR} {ks : xKs} {q o : Nat} (hq : ks[q]? = some (0, 2)) (ho : ks[o]? = some (0, 2)) (hb : σ o 6 = 0 ∨ σ o 6 = 1) : Sp E yX0_resemble kX0_resemble 0 0 0 [.ref q, .ref o] σ ρ ks (Fn none (wr σ q 6 (σ o 6)) ρ ks) := by
  refine x_enter (own := RX0) (L := [_, _]) (by decide +kernel) rfl (by exact Nat.le_of_ble_eq_true rfl) rfl (fun p e R s m args below meth c Z hZ hC hR hin => ?_)
  refine x_aload_n (pc := 0) hC dX0_resemble_0 rfl ?_
  refine x_aload_n (pc := 1) hC dX0_resemble_1 rfl ?_
  refine x_geti (K := 6) (pc := 2) hC fX0_7_2 (by assumption) dX0_resemble_2 rfl rfl ?_
  refine x_putz (K := 6) (pc := 5) hC rfl fX0_7_2 rfl (by assumption) dX0_resemble_5 rfl (by omega) ?_
  refine x_return hC hZ dX0_resemble_8 (by decide) (by decide) ?_
  exact ⟨rfl, rfl, rfl, rfl⟩

set_option maxHeartbeats 4000000 in
set_option maxRecDepth 100000 in
theorem c_res0_3 (E : xE) {σ : xM} {ρ : xR} {ks : xKs} {q o : Nat} (hq : ks[q]? = some (0, 3)) (ho : ks[o]? = some (0, 3)) (hb : σ o 6 = 0 ∨ σ o 6 = 1) : Sp E yX0_resemble kX0_resemble 0 0 0 [.ref q, .ref o] σ ρ ks (Fn none (wr σ q 6 (σ o 6)) ρ ks) := by
  refine x_enter (own := RX0) (L := [_, _]) (by decide +kernel) rfl (by exact Nat.le_of_ble_eq_true rfl) rfl (fun p e R s m args below meth c Z hZ hC hR hin => ?_)
  refine x_aload_n (pc := 0) hC dX0_resemble_0 rfl ?_
  refine x_aload_n (pc := 1) hC dX0_resemble_1 rfl ?_
  refine x_geti (K := 6) (pc := 2) hC fX0_7_3 (by assumption) dX0_resemble_2 rfl rfl ?_
  refine x_putz (K := 6) (pc := 5) hC rfl fX0_7_3 rfl (by assumption) dX0_resemble_5 rfl (by omega) ?_
  refine x_return hC hZ dX0_resemble_8 (by decide) (by decide) ?_
  exact ⟨rfl, rfl, rfl, rfl⟩

set_option maxHeartbeats 4000000 in
set_option maxRecDepth 100000 in
theorem c_res0_6 (E : xE) {σ : xM} {ρ : xR} {ks : xKs} {q o : Nat} (hq : ks[q]? = some (0, 6)) (ho : ks[o]? = some (0, 6)) (hb : σ o 6 = 0 ∨ σ o 6 = 1) : Sp E yX0_resemble kX0_resemble 0 0 0 [.ref q, .ref o] σ ρ ks (Fn none (wr σ q 6 (σ o 6)) ρ ks) := by
  refine x_enter (own := RX0) (L := [_, _]) (by decide +kernel) rfl (by exact Nat.le_of_ble_eq_true rfl) rfl (fun p e R s m args below meth c Z hZ hC hR hin => ?_)
  refine x_aload_n (pc := 0) hC dX0_resemble_0 rfl ?_
  refine x_aload_n (pc := 1) hC dX0_resemble_1 rfl ?_
  refine x_geti (K := 6) (pc := 2) hC fX0_7_6 (by assumption) dX0_resemble_2 rfl rfl ?_
  refine x_putz (K := 6) (pc := 5) hC rfl fX0_7_6 rfl (by assumption) dX0_resemble_5 rfl (by omega) ?_
  refine x_return hC hZ dX0_resemble_8 (by decide) (by decide) ?_
  exact ⟨rfl, rfl, rfl, rfl⟩

set_option maxHeartbeats 4000000 in
set_option maxRecDepth 100000 in
theorem c_res0_7 (E : xE) {σ : xM} {ρ : xR} {ks : xKs} {q o : Nat} (hq : ks[q]? = some (0, 7)) (ho : ks[o]? = some (0, 7)) (hb : σ o 6 = 0 ∨ σ o 6 = 1) : Sp E yX0_resemble kX0_resemble 0 0 0 [.ref q, .ref o] σ ρ ks (Fn none (wr σ q 6 (σ o 6)) ρ ks) := by
  refine x_enter (own := RX0) (L := [_, _]) (by decide +kernel) rfl (by exact Nat.le_of_ble_eq_true rfl) rfl (fun p e R s m args below meth c Z hZ hC hR hin => ?_)
  refine x_aload_n (pc := 0) hC dX0_resemble_0 rfl ?_
  refine x_aload_n (pc := 1) hC dX0_resemble_1 rfl ?_
  refine x_geti (K := 6) (pc := 2) hC fX0_7_7 (by assumption) dX0_resemble_2 rfl rfl ?_
  refine x_putz (K := 6) (pc := 5) hC rfl fX0_7_7 rfl (by assumption) dX0_resemble_5 rfl (by omega) ?_
  refine x_return hC hZ dX0_resemble_8 (by decide) (by decide) ?_
  exact ⟨rfl, rfl, rfl, rfl⟩

set_option maxHeartbeats 4000000 in
set_option maxRecDepth 100000 in
theorem c_res0_9 (E : xE) {σ : xM} {ρ : xR} {ks : xKs} {q o : Nat} (hq : ks[q]? = some (0, 9)) (ho : ks[o]? = some (0, 9)) (hb : σ o 6 = 0 ∨ σ o 6 = 1) : Sp E yX0_resemble kX0_resemble 0 0 0 [.ref q, .ref o] σ ρ ks (Fn none (wr σ q 6 (σ o 6)) ρ ks) := by
  refine x_enter (own := RX0) (L := [_, _]) (by decide +kernel) rfl (by exact Nat.le_of_ble_eq_true rfl) rfl (fun p e R s m args below meth c Z hZ hC hR hin => ?_)
  refine x_aload_n (pc := 0) hC dX0_resemble_0 rfl ?_
  refine x_aload_n (pc := 1) hC dX0_resemble_1 rfl ?_
  refine x_geti (K := 6) (pc := 2) hC fX0_7_9 (by assumption) dX0_resemble_2 rfl rfl ?_
  refine x_putz (K := 6) (pc := 5) hC rfl fX0_7_9 rfl (by assumption) dX0_resemble_5 rfl (by omega) ?_
  refine x_return hC hZ dX0_resemble_8 (by decide) (by decide) ?_
  exact ⟨rfl, rfl, rfl, rfl⟩

set_option maxHeartbeats 4000000 in
set_option maxRecDepth 100000 in
theorem c_res0_10 (E : xE) {σ : xM} {ρ : xR} {ks : xKs} {q o : Nat} (hq : ks[q]? = some (0, 10)) (ho : ks[o]? = some (0, 10)) (hb : σ o 6 = 0 ∨ σ o 6 = 1) : Sp E yX0_resemble kX0_resemble 0 0 0 [.ref q, .ref o] σ ρ ks (Fn none (wr σ q 6 (σ o 6)) ρ ks) := by
  refine x_enter (own := RX0) (L := [_, _]) (by decide +kernel) rfl (by exact Nat.le_of_ble_eq_true rfl) rfl (fun p e R s m args below meth c Z hZ hC hR hin => ?_)
  refine x_aload_n (pc := 0) hC dX0_resemble_0 rfl ?_
  refine x_aload_n (pc := 1) hC dX0_resemble_1 rfl ?_
  refine x_geti (K := 6) (pc := 2) hC fX0_7_10 (by assumption) dX0_resemble_2 rfl rfl ?_
  refine x_putz (K := 6) (pc := 5) hC rfl fX0_7_10 rfl (by assumption) dX0_resemble_5 rfl (by omega) ?_
  refine x_return hC hZ dX0_resemble_8 (by decide) (by decide) ?_
  exact ⟨rfl, rfl, rfl, rfl⟩

set_option maxHeartbeats 4000000 in
set_option maxRecDepth 100000 in
theorem c_res7 (E : xE) {σ : xM} {ρ : xR} {ks : xKs} {q o a b : Nat} (hq : ks[q]? = some (0, 7)) (ho : ks[o]? = some (0, 7)) (hb : σ o 6 = 0 ∨ σ o 6 = 1) (ha : ks[a]? = some (1, 4)) (hbb : ks[b]? = some (1, 4)) (hra : ρ q 7 = some a) (hrb : ρ o 7 = some b) : Sp E yX7_resemble kX7_resemble 1 0 0 [.ref q, .ref o] σ ρ ks (Fn none (sw (wr σ q 6 (σ o 6)) a (fun j => if 0 ≤ j ∧ j < 4 then wr σ q 6 (σ o 6) b j else wr σ q 6 (σ o 6) a j)) ρ ks) := by
  refine x_enter (own := RX7) (L := [_, _, _]) (by decide +kernel) rfl (by exact Nat.le_of_ble_eq_true rfl) rfl (fun p e R s m args below meth c Z hZ hC hR hin => ?_)
  refine x_aload_n (pc := 0) hC dX7_resemble_0 rfl ?_
  refine x_aload_n (pc := 1) hC dX7_resemble_1 rfl ?_
  refine x_callSUU0 (n := 1) (As := [_]) (Bs := [_]) (x := (⟨"OneFan$Turn", "resemble", "(LOneFan$Fan;)V"⟩ : MethodName)) (pc := 2) hC (c_res0_7 E hq ho hb) wX7_13 ⟨rfl, rfl⟩ (by decide +kernel) (by assumption) rfl rfl (by exact Nat.le_of_ble_eq_true rfl) hR (by decide) (by decide) (by decide) rfl dX7_resemble_2 ?_
  refine x_aload_n (pc := 5) hC dX7_resemble_5 rfl ?_
  refine x_instY (pc := 6) hC nX7_8 (by assumption) dX7_resemble_6 ?_
  refine x_if_eq (tgt := 35) (pc := 9) hC (by omega) dX7_resemble_9 (by decide) (fun c9 => by (exfalso; omega)) (fun c9 => ?_)
  refine x_aload_n (pc := 12) hC dX7_resemble_12 rfl ?_
  refine x_cast (pc := 13) hC nX7_8 (by assumption) dX7_resemble_13 ?_
  refine x_astore_n (L' := [_, _, _]) (pc := 16) hC dX7_resemble_16 rfl rfl ?_
  refine x_aload_n (pc := 17) hC dX7_resemble_17 rfl ?_
  refine x_getr (K := 7) (pc := 18) hC fX7_7_7 (by assumption) dX7_resemble_18 rfl rfl (by assumption) ?_
  refine x_iconst (pc := 21) hC dX7_resemble_21 ?_
  refine x_aload_n (pc := 22) hC dX7_resemble_22 rfl ?_
  refine x_getr (K := 7) (pc := 23) hC fX7_7_7 (by assumption) dX7_resemble_23 rfl rfl (by assumption) ?_
  refine x_iconst (pc := 26) hC dX7_resemble_26 ?_
  refine x_aload_n (pc := 27) hC dX7_resemble_27 rfl ?_
  refine x_getr (K := 7) (pc := 28) hC fX7_7_7 (by assumption) dX7_resemble_28 rfl rfl (by assumption) ?_
  refine x_alen1 (K := 4) (pc := 31) hC (by assumption) rfl dX7_resemble_31 ?_
  refine x_copy (pc := 32) hC wX7_17 (by assumption) (by assumption) (by omega) hR (by decide) (by exact Nat.le_of_ble_eq_true rfl) rfl dX7_resemble_32 ?_
  refine x_return hC hZ dX7_resemble_35 (by decide) (by decide) ?_
  exact ⟨rfl, rfl, rfl, rfl⟩

def rsF (σ : xM) (kd : Int) (q o a b : Nat) : xM := if kd = 6 then sw (wr σ q 6 (σ o 6)) a (fun j => if 0 ≤ j ∧ j < 4 then wr σ q 6 (σ o 6) b j else wr σ q 6 (σ o 6) a j) else wr σ q 6 (σ o 6)
theorem x_fanX1_105 {E : xE} {p : Program} {e : Env} {R : Room} {s : State} {m : MethodId} {args : Array Value} {below : List Frame} {meth : Method} {c : Code} {Z : State → Prop} {kc ns : Nat} {σ : xM} {ρ : xR} {ks : xKs} {pc : Nat} {L : List (Option Value)} {st : List Value} {cc : ByteArray} {ret : Option FieldType} {nL : Nat} (C : XC E p R s m args meth c cc RX1 ret nL) {q o a b : Nat} {kd : Int} (hk0 : 0 ≤ kd ∧ kd ≤ 6) (hq : ks[q]? = some (0, kci kd)) (ho : ks[o]? = some (0, kci kd)) (hb : σ o 6 = 0 ∨ σ o 6 = 1) (h6 : kd = 6 → ks[a]? = some (1, 4) ∧ ks[b]? = some (1, 4) ∧ ρ q 7 = some a ∧ ρ o 7 = some b) {D KC KS : Nat} (hR : xRm R D KC KS) (hD : 1 < D) (hcat : (st.map fun v => v.category).sum ≤ 8) (hf : kc ≤ KC ∧ ns ≤ KS) (hL : L.length = nL) (hd : decode cc pc = .ok (.invokevirtual 105, 3))
    (kk : X E p e R s m args below meth c Z kc ns (rsF σ kd q o a b) ρ ks (pc + 3) L st) : X E p e R s m args below meth c Z kc ns σ ρ ks pc L (.ref o :: .ref q :: st) := by
  rcases (show kd = 0 ∨ kd = 1 ∨ kd = 2 ∨ kd = 3 ∨ kd = 4 ∨ kd = 5 ∨ kd = 6 by omega) with rfl | rfl | rfl | rfl | rfl | rfl | rfl
  · exact x_callV0 (As := [_]) (Bs := [_]) C (c_res0_0 E hq ho hb) wX1_105_0 pX0_resemble hq rfl rfl hcat hR (by omega) (by decide) hf hL hd kk
  · exact x_callU0 (As := [_]) (Bs := [_]) C (c_res0_6 E hq ho hb) wX1_105_6 pX1_105_6 hq rfl rfl hcat hR (by omega) (by decide) hf hL hd kk
  · exact x_callU0 (As := [_]) (Bs := [_]) C (c_res0_9 E hq ho hb) wX1_105_9 pX1_105_9 hq rfl rfl hcat hR (by omega) (by decide) hf hL hd kk
  · exact x_callU0 (As := [_]) (Bs := [_]) C (c_res0_3 E hq ho hb) wX1_105_3 pX1_105_3 hq rfl rfl hcat hR (by omega) (by decide) hf hL hd kk
  · exact x_callU0 (As := [_]) (Bs := [_]) C (c_res0_10 E hq ho hb) wX1_105_10 pX1_105_10 hq rfl rfl hcat hR (by omega) (by decide) hf hL hd kk
  · exact x_callU0 (As := [_]) (Bs := [_]) C (c_res0_2 E hq ho hb) wX1_105_2 pX1_105_2 hq rfl rfl hcat hR (by omega) (by decide) hf hL hd kk
  · exact x_callU0 (As := [_]) (Bs := [_]) C (c_res7 E hq ho hb (h6 rfl).1 (h6 rfl).2.1 (h6 rfl).2.2.1 (h6 rfl).2.2.2) wX1_105_7 pX1_105_7 hq rfl rfl hcat hR (by omega) (by decide) hf hL hd kk
theorem nk_at (ks : xKs) {kd : Int} (h : 0 ≤ kd ∧ kd ≤ 6) : (ks ++ nk kd)[ks.length]? = some (0, kci kd) ∧ (kd = 6 → (ks ++ nk kd)[ks.length + 1]? = some (1, 4)) := by
  unfold nk
  by_cases h6 : kd = 6
  · subst h6
    refine ⟨by simp [kci], fun _ => ?_⟩
    simp [List.getElem?_append]
  · rw [if_neg h6]
    exact ⟨by simp, fun h => absurd h h6⟩
theorem ap_at {ks l : xKs} {p : Nat} (h : p < ks.length) : (ks ++ l)[p]? = ks[p]? := List.getElem?_append_left h
theorem at_lt {ks : xKs} {p : Nat} {k : Nat × Nat} (h : ks[p]? = some k) : p < ks.length := (List.getElem?_eq_some_iff.mp h).1
set_option maxHeartbeats 4000000 in
set_option maxRecDepth 100000 in
theorem c_copyOf (E : xE) {σ : xM} {ρ : xR} {ks : xKs} {q : Nat} {f : Int} {z : zS} (hfa : FanAt σ ρ ks q f z) (hfo : FanOk z f) : Sp E yX1_copyOf kX1_copyOf 5 2 12 [.ref q] σ ρ ks (fun r σ' ρ' ks' => r = some (.ref ks.length) ∧ (∀ p, p < ks.length → σ' p = σ p ∧ ρ' p = ρ p) ∧ ks' = ks ++ nk (z (22 + f)) ∧ FanAt σ' ρ' ks' ks.length f z) := by
  refine x_enter (own := RX1) (L := [_, _]) (by decide +kernel) rfl (by exact Nat.le_of_ble_eq_true rfl) rfl (fun p e R s m args below meth c Z hZ hC hR hin => ?_)
  obtain ⟨hq, hfz, htz⟩ := id hfa
  obtain ⟨a0, a1, a2, a3, a4, a5, a6⟩ := id hfz
  obtain ⟨hkd, -, -, -, hon, -⟩ := id hfo
  have hci := kci_fam (z (22 + f))
  refine x_aload_n (pc := 0) hC dX1_copyOf_0 rfl ?_
  refine x_ifnonnull_r (tgt := 6) (pc := 1) hC dX1_copyOf_1 (by decide) ?_
  refine x_aload_n (pc := 6) hC dX1_copyOf_6 rfl ?_
  refine x_geti (K := 0) (pc := 7) hC (fFX1_83 _ hci) (by assumption) dX1_copyOf_7 (tF_kind _ hci) rfl ?_
  rw [a0]
  refine x_aload_n (pc := 10) hC dX1_copyOf_10 rfl ?_
  refine x_geti (K := 1) (pc := 11) hC (fFX1_86 _ hci) (by assumption) dX1_copyOf_11 (tF_number _ hci) rfl ?_
  rw [a1]
  refine x_aload_n (pc := 14) hC dX1_copyOf_14 rfl ?_
  refine x_geti (K := 2) (pc := 15) hC (fFX1_89 _ hci) (by assumption) dX1_copyOf_15 (tF_v _ hci) rfl ?_
  rw [a2]
  refine x_aload_n (pc := 18) hC dX1_copyOf_18 rfl ?_
  refine x_geti (K := 3) (pc := 19) hC (fFX1_92 _ hci) (by assumption) dX1_copyOf_19 (tF_from _ hci) rfl ?_
  rw [a3]
  refine x_aload_n (pc := 22) hC dX1_copyOf_22 rfl ?_
  refine x_geti (K := 4) (pc := 23) hC (fFX1_95 _ hci) (by assumption) dX1_copyOf_23 (tF_to _ hci) rfl ?_
  rw [a4]
  refine x_aload_n (pc := 26) hC dX1_copyOf_26 rfl ?_
  refine x_geti (K := 5) (pc := 27) hC (fFX1_98 _ hci) (by assumption) dX1_copyOf_27 (tF_pace _ hci) rfl ?_
  rw [a5]
  refine x_callSN (As := [_, _, _, _, _, _]) (Bs := [_, _, _, _, _, _]) (pc := 30) hC (c_newFan E hkd) wX1_101 pX11_newFan rfl rfl (by exact Nat.le_of_ble_eq_true rfl) hR (by decide) (by decide) (by decide) rfl dX1_copyOf_30 (fun r30 σ30 ρ30 ks30 q30 => ?_)
  obtain ⟨rfl, n1, n2, n3, n4⟩ := q30
  have hql := at_lt hq
  obtain ⟨w1, w2⟩ := nk_at ks hkd
  rw [← n2] at w1 w2
  have hq2 : ks30[q]? = some (0, kci (z (22 + f))) := by rw [n2, ap_at hql]; exact hq
  have hqs := (n1 q hql).1
  have hqr := (n1 q hql).2
  refine x_astore_n (L' := [_, _]) (pc := 33) hC dX1_copyOf_33 rfl rfl ?_
  refine x_aload_n (pc := 34) hC dX1_copyOf_34 rfl ?_
  refine x_aload_n (pc := 35) hC dX1_copyOf_35 rfl ?_
  refine x_fanX1_105 (a := ks.length + 1) (b := q + 1) (kd := z (22 + f)) (pc := 36) hC hkd w1 hq2 (by rw [hqs, a6]; exact hon) (fun h6 => ⟨w2 h6, by rw [n2, ap_at (at_lt (htz h6).1)]; exact (htz h6).1, (n4 h6).1, by rw [hqr]; exact (htz h6).2.1⟩) hR (by decide) (by exact Nat.le_of_ble_eq_true rfl) (by decide) rfl dX1_copyOf_36 ?_
  refine x_aload_n (pc := 39) hC dX1_copyOf_39 rfl ?_
  refine x_areturn hC (some _) rfl hZ dX1_copyOf_40 (by decide) (by decide) ?_
  refine ⟨rfl, fun p hp => ⟨?_, (n1 p hp).2⟩, n2, w1, ?_, fun h6 => ⟨w2 h6, (n4 h6).1, fun k k0 k1 => ?_⟩⟩
  · unfold rsF
    split
    · rw [sw_ne _ (by omega), wr_of _ (by omega)]; exact (n1 p hp).1
    · rw [wr_of _ (by omega)]; exact (n1 p hp).1
  · have hv : ∀ j, rsF σ30 (z (22 + f)) ks.length q (ks.length + 1) (q + 1) ks.length j = wr σ30 ks.length 6 (σ30 q 6) ks.length j := fun j => by
      unfold rsF
      split
      · rw [sw_ne _ (by omega)]
      · rfl
    obtain ⟨b0, b1, b2, b3, b4, b5, -⟩ := n3
    unfold FZ
    simp only [hv]
    refine ⟨?_, ?_, ?_, ?_, ?_, ?_, by rw [wr_eq, hqs]; exact a6⟩ <;> rw [wr_k _ _ _ (by decide)] <;> assumption
  · have hql1 := at_lt (htz h6).1
    unfold rsF
    rw [if_pos h6, sw_eq, if_pos ⟨k0, k1⟩, wr_of _ (by omega), (n1 (q + 1) hql1).1]
    exact (htz h6).2.2 k k0 k1
