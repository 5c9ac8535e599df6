/-! FANS: fan f of row z stands at place q; its class is by its kind: 0 Fan, 1 Swing 6, 2 Turn 9, 3 Hold 3, 4 Wide 10, 5 Handed 2, 6 Told 7 (its places at q + 1) -/
def FZ (σ : xM) (q : Nat) (f : Int) (z : zS) : Prop := σ q 0 = z (22 + f) ∧ σ q 1 = f ∧ σ q 2 = z (26 + f) ∧ σ q 3 = z (30 + f) ∧ σ q 4 = z (34 + f) ∧ σ q 5 = z (38 + f) ∧ σ q 6 = z (42 + f)
def TZ (σ : xM) (ρ : xR) (ks : xKs) (q : Nat) (f : Int) (z : zS) : Prop := ks[q + 1]? = some (1, 4) ∧ ρ q 7 = some (q + 1) ∧ ∀ k, 0 ≤ k → k < 4 → σ (q + 1) k = z (46 + 4 * f + k)
theorem swing_eq {t h : Int} (ht : 0 ≤ t) (hh : 0 < h) : t % (2 * h) = t % h + h * (t / h % 2) := by
  obtain ⟨n, rfl⟩ : ∃ n : Nat, t = n := ⟨t.toNat, by omega⟩
  obtain ⟨m, rfl⟩ : ∃ m : Nat, h = m := ⟨h.toNat, by omega⟩
  have := Nat.mod_mul (x := n) (a := m) (b := 2)
  rw [Nat.mul_comm m 2] at this
  exact_mod_cast this
set_option maxHeartbeats 4000000 in
set_option maxRecDepth 100000 in
theorem c_paces6 (E : xE) {σ : xM} {ρ : xR} {ks : xKs} {q : Nat} {f : Int} {z : zS} (hfz : FZ σ q f z) (hfo : FanOk z f) (hff : 0 ≤ f ∧ f < 4) (hq : ks[q]? = some (0, 6)) {t : Int} (ht : 0 ≤ t ∧ t < 1000000) : Sp E yX0_paces kX0_paces 0 0 0 [.ref q, .int (iI t)] σ ρ ks (Fn (some (.int (iI (t / z (38 + f))))) (σ) ρ ks) := by
  refine x_enter (own := RX0) (L := [_, _]) (by decide +kernel) rfl (by exact Nat.le_of_ble_eq_true rfl) rfl (fun p e R s m args below meth c Z hZ hC hR hin => ?_)
  obtain ⟨a0, a1, a2, a3, a4, a5, a6⟩ := id hfz
  obtain ⟨b1, b2, b3, b4, b5, b6⟩ := id hfo
  refine x_aload_n (pc := 0) hC dX0_paces_0 rfl ?_
  refine x_geti (K := 5) (pc := 1) hC fX0_29_6 (by assumption) dX0_paces_1 rfl rfl ?_
  refine x_if_le (tgt := 16) (pc := 4) hC (by omega) dX0_paces_4 (by decide) (fun c4 => by (exfalso; omega)) (fun c4 => ?_)
  refine x_iload_n (pc := 7) hC dX0_paces_7 rfl ?_
  refine x_aload_n (pc := 8) hC dX0_paces_8 rfl ?_
  refine x_geti (K := 5) (pc := 9) hC fX0_29_6 (by assumption) dX0_paces_9 rfl rfl ?_
  refine x_idiv (pc := 12) hC (by omega) dX0_paces_12 ?_
  refine x_goto (tgt := 17) (pc := 13) hC dX0_paces_13 (by decide) ?_
  refine x_ireturn hC hZ dX0_paces_17 (by decide) (by decide) ?_
  exact ⟨congrArg (fun z => some (Value.int (iI z))) (by rw [a5]), rfl, rfl, rfl⟩

set_option maxHeartbeats 4000000 in
set_option maxRecDepth 100000 in
theorem c_paces7 (E : xE) {σ : xM} {ρ : xR} {ks : xKs} {q : Nat} {f : Int} {z : zS} (hfz : FZ σ q f z) (hfo : FanOk z f) (hff : 0 ≤ f ∧ f < 4) (hq : ks[q]? = some (0, 7)) {t : Int} (ht : 0 ≤ t ∧ t < 1000000) : Sp E yX0_paces kX0_paces 0 0 0 [.ref q, .int (iI t)] σ ρ ks (Fn (some (.int (iI (t / z (38 + f))))) (σ) ρ ks) := by
  refine x_enter (own := RX0) (L := [_, _]) (by decide +kernel) rfl (by exact Nat.le_of_ble_eq_true rfl) rfl (fun p e R s m args below meth c Z hZ hC hR hin => ?_)
  obtain ⟨a0, a1, a2, a3, a4, a5, a6⟩ := id hfz
  obtain ⟨b1, b2, b3, b4, b5, b6⟩ := id hfo
  refine x_aload_n (pc := 0) hC dX0_paces_0 rfl ?_
  refine x_geti (K := 5) (pc := 1) hC fX0_29_7 (by assumption) dX0_paces_1 rfl rfl ?_
  refine x_if_le (tgt := 16) (pc := 4) hC (by omega) dX0_paces_4 (by decide) (fun c4 => by (exfalso; omega)) (fun c4 => ?_)
  refine x_iload_n (pc := 7) hC dX0_paces_7 rfl ?_
  refine x_aload_n (pc := 8) hC dX0_paces_8 rfl ?_
  refine x_geti (K := 5) (pc := 9) hC fX0_29_7 (by assumption) dX0_paces_9 rfl rfl ?_
  refine x_idiv (pc := 12) hC (by omega) dX0_paces_12 ?_
  refine x_goto (tgt := 17) (pc := 13) hC dX0_paces_13 (by decide) ?_
  refine x_ireturn hC hZ dX0_paces_17 (by decide) (by decide) ?_
  exact ⟨congrArg (fun z => some (Value.int (iI z))) (by rw [a5]), rfl, rfl, rfl⟩

set_option maxHeartbeats 4000000 in
set_option maxRecDepth 100000 in
theorem c_paces9 (E : xE) {σ : xM} {ρ : xR} {ks : xKs} {q : Nat} {f : Int} {z : zS} (hfz : FZ σ q f z) (hfo : FanOk z f) (hff : 0 ≤ f ∧ f < 4) (hq : ks[q]? = some (0, 9)) {t : Int} (ht : 0 ≤ t ∧ t < 1000000) : Sp E yX0_paces kX0_paces 0 0 0 [.ref q, .int (iI t)] σ ρ ks (Fn (some (.int (iI (t / z (38 + f))))) (σ) ρ ks) := by
  refine x_enter (own := RX0) (L := [_, _]) (by decide +kernel) rfl (by exact Nat.le_of_ble_eq_true rfl) rfl (fun p e R s m args below meth c Z hZ hC hR hin => ?_)
  obtain ⟨a0, a1, a2, a3, a4, a5, a6⟩ := id hfz
  obtain ⟨b1, b2, b3, b4, b5, b6⟩ := id hfo
  refine x_aload_n (pc := 0) hC dX0_paces_0 rfl ?_
  refine x_geti (K := 5) (pc := 1) hC fX0_29_9 (by assumption) dX0_paces_1 rfl rfl ?_
  refine x_if_le (tgt := 16) (pc := 4) hC (by omega) dX0_paces_4 (by decide) (fun c4 => by (exfalso; omega)) (fun c4 => ?_)
  refine x_iload_n (pc := 7) hC dX0_paces_7 rfl ?_
  refine x_aload_n (pc := 8) hC dX0_paces_8 rfl ?_
  refine x_geti (K := 5) (pc := 9) hC fX0_29_9 (by assumption) dX0_paces_9 rfl rfl ?_
  refine x_idiv (pc := 12) hC (by omega) dX0_paces_12 ?_
  refine x_goto (tgt := 17) (pc := 13) hC dX0_paces_13 (by decide) ?_
  refine x_ireturn hC hZ dX0_paces_17 (by decide) (by decide) ?_
  exact ⟨congrArg (fun z => some (Value.int (iI z))) (by rw [a5]), rfl, rfl, rfl⟩

set_option maxHeartbeats 4000000 in
set_option maxRecDepth 100000 in
theorem c_paces10 (E : xE) {σ : xM} {ρ : xR} {ks : xKs} {q : Nat} {f : Int} {z : zS} (hfz : FZ σ q f z) (hfo : FanOk z f) (hff : 0 ≤ f ∧ f < 4) (hq : ks[q]? = some (0, 10)) {t : Int} (ht : 0 ≤ t ∧ t < 1000000) : Sp E yX0_paces kX0_paces 0 0 0 [.ref q, .int (iI t)] σ ρ ks (Fn (some (.int (iI (t / z (38 + f))))) (σ) ρ ks) := by
  refine x_enter (own := RX0) (L := [_, _]) (by decide +kernel) rfl (by exact Nat.le_of_ble_eq_true rfl) rfl (fun p e R s m args below meth c Z hZ hC hR hin => ?_)
  obtain ⟨a0, a1, a2, a3, a4, a5, a6⟩ := id hfz
  obtain ⟨b1, b2, b3, b4, b5, b6⟩ := id hfo
  refine x_aload_n (pc := 0) hC dX0_paces_0 rfl ?_
  refine x_geti (K := 5) (pc := 1) hC fX0_29_10 (by assumption) dX0_paces_1 rfl rfl ?_
  refine x_if_le (tgt := 16) (pc := 4) hC (by omega) dX0_paces_4 (by decide) (fun c4 => by (exfalso; omega)) (fun c4 => ?_)
  refine x_iload_n (pc := 7) hC dX0_paces_7 rfl ?_
  refine x_aload_n (pc := 8) hC dX0_paces_8 rfl ?_
  refine x_geti (K := 5) (pc := 9) hC fX0_29_10 (by assumption) dX0_paces_9 rfl rfl ?_
  refine x_idiv (pc := 12) hC (by omega) dX0_paces_12 ?_
  refine x_goto (tgt := 17) (pc := 13) hC dX0_paces_13 (by decide) ?_
  refine x_ireturn hC hZ dX0_paces_17 (by decide) (by decide) ?_
  exact ⟨congrArg (fun z => some (Value.int (iI z))) (by rw [a5]), rfl, rfl, rfl⟩

set_option maxHeartbeats 4000000 in
set_option maxRecDepth 100000 in
theorem c_spot0 (E : xE) {σ : xM} {ρ : xR} {ks : xKs} {q : Nat} {f : Int} {z : zS} (hfz : FZ σ q f z) (hfo : FanOk z f) (hff : 0 ≤ f ∧ f < 4) (hq : ks[q]? = some (0, 0)) (hkd : z (22 + f) = 0) {r b : Nat} (hsk : SK ks ρ r b) (hsz : SZ σ r b z) (hsit : SitOk z) {t : Int} (ht : 0 ≤ t ∧ t < 1000000) : Sp E yX0_spot kX0_spot 1 0 0 [.ref q, .int (iI t), .ref r] σ ρ ks (Fn (some (.int (iI (isAtF z f t)))) σ ρ ks) := by
  refine x_enter (own := RX0) (L := [_, _, _]) (by decide +kernel) rfl (by exact Nat.le_of_ble_eq_true rfl) rfl (fun p e R s m args below meth c Z hZ hC hR hin => ?_)
  obtain ⟨a0, a1, a2, a3, a4, a5, a6⟩ := id hfz
  obtain ⟨b1, b2, b3, b4, b5, b6⟩ := id hfo
  refine x_aload_n (pc := 0) hC dX0_spot_0 rfl ?_
  refine x_geti (K := 3) (pc := 1) hC fX0_23_0 (by assumption) dX0_spot_1 rfl rfl ?_
  refine x_ireturn hC hZ dX0_spot_4 (by decide) (by decide) ?_
  exact ⟨congrArg (fun z => some (Value.int (iI z))) (by unfold isAtF; rw [if_neg (by omega), if_neg (by omega), if_neg (by omega), if_neg (by omega), if_neg (by omega)]; exact a3), rfl, rfl, rfl⟩

set_option maxHeartbeats 4000000 in
set_option maxRecDepth 100000 in
theorem c_spot3 (E : xE) {σ : xM} {ρ : xR} {ks : xKs} {q : Nat} {f : Int} {z : zS} (hfz : FZ σ q f z) (hfo : FanOk z f) (hff : 0 ≤ f ∧ f < 4) (hq : ks[q]? = some (0, 3)) (hkd : z (22 + f) = 3) {r b : Nat} (hsk : SK ks ρ r b) (hsz : SZ σ r b z) (hsit : SitOk z) {t : Int} (ht : 0 ≤ t ∧ t < 1000000) : Sp E yX3_spot kX3_spot 1 0 0 [.ref q, .int (iI t), .ref r] σ ρ ks (Fn (some (.int (iI (isAtF z f t)))) σ ρ ks) := by
  refine x_enter (own := RX3) (L := [_, _, _]) (by decide +kernel) rfl (by exact Nat.le_of_ble_eq_true rfl) rfl (fun p e R s m args below meth c Z hZ hC hR hin => ?_)
  obtain ⟨a0, a1, a2, a3, a4, a5, a6⟩ := id hfz
  obtain ⟨b1, b2, b3, b4, b5, b6⟩ := id hfo
  refine x_aload_n (pc := 0) hC dX3_spot_0 rfl ?_
  refine x_geti (K := 2) (pc := 1) hC fX3_11_3 (by assumption) dX3_spot_1 rfl rfl ?_
  refine x_ireturn hC hZ dX3_spot_4 (by decide) (by decide) ?_
  exact ⟨congrArg (fun z => some (Value.int (iI z))) (by unfold isAtF; rw [if_neg (by omega), if_neg (by omega), if_pos (by omega)]; exact a2), rfl, rfl, rfl⟩

set_option maxHeartbeats 4000000 in
set_option maxRecDepth 100000 in
theorem c_spot9 (E : xE) {σ : xM} {ρ : xR} {ks : xKs} {q : Nat} {f : Int} {z : zS} (hfz : FZ σ q f z) (hfo : FanOk z f) (hff : 0 ≤ f ∧ f < 4) (hq : ks[q]? = some (0, 9)) (hkd : z (22 + f) = 2) {r b : Nat} (hsk : SK ks ρ r b) (hsz : SZ σ r b z) (hsit : SitOk z) {t : Int} (ht : 0 ≤ t ∧ t < 1000000) : Sp E yX9_spot kX9_spot 1 0 0 [.ref q, .int (iI t), .ref r] σ ρ ks (Fn (some (.int (iI (isAtF z f t)))) σ ρ ks) := by
  refine x_enter (own := RX9) (L := [_, _, _, _]) (by decide +kernel) rfl (by exact Nat.le_of_ble_eq_true rfl) rfl (fun p e R s m args below meth c Z hZ hC hR hin => ?_)
  obtain ⟨a0, a1, a2, a3, a4, a5, a6⟩ := id hfz
  obtain ⟨b1, b2, b3, b4, b5, b6⟩ := id hfo
  have hd := tdiv_lt (t := t) (d := z (38 + f)) (by omega) (by omega)
  refine x_aload_n (pc := 0) hC dX9_spot_0 rfl ?_
  refine x_geti (K := 4) (pc := 1) hC fX9_11_9 (by assumption) dX9_spot_1 rfl rfl ?_
  refine x_aload_n (pc := 4) hC dX9_spot_4 rfl ?_
  refine x_geti (K := 3) (pc := 5) hC fX9_17_9 (by assumption) dX9_spot_5 rfl rfl ?_
  refine x_isub (pc := 8) hC dX9_spot_8 ?_
  refine x_iconst (pc := 9) hC dX9_spot_9 ?_
  refine x_iadd (pc := 10) hC dX9_spot_10 ?_
  refine x_istore_n (L' := [_, _, _, _]) (pc := 11) hC dX9_spot_11 rfl rfl ?_
  refine x_iload_n (pc := 12) hC dX9_spot_12 rfl ?_
  refine x_if_le (tgt := 31) (pc := 13) hC (by omega) dX9_spot_13 (by decide) (fun c13 => by (exfalso; omega)) (fun c13 => ?_)
  refine x_aload_n (pc := 16) hC dX9_spot_16 rfl ?_
  refine x_geti (K := 3) (pc := 17) hC fX9_17_9 (by assumption) dX9_spot_17 rfl rfl ?_
  refine x_aload_n (pc := 20) hC dX9_spot_20 rfl ?_
  refine x_iload_n (pc := 21) hC dX9_spot_21 rfl ?_
  refine x_callU1 (As := [_]) (Bs := [_]) (pc := 22) hC (c_paces9 E hfz hfo hff hq ht) wX9_20_9 pX9_20_9 (by assumption) rfl rfl (by exact Nat.le_of_ble_eq_true rfl) hR (by decide) (by decide) (by decide) rfl dX9_spot_22 ?_
  refine x_iload_n (pc := 25) hC dX9_spot_25 rfl ?_
  refine x_irem (pc := 26) hC (by omega) dX9_spot_26 ?_
  refine x_iadd (pc := 27) hC dX9_spot_27 ?_
  refine x_goto (tgt := 35) (pc := 28) hC dX9_spot_28 (by decide) ?_
  refine x_ireturn hC hZ dX9_spot_35 (by decide) (by decide) ?_
  exact ⟨congrArg (fun z => some (Value.int (iI z))) (by unfold isAtF; rw [if_neg (by omega), if_pos (by omega), a3, a4]), rfl, rfl, rfl⟩

set_option maxHeartbeats 4000000 in
set_option maxRecDepth 100000 in
theorem c_spot2 (E : xE) {σ : xM} {ρ : xR} {ks : xKs} {q : Nat} {f : Int} {z : zS} (hfz : FZ σ q f z) (hfo : FanOk z f) (hff : 0 ≤ f ∧ f < 4) (hq : ks[q]? = some (0, 2)) (hkd : z (22 + f) = 5) {r b : Nat} (hsk : SK ks ρ r b) (hsz : SZ σ r b z) (hsit : SitOk z) {t : Int} (ht : 0 ≤ t ∧ t < 1000000) : Sp E yX2_spot kX2_spot 1 0 0 [.ref q, .int (iI t), .ref r] σ ρ ks (Fn (some (.int (iI (isAtF z f t)))) σ ρ ks) := by
  refine x_enter (own := RX2) (L := [_, _, _]) (by decide +kernel) rfl (by exact Nat.le_of_ble_eq_true rfl) rfl (fun p e R s m args below meth c Z hZ hC hR hin => ?_)
  obtain ⟨a0, a1, a2, a3, a4, a5, a6⟩ := id hfz
  obtain ⟨b1, b2, b3, b4, b5, b6⟩ := id hfo
  obtain ⟨ko, ⟨kb0, kb1, kb2, kb3, kb4⟩, r0, r1, r2, r3, r4⟩ := id hsk
  obtain ⟨z5, zs⟩ := id hsz
  have hs14 := hsit.1
  have hd := tdiv_lt (t := t) (d := 10) (by omega) (by omega)
  refine x_aload_n (pc := 0) hC dX2_spot_0 rfl ?_
  refine x_geti (K := 5) (pc := 1) hC fX2_11_5 (by assumption) dX2_spot_1 rfl rfl ?_
  refine x_if_le (tgt := 24) (pc := 4) hC (by omega) dX2_spot_4 (by decide) (fun c4 => ?_) (fun c4 => ?_)
  · refine x_aload_n (pc := 24) hC dX2_spot_24 rfl ?_
    refine x_geti (K := 3) (pc := 25) hC fX2_21_2 (by assumption) dX2_spot_25 rfl rfl ?_
    refine x_ireturn hC hZ dX2_spot_28 (by decide) (by decide) ?_
    exact ⟨congrArg (fun z => some (Value.int (iI z))) (by unfold isAtF; rw [if_neg (by omega), if_neg (by omega), if_neg (by omega), if_pos (by omega), if_pos (by omega)]; exact a3), rfl, rfl, rfl⟩
  · have hm := emod_in (t := t / 10) (d := z 14) (by omega)
    obtain ⟨e0, e1, e2⟩ := zs (t / 10 % z 14) hm.1 hm.2
    refine x_aload_n (pc := 7) hC dX2_spot_7 rfl ?_
    refine x_getr (K := 0) (pc := 8) hC fX2_17_5 (by assumption) dX2_spot_8 rfl rfl (by assumption) ?_
    refine x_iload_n (pc := 11) hC dX2_spot_11 rfl ?_
    refine x_bipush (pc := 12) hC dX2_spot_12 (by decide +kernel) ?_
    refine x_idiv (pc := 14) hC (by omega) dX2_spot_14 ?_
    refine x_aload_n (pc := 15) hC dX2_spot_15 rfl ?_
    refine x_geti (K := 5) (pc := 16) hC fX2_11_5 (by assumption) dX2_spot_16 rfl rfl ?_
    refine x_irem (pc := 19) hC (by omega) dX2_spot_19 ?_
    rw [z5]
    refine x_iald (pc := 20) hC (by assumption) (by omega) dX2_spot_20 ?_
    refine x_goto (tgt := 28) (pc := 21) hC dX2_spot_21 (by decide) ?_
    refine x_ireturn hC hZ dX2_spot_28 (by decide) (by decide) ?_
    exact ⟨congrArg (fun z => some (Value.int (iI z))) (by unfold isAtF; rw [if_neg (by omega), if_neg (by omega), if_neg (by omega), if_pos (by omega), if_neg (by omega)]; exact e0), rfl, rfl, rfl⟩

set_option maxHeartbeats 4000000 in
set_option maxRecDepth 100000 in
theorem c_spot7 (E : xE) {σ : xM} {ρ : xR} {ks : xKs} {q : Nat} {f : Int} {z : zS} (hfz : FZ σ q f z) (hfo : FanOk z f) (hff : 0 ≤ f ∧ f < 4) (hq : ks[q]? = some (0, 7)) (hkd : z (22 + f) = 6) (htz : TZ σ ρ ks q f z) {r b : Nat} (hsk : SK ks ρ r b) (hsz : SZ σ r b z) (hsit : SitOk z) {t : Int} (ht : 0 ≤ t ∧ t < 1000000) : Sp E yX7_spot kX7_spot 1 0 0 [.ref q, .int (iI t), .ref r] σ ρ ks (Fn (some (.int (iI (isAtF z f t)))) σ ρ ks) := by
  refine x_enter (own := RX7) (L := [_, _, _]) (by decide +kernel) rfl (by exact Nat.le_of_ble_eq_true rfl) rfl (fun p e R s m args below meth c Z hZ hC hR hin => ?_)
  obtain ⟨a0, a1, a2, a3, a4, a5, a6⟩ := id hfz
  obtain ⟨b1, b2, b3, b4, b5, b6⟩ := id hfo
  obtain ⟨t1, t2, t3⟩ := id htz
  have hd := tdiv_lt (t := t) (d := z (38 + f)) (by omega) (by omega)
  have hm := emod_in (t := t / z (38 + f)) (d := 4) (by omega)
  refine x_aload_n (pc := 0) hC dX7_spot_0 rfl ?_
  refine x_getr (K := 7) (pc := 1) hC fX7_7_7 (by assumption) dX7_spot_1 rfl rfl (by assumption) ?_
  refine x_aload_n (pc := 4) hC dX7_spot_4 rfl ?_
  refine x_iload_n (pc := 5) hC dX7_spot_5 rfl ?_
  refine x_callU1 (As := [_]) (Bs := [_]) (pc := 6) hC (c_paces7 E hfz hfo hff hq ht) wX7_27_7 pX7_27_7 (by assumption) rfl rfl (by exact Nat.le_of_ble_eq_true rfl) hR (by decide) (by decide) (by decide) rfl dX7_spot_6 ?_
  refine x_aload_n (pc := 9) hC dX7_spot_9 rfl ?_
  refine x_getr (K := 7) (pc := 10) hC fX7_7_7 (by assumption) dX7_spot_10 rfl rfl (by assumption) ?_
  refine x_alen1 (K := 4) (pc := 13) hC (by assumption) rfl dX7_spot_13 ?_
  refine x_irem (pc := 14) hC (by omega) dX7_spot_14 ?_
  refine x_iald (pc := 15) hC (by assumption) (by omega) dX7_spot_15 ?_
  refine x_ireturn hC hZ dX7_spot_16 (by decide) (by decide) ?_
  exact ⟨congrArg (fun z => some (Value.int (iI z))) (by unfold isAtF; rw [if_neg (by omega), if_neg (by omega), if_neg (by omega), if_neg (by omega), if_pos (by omega)]; exact t3 _ hm.1 hm.2), rfl, rfl, rfl⟩
