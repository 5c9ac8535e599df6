/-! reading a room: the class's small ways -/
def RdK (ks : xKs) (ρ : xR) (q : Nat) : Prop := RmK ks ρ q ∧ ks[15]? = some (1, 100) ∧ ρ q 7 = some 15 ∧ 55 ≤ q
def RdH (σ : xM) (q : Nat) (z : zS) (sp en : Int) : Prop := σ q 10 = sp ∧ σ q 8 = en ∧ (∀ j, 0 ≤ j → j < en → σ 15 j = z (118 + j)) ∧ (0 ≤ en ∧ en ≤ 100) ∧ (0 ≤ sp ∧ sp ≤ en) ∧ TapeOk z
def RdS (σ g : xM) (q : Nat) (D K0 en ac : Int) (t : pT) : Prop := ((∀ p, p ≠ q → p ≠ q + 4 → σ p = g p) ∧ ∀ j, j ≠ 6 → j ≠ 9 → j ≠ 10 → σ q j = g q j) ∧ RdH σ q t.2.2.2 t.1 en ∧ σ q 6 = t.2.2.2 (228 + ac) - D ∧ (∀ j, j < K0 - D → σ (q + 4) j = g (q + 4) j) ∧ ∀ k, K0 ≤ k → k < t.2.2.2 (228 + ac) → σ (q + 4) (k - D) = trS (t.2.2.2 (243 + 140 * ac + k))
def RdW (σ g : xM) (q : Nat) (t : pT) : Prop := (∀ p, p ≠ q → p ≠ q + 4 → σ p = g p) ∧ σ q 10 = t.1
theorem RdS.w {σ g : xM} {q : Nat} {D K0 en ac : Int} {t : pT} (h : RdS σ g q D K0 en ac t) : RdW σ g q t := ⟨h.1.1, h.2.1.1⟩
theorem RdH.adv {σ : xM} {q : Nat} {z : zS} {sp en sp' : Int} (h : RdH σ q z sp en) (hq : 55 ≤ q) (hs : 0 ≤ sp' ∧ sp' ≤ en) : RdH (wr σ q 10 sp') q z sp' en := by
  obtain ⟨h1, h2, h3, h4, h5, h6⟩ := h
  exact ⟨wr_eq _ _ _ _, by rw [wr_k _ _ _ (by decide)]; exact h2, fun j j0 j1 => by rw [wr_of _ (by omega)]; exact h3 j j0 j1, h4, hs, h6⟩
theorem RdH.num {σ : xM} {q : Nat} {z : zS} {sp en n : Int} (h : RdH σ q z sp en) (hq : 55 ≤ q) : RdH (wr σ q 9 n) q z sp en := by
  obtain ⟨h1, h2, h3, h4, h5, h6⟩ := h
  exact ⟨by rw [wr_k _ _ _ (by decide)]; exact h1, by rw [wr_k _ _ _ (by decide)]; exact h2, fun j j0 j1 => by rw [wr_of _ (by omega)]; exact h3 j j0 j1, h4, h5, h6⟩
theorem RdS.adv {σ g : xM} {q : Nat} {D K0 en ac : Int} {t : pT} (h : RdS σ g q D K0 en ac t) (hq : 55 ≤ q) {sp' : Int} (hs : 0 ≤ sp' ∧ sp' ≤ en) : RdS (wr σ q 10 sp') g q D K0 en ac (sp', t.2) := by
  obtain ⟨⟨h1, h2⟩, h3, h4, h5, h6⟩ := h
  refine ⟨⟨fun p p1 p2 => by rw [wr_of _ p1]; exact h1 p p1 p2, fun j j1 j2 j3 => by rw [wr_k _ _ _ j3]; exact h2 j j1 j2 j3⟩, h3.adv hq hs, by rw [wr_k _ _ _ (by decide)]; exact h4, fun j j1 => by rw [wr_of _ (by omega)]; exact h5 j j1, fun k k0 k1 => by rw [wr_of _ (by omega)]; exact h6 k k0 k1⟩
theorem RdS.num {σ g : xM} {q : Nat} {D K0 en ac n : Int} {t : pT} (h : RdS σ g q D K0 en ac t) (hq : 55 ≤ q) : RdS (wr σ q 9 n) g q D K0 en ac t := by
  obtain ⟨⟨h1, h2⟩, h3, h4, h5, h6⟩ := h
  refine ⟨⟨fun p p1 p2 => by rw [wr_of _ p1]; exact h1 p p1 p2, fun j j1 j2 j3 => by rw [wr_k _ _ _ j2]; exact h2 j j1 j2 j3⟩, h3.num hq, by rw [wr_k _ _ _ (by decide)]; exact h4, fun j j1 => by rw [wr_of _ (by omega)]; exact h5 j j1, fun k k0 k1 => by rw [wr_of _ (by omega)]; exact h6 k k0 k1⟩
/-- the same reading, but for how many are open -/
theorem RdS.op {σ g : xM} {q : Nat} {D K0 en ac : Int} {t t' : pT} (h : RdS σ g q D K0 en ac t) (h1 : t'.1 = t.1) (h2 : t'.2.2.2 = t.2.2.2) : RdS σ g q D K0 en ac t' := by
  unfold RdS at *; rw [h1, h2]; exact h
theorem RdS.em {σ g : xM} {q : Nat} {D K0 en ac : Int} {t : pT} (h : RdS σ g q D K0 en ac t) (hq : 55 ≤ q) (ha : 0 ≤ ac ∧ ac ≤ 4) (hw : t.2.1 = 0) (hk : K0 ≤ t.2.2.2 (228 + ac)) (hK : 0 ≤ K0) {v : Int} : RdS (wr (wr σ (q + 4) (t.2.2.2 (228 + ac) - D) (trS v)) q 6 (t.2.2.2 (228 + ac) - D + 1)) g q D K0 en ac (emF ac v t) := by
  obtain ⟨⟨h1, h2⟩, ⟨a1, a2, a3, a4, a5, a6⟩, h4, h5, h6⟩ := h
  have e : emF ac v t = (t.1, 0, t.2.2.1, up (up t.2.2.2 (243 + 140 * ac + t.2.2.2 (228 + ac)) v) (228 + ac) (t.2.2.2 (228 + ac) + 1)) := if_pos hw
  rw [e]
  unfold RdS RdH
  dsimp only
  refine ⟨⟨fun p p1 p2 => by rw [wr_of _ p1, wr_of _ p2]; exact h1 p p1 p2, fun j j1 j2 j3 => by rw [wr_k _ _ _ j1, wr_of _ (by omega)]; exact h2 j j1 j2 j3⟩, ⟨by rw [wr_k _ _ _ (by decide), wr_of _ (by omega)]; exact a1, by rw [wr_k _ _ _ (by decide), wr_of _ (by omega)]; exact a2, fun j j0 j1 => by rw [wr_of _ (by omega), wr_of _ (by omega), up_ne _ (by omega), up_ne _ (by omega)]; exact a3 j j0 j1, a4, a5, fun j j0 j1 => by rw [up_ne _ (by omega), up_ne _ (by omega)]; exact a6 j j0 j1⟩, by rw [wr_eq, up_eq]; omega, fun j j1 => by rw [wr_of _ (by omega), wr_k _ _ _ (by omega)]; exact h5 j j1, fun k k0 k1 => ?_⟩
  rw [up_eq] at k1
  rw [wr_of _ (by omega), up_ne _ (by omega)]
  by_cases hkc : k = t.2.2.2 (228 + ac)
  · rw [hkc, wr_eq, up_eq]
  · rw [wr_k _ _ _ (by omega), up_ne _ (by omega)]
    exact h6 k k0 (by omega)
set_option maxHeartbeats 4000000 in
set_option maxRecDepth 100000 in
theorem c_ahead (E : xE) {σ : xM} {ρ : xR} {ks : xKs} {q : Nat} (hk : RdK ks ρ q) {z : zS} {sp en : Int} (hh : RdH σ q z sp en)  : Sp E yX4_ahead kX4_ahead 0 0 0 [.ref q] σ ρ ks (Fn (some (.int (iI (hereF z sp en)))) σ ρ ks) := by
  refine x_enter (own := RX4) (L := [_]) (by decide +kernel) rfl (by exact Nat.le_of_ble_eq_true rfl) rfl (fun p e R s m args below meth c Z hZ hC hR hin => ?_)
  obtain ⟨⟨g0, ⟨g1, g2, g3, g4, g5⟩, s0, s1, s2, s3, s4⟩, g15, s7, hq55⟩ := id hk
  obtain ⟨h10, h8, htp, hen, hsp, htk⟩ := id hh
  have hhr := here_in htk hsp.1 hen.2
  refine x_aload_n (pc := 0) hC dX4_ahead_0 rfl ?_
  refine x_getr (K := 7) (pc := 1) hC fX4_34_4 (by assumption) dX4_ahead_1 rfl rfl (by assumption) ?_
  refine x_ifnull_r (pc := 4) hC dX4_ahead_4 ?_
  refine x_aload_n (pc := 7) hC dX4_ahead_7 rfl ?_
  refine x_geti (K := 10) (pc := 8) hC fX4_43_4 (by assumption) dX4_ahead_8 rfl rfl ?_
  rw [h10]
  refine x_if_lt (tgt := 37) (pc := 11) hC (by omega) dX4_ahead_11 (by decide) (fun c11 => by (exfalso; omega)) (fun c11 => ?_)
  refine x_aload_n (pc := 14) hC dX4_ahead_14 rfl ?_
  refine x_geti (K := 10) (pc := 15) hC fX4_43_4 (by assumption) dX4_ahead_15 rfl rfl ?_
  rw [h10]
  refine x_aload_n (pc := 18) hC dX4_ahead_18 rfl ?_
  refine x_geti (K := 8) (pc := 19) hC fX4_37_4 (by assumption) dX4_ahead_19 rfl rfl ?_
  rw [h8]
  refine x_icmp_ge (tgt := 37) (pc := 22) hC (by omega) (by omega) dX4_ahead_22 (by decide) (fun c22 => ?_) (fun c22 => ?_)
  · refine x_iconst (pc := 37) hC dX4_ahead_37 ?_
    refine x_ireturn hC hZ dX4_ahead_38 (by decide) (by decide) ?_
    exact ⟨congrArg (fun z => some (Value.int (iI z))) (by unfold hereF; rw [if_neg (by omega)]), rfl, rfl, rfl⟩
  · refine x_aload_n (pc := 25) hC dX4_ahead_25 rfl ?_
    refine x_getr (K := 7) (pc := 26) hC fX4_34_4 (by assumption) dX4_ahead_26 rfl rfl (by assumption) ?_
    refine x_aload_n (pc := 29) hC dX4_ahead_29 rfl ?_
    refine x_geti (K := 10) (pc := 30) hC fX4_43_4 (by assumption) dX4_ahead_30 rfl rfl ?_
    rw [h10]
    refine x_iald (pc := 33) hC (by assumption) (by omega) dX4_ahead_33 ?_
    rw [htp sp hsp.1 (by omega)]
    refine x_goto (tgt := 38) (pc := 34) hC dX4_ahead_34 (by decide) ?_
    refine x_ireturn hC hZ dX4_ahead_38 (by decide) (by decide) ?_
    exact ⟨congrArg (fun z => some (Value.int (iI z))) (by unfold hereF; rw [if_pos (by omega)]), rfl, rfl, rfl⟩

set_option maxHeartbeats 4000000 in
set_option maxRecDepth 100000 in
theorem c_hasTaken (E : xE) {σ : xM} {ρ : xR} {ks : xKs} {q : Nat} (hk : RdK ks ρ q) {z : zS} {sp en : Int} (hh : RdH σ q z sp en) {a : Int} (ha : rg a) : Sp E yX4_hasTaken kX4_hasTaken 1 0 0 [.ref q, .int (iI a)] σ ρ ks (Fn (some (.int (iI (bI (hereF z sp en = a))))) (if hereF z sp en = a then wr σ q 10 (sp + 1) else σ) ρ ks) := by
  refine x_enter (own := RX4) (L := [_, _]) (by decide +kernel) rfl (by exact Nat.le_of_ble_eq_true rfl) rfl (fun p e R s m args below meth c Z hZ hC hR hin => ?_)
  obtain ⟨⟨g0, ⟨g1, g2, g3, g4, g5⟩, s0, s1, s2, s3, s4⟩, g15, s7, hq55⟩ := id hk
  obtain ⟨h10, h8, htp, hen, hsp, htk⟩ := id hh
  have hhr := here_in htk hsp.1 hen.2
  refine x_aload_n (pc := 0) hC dX4_hasTaken_0 rfl ?_
  refine x_callV1 (As := []) (Bs := []) (pc := 1) hC (c_ahead E hk hh) wX4_65_4 pX4_ahead (by assumption) rfl rfl (by exact Nat.le_of_ble_eq_true rfl) hR (by decide) (by decide) (by decide) rfl dX4_hasTaken_1 ?_
  refine x_iload_n (pc := 4) hC dX4_hasTaken_4 rfl ?_
  refine x_icmp_eq (tgt := 10) (pc := 5) hC (by omega) (by omega) dX4_hasTaken_5 (by decide) (fun c5 => ?_) (fun c5 => ?_)
  · refine x_aload_n (pc := 10) hC dX4_hasTaken_10 rfl ?_
    refine x_dup (pc := 11) hC dX4_hasTaken_11 rfl ?_
    refine x_geti (K := 10) (pc := 12) hC fX4_43_4 (by assumption) dX4_hasTaken_12 rfl rfl ?_
    rw [h10]
    refine x_iconst (pc := 15) hC dX4_hasTaken_15 ?_
    refine x_iadd (pc := 16) hC dX4_hasTaken_16 ?_
    refine x_puti (K := 10) (pc := 17) hC rfl fX4_43_4 rfl (by assumption) dX4_hasTaken_17 rfl ?_
    refine x_iconst (pc := 20) hC dX4_hasTaken_20 ?_
    refine x_zreturn hC hZ (by omega) dX4_hasTaken_21 (by decide) (by decide) ?_
    exact ⟨by rw [bI_t c5], by rw [if_pos c5], rfl, rfl⟩
  · refine x_iconst (pc := 8) hC dX4_hasTaken_8 ?_
    refine x_zreturn hC hZ (by omega) dX4_hasTaken_9 (by decide) (by decide) ?_
    exact ⟨by rw [bI_f c5], by rw [if_neg c5], rfl, rfl⟩

set_option maxHeartbeats 4000000 in
set_option maxRecDepth 100000 in
theorem c_isDigit (E : xE) {σ : xM} {ρ : xR} {ks : xKs} {a : Int} (ha : rg a) : Sp E yX4_isDigit kX4_isDigit 0 0 0 [.int (iI a)] σ ρ ks (Fn (some (.int (iI (bI (48 ≤ a ∧ a ≤ 57))))) σ ρ ks) := by
  refine x_enter (own := RX4) (L := [_]) (by decide +kernel) rfl (by exact Nat.le_of_ble_eq_true rfl) rfl (fun p e R s m args below meth c Z hZ hC hR hin => ?_)
  refine x_iload_n (pc := 0) hC dX4_isDigit_0 rfl ?_
  refine x_bipush (pc := 1) hC dX4_isDigit_1 (by decide +kernel) ?_
  refine x_icmp_lt (tgt := 16) (pc := 3) hC (by omega) (by omega) dX4_isDigit_3 (by decide) (fun c3 => ?_) (fun c3 => ?_)
  · refine x_iconst (pc := 16) hC dX4_isDigit_16 ?_
    refine x_zreturn hC hZ (by omega) dX4_isDigit_17 (by decide) (by decide) ?_
    exact ⟨by rw [bI_f (by omega)], rfl, rfl, rfl⟩
  · refine x_iload_n (pc := 6) hC dX4_isDigit_6 rfl ?_
    refine x_bipush (pc := 7) hC dX4_isDigit_7 (by decide +kernel) ?_
    refine x_icmp_gt (tgt := 16) (pc := 9) hC (by omega) (by omega) dX4_isDigit_9 (by decide) (fun c9 => ?_) (fun c9 => ?_)
    · refine x_iconst (pc := 16) hC dX4_isDigit_16 ?_
      refine x_zreturn hC hZ (by omega) dX4_isDigit_17 (by decide) (by decide) ?_
      exact ⟨by rw [bI_f (by omega)], rfl, rfl, rfl⟩
    · refine x_iconst (pc := 12) hC dX4_isDigit_12 ?_
      refine x_goto (tgt := 17) (pc := 13) hC dX4_isDigit_13 (by decide) ?_
      refine x_zreturn hC hZ (by omega) dX4_isDigit_17 (by decide) (by decide) ?_
      exact ⟨by rw [bI_t (by omega)], rfl, rfl, rfl⟩

set_option maxHeartbeats 4000000 in
set_option maxRecDepth 100000 in
theorem c_put (E : xE) {σ : xM} {ρ : xR} {ks : xKs} {q : Nat} (hk : RdK ks ρ q) {U v : Int} (hU : σ q 6 = U) (hU2 : 0 ≤ U ∧ U < 100) : Sp E yX4_put kX4_put 0 0 0 [.ref q, .int (iI v)] σ ρ ks (Fn none (wr (wr σ (q + 4) U v) q 6 (U + 1)) ρ ks) := by
  refine x_enter (own := RX4) (L := [_, _]) (by decide +kernel) rfl (by exact Nat.le_of_ble_eq_true rfl) rfl (fun p e R s m args below meth c Z hZ hC hR hin => ?_)
  obtain ⟨⟨g0, ⟨g1, g2, g3, g4, g5⟩, s0, s1, s2, s3, s4⟩, g15, s7, hq55⟩ := id hk
  refine x_aload_n (pc := 0) hC dX4_put_0 rfl ?_
  refine x_geti (K := 6) (pc := 1) hC fX4_31_4 (by assumption) dX4_put_1 rfl rfl ?_
  rw [hU]
  refine x_aload_n (pc := 4) hC dX4_put_4 rfl ?_
  refine x_getr (K := 3) (pc := 5) hC fX4_21_4 (by assumption) dX4_put_5 rfl rfl (by assumption) ?_
  refine x_alen1 (K := 100) (pc := 8) hC (by assumption) rfl dX4_put_8 ?_
  refine x_icmp_ge (tgt := 32) (pc := 9) hC (by omega) (by omega) dX4_put_9 (by decide) (fun c9 => by (exfalso; omega)) (fun c9 => ?_)
  refine x_aload_n (pc := 12) hC dX4_put_12 rfl ?_
  refine x_getr (K := 3) (pc := 13) hC fX4_21_4 (by assumption) dX4_put_13 rfl rfl (by assumption) ?_
  refine x_aload_n (pc := 16) hC dX4_put_16 rfl ?_
  refine x_geti (K := 6) (pc := 17) hC fX4_31_4 (by assumption) dX4_put_17 rfl rfl ?_
  rw [hU]
  refine x_iload_n (pc := 20) hC dX4_put_20 rfl ?_
  refine x_iast (pc := 21) hC (by assumption) (by omega) dX4_put_21 ?_
  refine x_aload_n (pc := 22) hC dX4_put_22 rfl ?_
  refine x_dup (pc := 23) hC dX4_put_23 rfl ?_
  refine x_geti (K := 6) (pc := 24) hC fX4_31_4 (by assumption) dX4_put_24 rfl rfl ?_
  rw [wr_of _ (by omega), hU]
  refine x_iconst (pc := 27) hC dX4_put_27 ?_
  refine x_iadd (pc := 28) hC dX4_put_28 ?_
  refine x_puti (K := 6) (pc := 29) hC rfl fX4_31_4 rfl (by assumption) dX4_put_29 rfl ?_
  refine x_return hC hZ dX4_put_32 (by decide) (by decide) ?_
  exact ⟨rfl, rfl, rfl, rfl⟩

theorem rn2 (σ : xM) (q : Nat) (a b x y : Int) : wr (wr (wr (wr σ q 9 a) q 10 b) q 9 x) q 10 y = wr (wr σ q 9 x) q 10 y := by
  funext p j; simp only [wr]
  by_cases h : p = q ∧ j = 10
  · simp only [if_pos h]
  · by_cases h9 : p = q ∧ j = 9
    · simp only [if_neg h, if_pos h9]
    · simp only [if_neg h, if_neg h9]
set_option maxHeartbeats 4000000 in
set_option maxRecDepth 100000 in
theorem c_readNumber (E : xE) {σ : xM} {ρ : xR} {ks : xKs} {q : Nat} (hk : RdK ks ρ q) {z : zS} {sp en : Int} (hh : RdH σ q z sp en) {op : Int} : Sp E yX4_readNumber kX4_readNumber 1 0 0 [.ref q] σ ρ ks (Fn (some (.int (iI (bI ((figF en (sp, 0, op, z)).1.2.1 = 0))))) (if (figF en (sp, 0, op, z)).1.2.1 = 0 then wr (wr σ q 9 (figF en (sp, 0, op, z)).2) q 10 (figF en (sp, 0, op, z)).1.1 else σ) ρ ks) := by
  refine x_enter (own := RX4) (L := [_]) (by decide +kernel) rfl (by exact Nat.le_of_ble_eq_true rfl) rfl (fun p e R s m args below meth c Z hZ hC hR hin => ?_)
  obtain ⟨⟨g0, ⟨g1, g2, g3, g4, g5⟩, s0, s1, s2, s3, s4⟩, g15, s7, hq55⟩ := id hk
  obtain ⟨h10, h8, htp, hen, hsp, htk⟩ := id hh
  have hhr := here_in htk hsp.1 hen.2
  refine x_aload_n (pc := 0) hC dX4_readNumber_0 rfl ?_
  refine x_callV1 (As := []) (Bs := []) (pc := 1) hC (c_ahead E hk hh) wX4_65_4 pX4_ahead (by assumption) rfl rfl (by exact Nat.le_of_ble_eq_true rfl) hR (by decide) (by decide) (by decide) rfl dX4_readNumber_1 ?_
  refine x_callS1 (As := [_]) (Bs := [_]) (pc := 4) hC (c_isDigit E (by omega)) wX4_102 pX4_isDigit rfl rfl (by exact Nat.le_of_ble_eq_true rfl) hR (by decide) (by decide) (by decide) rfl dX4_readNumber_4 ?_
  refine x_ifB_ne (tgt := 12) (pc := 7) hC  dX4_readNumber_7 (by decide) (fun c7 => ?_) (fun c7 => ?_)
  · refine x_aload_n (pc := 12) hC dX4_readNumber_12 rfl ?_
    refine x_aload_n (pc := 13) hC dX4_readNumber_13 rfl ?_
    refine x_callV1 (As := []) (Bs := []) (pc := 14) hC (c_ahead E hk hh) wX4_65_4 pX4_ahead (by assumption) rfl rfl (by exact Nat.le_of_ble_eq_true rfl) hR (by decide) (by decide) (by decide) rfl dX4_readNumber_14 ?_
    refine x_bipush (pc := 17) hC dX4_readNumber_17 (by decide +kernel) ?_
    refine x_isub (pc := 19) hC dX4_readNumber_19 ?_
    refine x_puti (K := 9) (pc := 20) hC rfl fX4_40_4 rfl (by assumption) dX4_readNumber_20 rfl ?_
    refine x_aload_n (pc := 23) hC dX4_readNumber_23 rfl ?_
    refine x_dup (pc := 24) hC dX4_readNumber_24 rfl ?_
    refine x_geti (K := 10) (pc := 25) hC fX4_43_4 (by assumption) dX4_readNumber_25 rfl rfl ?_
    rw [wr_k _ _ _ (by decide), h10]
    refine x_iconst (pc := 28) hC dX4_readNumber_28 ?_
    refine x_iadd (pc := 29) hC dX4_readNumber_29 ?_
    refine x_puti (K := 10) (pc := 30) hC rfl fX4_43_4 rfl (by assumption) dX4_readNumber_30 rfl ?_
    have hh2 := (hh.num (n := hereF z sp en - 48) hq55).adv (sp' := sp + 1) hq55 (by omega)
    have hhr2 := here_in htk (sp := sp + 1) (by omega) hen.2
    refine x_aload_n (pc := 33) hC dX4_readNumber_33 rfl ?_
    refine x_geti (K := 9) (pc := 34) hC fX4_40_4 (by assumption) dX4_readNumber_34 rfl rfl ?_
    rw [wr_k _ _ _ (by decide), wr_eq]
    refine x_if_le (tgt := 79) (pc := 37) hC (by omega) dX4_readNumber_37 (by decide) (fun c37 => ?_) (fun c37 => ?_)
    · refine x_iconst (pc := 79) hC dX4_readNumber_79 ?_
      refine x_zreturn hC hZ (by omega) dX4_readNumber_80 (by decide) (by decide) ?_
      have hf : figF en (sp, 0, op, z) = ((sp + 1, 0, op, z), hereF z sp en - 48) := by
        unfold figF
        rw [if_neg (fun h => h ⟨rfl, c7⟩), if_neg (fun h => by have := h.2; show False; simp only at this; omega)]
      exact ⟨by rw [hf, bI_t rfl], by rw [hf, if_pos rfl], rfl, rfl⟩
    · refine x_aload_n (pc := 40) hC dX4_readNumber_40 rfl ?_
      refine x_callV1 (As := []) (Bs := []) (pc := 41) hC (c_ahead E hk hh2) wX4_65_4 pX4_ahead (by assumption) rfl rfl (by exact Nat.le_of_ble_eq_true rfl) hR (by decide) (by decide) (by decide) rfl dX4_readNumber_41 ?_
      refine x_callS1 (As := [_]) (Bs := [_]) (pc := 44) hC (c_isDigit E (by omega)) wX4_102 pX4_isDigit rfl rfl (by exact Nat.le_of_ble_eq_true rfl) hR (by decide) (by decide) (by decide) rfl dX4_readNumber_44 ?_
      refine x_ifB_eq (tgt := 79) (pc := 47) hC  dX4_readNumber_47 (by decide) (fun c47 => ?_) (fun c47 => ?_)
      · refine x_iconst (pc := 79) hC dX4_readNumber_79 ?_
        refine x_zreturn hC hZ (by omega) dX4_readNumber_80 (by decide) (by decide) ?_
        have hf : figF en (sp, 0, op, z) = ((sp + 1, 0, op, z), hereF z sp en - 48) := by
          unfold figF
          rw [if_neg (fun h => h ⟨rfl, c7⟩), if_neg (fun h => c47 h.1)]
        exact ⟨by rw [hf, bI_t rfl], by rw [hf, if_pos rfl], rfl, rfl⟩
      · refine x_aload_n (pc := 50) hC dX4_readNumber_50 rfl ?_
        refine x_aload_n (pc := 51) hC dX4_readNumber_51 rfl ?_
        refine x_geti (K := 9) (pc := 52) hC fX4_40_4 (by assumption) dX4_readNumber_52 rfl rfl ?_
        rw [wr_k _ _ _ (by decide), wr_eq]
        refine x_bipush (pc := 55) hC dX4_readNumber_55 (by decide +kernel) ?_
        refine x_imul (pc := 57) hC dX4_readNumber_57 ?_
        have hh3 := hh2
        refine x_aload_n (pc := 58) hC dX4_readNumber_58 rfl ?_
        refine x_callV1 (As := []) (Bs := []) (pc := 59) hC (c_ahead E hk hh3) wX4_65_4 pX4_ahead (by assumption) rfl rfl (by exact Nat.le_of_ble_eq_true rfl) hR (by decide) (by decide) (by decide) rfl dX4_readNumber_59 ?_
        refine x_iadd (pc := 62) hC dX4_readNumber_62 ?_
        refine x_bipush (pc := 63) hC dX4_readNumber_63 (by decide +kernel) ?_
        refine x_isub (pc := 65) hC dX4_readNumber_65 ?_
        refine x_puti (K := 9) (pc := 66) hC rfl fX4_40_4 rfl (by assumption) dX4_readNumber_66 rfl ?_
        refine x_aload_n (pc := 69) hC dX4_readNumber_69 rfl ?_
        refine x_dup (pc := 70) hC dX4_readNumber_70 rfl ?_
        refine x_geti (K := 10) (pc := 71) hC fX4_43_4 (by assumption) dX4_readNumber_71 rfl rfl ?_
        rw [wr_k _ _ _ (by decide), wr_eq]
        refine x_iconst (pc := 74) hC dX4_readNumber_74 ?_
        refine x_iadd (pc := 75) hC dX4_readNumber_75 ?_
        refine x_puti (K := 10) (pc := 76) hC rfl fX4_43_4 rfl (by assumption) dX4_readNumber_76 rfl ?_
        refine x_iconst (pc := 79) hC dX4_readNumber_79 ?_
        refine x_zreturn hC hZ (by omega) dX4_readNumber_80 (by decide) (by decide) ?_
        have hf : figF en (sp, 0, op, z) = ((sp + 2, 0, op, z), 10 * (hereF z sp en - 48) + hereF z (sp + 1) en - 48) := by
          unfold figF
          rw [if_neg (fun h => h ⟨rfl, c7⟩), if_pos ⟨c47, by show 48 < hereF z sp en; omega⟩]
        exact ⟨by rw [hf, bI_t rfl], by rw [hf, if_pos rfl, rn2, show (hereF z sp en - 48) * 10 + hereF z (sp + 1) en - 48 = 10 * (hereF z sp en - 48) + hereF z (sp + 1) en - 48 by omega, show sp + 1 + 1 = sp + 2 by omega], rfl, rfl⟩
  · refine x_iconst (pc := 10) hC dX4_readNumber_10 ?_
    refine x_zreturn hC hZ (by omega) dX4_readNumber_11 (by decide) (by decide) ?_
    have hf : figF en (sp, 0, op, z) = ((sp, 1, op, z), 0) := if_pos (fun h => c7 h.2)
    exact ⟨by rw [hf, bI_f (show ¬ ((1 : Int) = 0) by decide)], by rw [hf, if_neg (show ¬ ((1 : Int) = 0) by decide)], rfl, rfl⟩
