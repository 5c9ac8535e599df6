theorem bOr_0 (a b : Int) : bOr (bShl a b) 0 = bShl a b := by
  unfold bOr bShl
  rw [iI_of, iI_0, Int32.or_zero]
theorem within_mn (a : Int) (h : 0 ≤ a) : withinF a 0 9 = mnI a 9 := by
  unfold withinF mnI
  rw [if_neg (by omega)]
set_option maxHeartbeats 4000000 in
set_option maxRecDepth 100000 in
theorem c_reach0 (E : xE) {σ : xM} {ρ : xR} {ks : xKs} {q : Nat} {f : Int} {z : zS} (hfz : FZ σ q f z) (hfo : FanOk z f) (hff : 0 ≤ f ∧ f < 4) (hq : ks[q]? = some (0, 0)) (hkd : z (22 + f) = 0) {r b : Nat} (hsk : SK ks ρ r b) (hsz : SZ σ r b z) (hsit : SitOk z) {t : Int} (ht : 0 ≤ t ∧ t < 1000000) : Sp E yX0_reach kX0_reach 2 0 0 [.ref q, .int (iI t), .ref r] σ ρ ks (Fn (some (.int (iI (reachF z f t)))) σ ρ ks) := by
  refine x_enter (own := RX0) (L := [_, _, _]) (by decide +kernel) rfl (by exact Nat.le_of_ble_eq_true rfl) rfl (fun p e R s m args below meth c Z hZ hC hR hin => ?_)
  obtain ⟨a0, a1, a2, a3, a4, a5, a6⟩ := id hfz
  obtain ⟨b1, b2, b3, b4, b5, b6⟩ := id hfo
  refine x_iconst (pc := 0) hC dX0_reach_0 ?_
  refine x_aload_n (pc := 1) hC dX0_reach_1 rfl ?_
  refine x_iload_n (pc := 2) hC dX0_reach_2 rfl ?_
  refine x_aload_n (pc := 3) hC dX0_reach_3 rfl ?_
  refine x_callV1 (As := [_, _]) (Bs := [_, _]) (pc := 4) hC (c_spot0 E hfz hfo hff hq hkd hsk hsz hsit ht) wX0_32_0 pX0_spot (by assumption) rfl rfl (by exact Nat.le_of_ble_eq_true rfl) hR (by decide) (by decide) (by decide) rfl dX0_reach_4 ?_
  refine x_ishl (pc := 7) hC dX0_reach_7 ?_
  refine x_ireturn hC hZ dX0_reach_8 (by decide) (by decide) ?_
  exact ⟨congrArg (fun z => some (Value.int (iI z))) (by unfold reachF; rw [if_neg (by omega), bOr_0]), rfl, rfl, rfl⟩

set_option maxHeartbeats 4000000 in
set_option maxRecDepth 100000 in
theorem c_reach2 (E : xE) {σ : xM} {ρ : xR} {ks : xKs} {q : Nat} {f : Int} {z : zS} (hfz : FZ σ q f z) (hfo : FanOk z f) (hff : 0 ≤ f ∧ f < 4) (hq : ks[q]? = some (0, 2)) (hkd : z (22 + f) = 5) {r b : Nat} (hsk : SK ks ρ r b) (hsz : SZ σ r b z) (hsit : SitOk z) {t : Int} (ht : 0 ≤ t ∧ t < 1000000) : Sp E yX0_reach kX0_reach 2 0 0 [.ref q, .int (iI t), .ref r] σ ρ ks (Fn (some (.int (iI (reachF z f t)))) σ ρ ks) := by
  refine x_enter (own := RX0) (L := [_, _, _]) (by decide +kernel) rfl (by exact Nat.le_of_ble_eq_true rfl) rfl (fun p e R s m args below meth c Z hZ hC hR hin => ?_)
  obtain ⟨a0, a1, a2, a3, a4, a5, a6⟩ := id hfz
  obtain ⟨b1, b2, b3, b4, b5, b6⟩ := id hfo
  refine x_iconst (pc := 0) hC dX0_reach_0 ?_
  refine x_aload_n (pc := 1) hC dX0_reach_1 rfl ?_
  refine x_iload_n (pc := 2) hC dX0_reach_2 rfl ?_
  refine x_aload_n (pc := 3) hC dX0_reach_3 rfl ?_
  refine x_callU1 (As := [_, _]) (Bs := [_, _]) (pc := 4) hC (c_spot2 E hfz hfo hff hq hkd hsk hsz hsit ht) wX0_32_2 pX0_32_2 (by assumption) rfl rfl (by exact Nat.le_of_ble_eq_true rfl) hR (by decide) (by decide) (by decide) rfl dX0_reach_4 ?_
  refine x_ishl (pc := 7) hC dX0_reach_7 ?_
  refine x_ireturn hC hZ dX0_reach_8 (by decide) (by decide) ?_
  exact ⟨congrArg (fun z => some (Value.int (iI z))) (by unfold reachF; rw [if_neg (by omega), bOr_0]), rfl, rfl, rfl⟩

set_option maxHeartbeats 4000000 in
set_option maxRecDepth 100000 in
theorem c_reach3 (E : xE) {σ : xM} {ρ : xR} {ks : xKs} {q : Nat} {f : Int} {z : zS} (hfz : FZ σ q f z) (hfo : FanOk z f) (hff : 0 ≤ f ∧ f < 4) (hq : ks[q]? = some (0, 3)) (hkd : z (22 + f) = 3) {r b : Nat} (hsk : SK ks ρ r b) (hsz : SZ σ r b z) (hsit : SitOk z) {t : Int} (ht : 0 ≤ t ∧ t < 1000000) : Sp E yX0_reach kX0_reach 2 0 0 [.ref q, .int (iI t), .ref r] σ ρ ks (Fn (some (.int (iI (reachF z f t)))) σ ρ ks) := by
  refine x_enter (own := RX0) (L := [_, _, _]) (by decide +kernel) rfl (by exact Nat.le_of_ble_eq_true rfl) rfl (fun p e R s m args below meth c Z hZ hC hR hin => ?_)
  obtain ⟨a0, a1, a2, a3, a4, a5, a6⟩ := id hfz
  obtain ⟨b1, b2, b3, b4, b5, b6⟩ := id hfo
  refine x_iconst (pc := 0) hC dX0_reach_0 ?_
  refine x_aload_n (pc := 1) hC dX0_reach_1 rfl ?_
  refine x_iload_n (pc := 2) hC dX0_reach_2 rfl ?_
  refine x_aload_n (pc := 3) hC dX0_reach_3 rfl ?_
  refine x_callU1 (As := [_, _]) (Bs := [_, _]) (pc := 4) hC (c_spot3 E hfz hfo hff hq hkd hsk hsz hsit ht) wX0_32_3 pX0_32_3 (by assumption) rfl rfl (by exact Nat.le_of_ble_eq_true rfl) hR (by decide) (by decide) (by decide) rfl dX0_reach_4 ?_
  refine x_ishl (pc := 7) hC dX0_reach_7 ?_
  refine x_ireturn hC hZ dX0_reach_8 (by decide) (by decide) ?_
  exact ⟨congrArg (fun z => some (Value.int (iI z))) (by unfold reachF; rw [if_neg (by omega), bOr_0]), rfl, rfl, rfl⟩

set_option maxHeartbeats 4000000 in
set_option maxRecDepth 100000 in
theorem c_reach6 (E : xE) {σ : xM} {ρ : xR} {ks : xKs} {q : Nat} {f : Int} {z : zS} (hfz : FZ σ q f z) (hfo : FanOk z f) (hff : 0 ≤ f ∧ f < 4) (hq : ks[q]? = some (0, 6)) (hkd : z (22 + f) = 1) {r b : Nat} (hsk : SK ks ρ r b) (hsz : SZ σ r b z) (hsit : SitOk z) {t : Int} (ht : 0 ≤ t ∧ t < 1000000) : Sp E yX0_reach kX0_reach 2 0 0 [.ref q, .int (iI t), .ref r] σ ρ ks (Fn (some (.int (iI (reachF z f t)))) σ ρ ks) := by
  refine x_enter (own := RX0) (L := [_, _, _]) (by decide +kernel) rfl (by exact Nat.le_of_ble_eq_true rfl) rfl (fun p e R s m args below meth c Z hZ hC hR hin => ?_)
  obtain ⟨a0, a1, a2, a3, a4, a5, a6⟩ := id hfz
  obtain ⟨b1, b2, b3, b4, b5, b6⟩ := id hfo
  refine x_iconst (pc := 0) hC dX0_reach_0 ?_
  refine x_aload_n (pc := 1) hC dX0_reach_1 rfl ?_
  refine x_iload_n (pc := 2) hC dX0_reach_2 rfl ?_
  refine x_aload_n (pc := 3) hC dX0_reach_3 rfl ?_
  refine x_callU1 (As := [_, _]) (Bs := [_, _]) (pc := 4) hC (c_spot6 E hfz hfo hff hq hkd hsk hsz hsit ht) wX0_32_6 pX0_32_6 (by assumption) rfl rfl (by exact Nat.le_of_ble_eq_true rfl) hR (by decide) (by decide) (by decide) rfl dX0_reach_4 ?_
  refine x_ishl (pc := 7) hC dX0_reach_7 ?_
  refine x_ireturn hC hZ dX0_reach_8 (by decide) (by decide) ?_
  exact ⟨congrArg (fun z => some (Value.int (iI z))) (by unfold reachF; rw [if_neg (by omega), bOr_0]), rfl, rfl, rfl⟩

set_option maxHeartbeats 4000000 in
set_option maxRecDepth 100000 in
theorem c_reach7 (E : xE) {σ : xM} {ρ : xR} {ks : xKs} {q : Nat} {f : Int} {z : zS} (hfz : FZ σ q f z) (hfo : FanOk z f) (hff : 0 ≤ f ∧ f < 4) (hq : ks[q]? = some (0, 7)) (hkd : z (22 + f) = 6) (htz : TZ σ ρ ks q f z) {r b : Nat} (hsk : SK ks ρ r b) (hsz : SZ σ r b z) (hsit : SitOk z) {t : Int} (ht : 0 ≤ t ∧ t < 1000000) : Sp E yX0_reach kX0_reach 2 0 0 [.ref q, .int (iI t), .ref r] σ ρ ks (Fn (some (.int (iI (reachF z f t)))) σ ρ ks) := by
  refine x_enter (own := RX0) (L := [_, _, _]) (by decide +kernel) rfl (by exact Nat.le_of_ble_eq_true rfl) rfl (fun p e R s m args below meth c Z hZ hC hR hin => ?_)
  obtain ⟨a0, a1, a2, a3, a4, a5, a6⟩ := id hfz
  obtain ⟨b1, b2, b3, b4, b5, b6⟩ := id hfo
  refine x_iconst (pc := 0) hC dX0_reach_0 ?_
  refine x_aload_n (pc := 1) hC dX0_reach_1 rfl ?_
  refine x_iload_n (pc := 2) hC dX0_reach_2 rfl ?_
  refine x_aload_n (pc := 3) hC dX0_reach_3 rfl ?_
  refine x_callU1 (As := [_, _]) (Bs := [_, _]) (pc := 4) hC (c_spot7 E hfz hfo hff hq hkd htz hsk hsz hsit ht) wX0_32_7 pX0_32_7 (by assumption) rfl rfl (by exact Nat.le_of_ble_eq_true rfl) hR (by decide) (by decide) (by decide) rfl dX0_reach_4 ?_
  refine x_ishl (pc := 7) hC dX0_reach_7 ?_
  refine x_ireturn hC hZ dX0_reach_8 (by decide) (by decide) ?_
  exact ⟨congrArg (fun z => some (Value.int (iI z))) (by unfold reachF; rw [if_neg (by omega), bOr_0]), rfl, rfl, rfl⟩

set_option maxHeartbeats 4000000 in
set_option maxRecDepth 100000 in
theorem c_reach9 (E : xE) {σ : xM} {ρ : xR} {ks : xKs} {q : Nat} {f : Int} {z : zS} (hfz : FZ σ q f z) (hfo : FanOk z f) (hff : 0 ≤ f ∧ f < 4) (hq : ks[q]? = some (0, 9)) (hkd : z (22 + f) = 2) {r b : Nat} (hsk : SK ks ρ r b) (hsz : SZ σ r b z) (hsit : SitOk z) {t : Int} (ht : 0 ≤ t ∧ t < 1000000) : Sp E yX0_reach kX0_reach 2 0 0 [.ref q, .int (iI t), .ref r] σ ρ ks (Fn (some (.int (iI (reachF z f t)))) σ ρ ks) := by
  refine x_enter (own := RX0) (L := [_, _, _]) (by decide +kernel) rfl (by exact Nat.le_of_ble_eq_true rfl) rfl (fun p e R s m args below meth c Z hZ hC hR hin => ?_)
  obtain ⟨a0, a1, a2, a3, a4, a5, a6⟩ := id hfz
  obtain ⟨b1, b2, b3, b4, b5, b6⟩ := id hfo
  refine x_iconst (pc := 0) hC dX0_reach_0 ?_
  refine x_aload_n (pc := 1) hC dX0_reach_1 rfl ?_
  refine x_iload_n (pc := 2) hC dX0_reach_2 rfl ?_
  refine x_aload_n (pc := 3) hC dX0_reach_3 rfl ?_
  refine x_callU1 (As := [_, _]) (Bs := [_, _]) (pc := 4) hC (c_spot9 E hfz hfo hff hq hkd hsk hsz hsit ht) wX0_32_9 pX0_32_9 (by assumption) rfl rfl (by exact Nat.le_of_ble_eq_true rfl) hR (by decide) (by decide) (by decide) rfl dX0_reach_4 ?_
  refine x_ishl (pc := 7) hC dX0_reach_7 ?_
  refine x_ireturn hC hZ dX0_reach_8 (by decide) (by decide) ?_
  exact ⟨congrArg (fun z => some (Value.int (iI z))) (by unfold reachF; rw [if_neg (by omega), bOr_0]), rfl, rfl, rfl⟩

set_option maxHeartbeats 4000000 in
set_option maxRecDepth 100000 in
theorem c_reach10 (E : xE) {σ : xM} {ρ : xR} {ks : xKs} {q : Nat} {f : Int} {z : zS} (hfz : FZ σ q f z) (hfo : FanOk z f) (hff : 0 ≤ f ∧ f < 4) (hq : ks[q]? = some (0, 10)) (hkd : z (22 + f) = 4) {r b : Nat} (hsk : SK ks ρ r b) (hsz : SZ σ r b z) (hsit : SitOk z) {t : Int} (ht : 0 ≤ t ∧ t < 1000000) : Sp E yX10_reach kX10_reach 2 0 0 [.ref q, .int (iI t), .ref r] σ ρ ks (Fn (some (.int (iI (reachF z f t)))) σ ρ ks) := by
  refine x_enter (own := RX10) (L := [_, _, _, _]) (by decide +kernel) rfl (by exact Nat.le_of_ble_eq_true rfl) rfl (fun p e R s m args below meth c Z hZ hC hR hin => ?_)
  obtain ⟨a0, a1, a2, a3, a4, a5, a6⟩ := id hfz
  obtain ⟨b1, b2, b3, b4, b5, b6⟩ := id hfo
  have hia := isAt_in hfo hsit ht.1
  refine x_aload_n (pc := 0) hC dX10_reach_0 rfl ?_
  refine x_iload_n (pc := 1) hC dX10_reach_1 rfl ?_
  refine x_aload_n (pc := 2) hC dX10_reach_2 rfl ?_
  refine x_callU1 (As := [_, _]) (Bs := [_, _]) (pc := 3) hC (c_spot10 E hfz hfo hff hq hkd hsk hsz hsit ht) wX10_13_10 pX10_13_10 (by assumption) rfl rfl (by exact Nat.le_of_ble_eq_true rfl) hR (by decide) (by decide) (by decide) rfl dX10_reach_3 ?_
  refine x_istore_n (L' := [_, _, _, _]) (pc := 6) hC dX10_reach_6 rfl rfl ?_
  refine x_iconst (pc := 7) hC dX10_reach_7 ?_
  refine x_iload_n (pc := 8) hC dX10_reach_8 rfl ?_
  refine x_ishl (pc := 9) hC dX10_reach_9 ?_
  refine x_iconst (pc := 10) hC dX10_reach_10 ?_
  refine x_iload_n (pc := 11) hC dX10_reach_11 rfl ?_
  refine x_iconst (pc := 12) hC dX10_reach_12 ?_
  refine x_iadd (pc := 13) hC dX10_reach_13 ?_
  refine x_bipush (pc := 14) hC dX10_reach_14 (by decide +kernel) ?_
  refine x_min (pc := 16) hC wX10_19 hR (by decide) (by decide) rfl (by exact Nat.le_of_ble_eq_true rfl) (by omega) (by omega) dX10_reach_16 ?_
  refine x_ishl (pc := 19) hC dX10_reach_19 ?_
  refine x_ior (pc := 20) hC dX10_reach_20 ?_
  refine x_ireturn hC hZ dX10_reach_21 (by decide) (by decide) ?_
  exact ⟨congrArg (fun z => some (Value.int (iI z))) (by unfold reachF; rw [if_pos (by omega), within_mn _ (by omega)]), rfl, rfl, rfl⟩
