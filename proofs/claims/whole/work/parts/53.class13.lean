set_option maxHeartbeats 4000000 in
set_option maxRecDepth 100000 in
theorem c_isOne0_0 (E : xE) {σ : xM} {ρ : xR} {ks : xKs} {q : Nat} {k : Int} (hk0 : rg k) (hq : ks[q]? = some (0, 0)) : Sp E yX0_isOne kX0_isOne 0 0 0 [.ref q, .int (iI k)] σ ρ ks (Fn (some (.int (iI (bI (k = 0))))) (σ) ρ ks) := by
  refine x_enter (own := RX0) (L := [_, _]) (by decide +kernel) rfl (by exact Nat.le_of_ble_eq_true rfl) rfl (fun p e R s m args below meth c Z hZ hC hR hin => ?_)
  refine x_iload_n (pc := 0) hC dX0_isOne_0 rfl ?_
  refine x_if_ne (tgt := 8) (pc := 1) hC (by omega) dX0_isOne_1 (by decide) (fun c1 => ?_) (fun c1 => ?_)
  · refine x_iconst (pc := 8) hC dX0_isOne_8 ?_
    refine x_zreturn hC hZ (by first | omega | exact bI_01 _) dX0_isOne_9 (by decide) (by decide) ?_
    exact ⟨congrArg (fun z => some (Value.int (iI z))) (by unfold bI; split <;> omega), rfl, rfl, rfl⟩
  · refine x_iconst (pc := 4) hC dX0_isOne_4 ?_
    refine x_goto (tgt := 9) (pc := 5) hC dX0_isOne_5 (by decide) ?_
    refine x_zreturn hC hZ (by first | omega | exact bI_01 _) dX0_isOne_9 (by decide) (by decide) ?_
    exact ⟨congrArg (fun z => some (Value.int (iI z))) (by unfold bI; split <;> omega), rfl, rfl, rfl⟩

set_option maxHeartbeats 4000000 in
set_option maxRecDepth 100000 in
theorem c_isOne0_2 (E : xE) {σ : xM} {ρ : xR} {ks : xKs} {q : Nat} {k : Int} (hk0 : rg k) (hq : ks[q]? = some (0, 2)) : Sp E yX0_isOne kX0_isOne 0 0 0 [.ref q, .int (iI k)] σ ρ ks (Fn (some (.int (iI (bI (k = 0))))) (σ) ρ ks) := by
  refine x_enter (own := RX0) (L := [_, _]) (by decide +kernel) rfl (by exact Nat.le_of_ble_eq_true rfl) rfl (fun p e R s m args below meth c Z hZ hC hR hin => ?_)
  refine x_iload_n (pc := 0) hC dX0_isOne_0 rfl ?_
  refine x_if_ne (tgt := 8) (pc := 1) hC (by omega) dX0_isOne_1 (by decide) (fun c1 => ?_) (fun c1 => ?_)
  · refine x_iconst (pc := 8) hC dX0_isOne_8 ?_
    refine x_zreturn hC hZ (by first | omega | exact bI_01 _) dX0_isOne_9 (by decide) (by decide) ?_
    exact ⟨congrArg (fun z => some (Value.int (iI z))) (by unfold bI; split <;> omega), rfl, rfl, rfl⟩
  · refine x_iconst (pc := 4) hC dX0_isOne_4 ?_
    refine x_goto (tgt := 9) (pc := 5) hC dX0_isOne_5 (by decide) ?_
    refine x_zreturn hC hZ (by first | omega | exact bI_01 _) dX0_isOne_9 (by decide) (by decide) ?_
    exact ⟨congrArg (fun z => some (Value.int (iI z))) (by unfold bI; split <;> omega), rfl, rfl, rfl⟩

set_option maxHeartbeats 4000000 in
set_option maxRecDepth 100000 in
theorem c_isOne0_3 (E : xE) {σ : xM} {ρ : xR} {ks : xKs} {q : Nat} {k : Int} (hk0 : rg k) (hq : ks[q]? = some (0, 3)) : Sp E yX0_isOne kX0_isOne 0 0 0 [.ref q, .int (iI k)] σ ρ ks (Fn (some (.int (iI (bI (k = 0))))) (σ) ρ ks) := by
  refine x_enter (own := RX0) (L := [_, _]) (by decide +kernel) rfl (by exact Nat.le_of_ble_eq_true rfl) rfl (fun p e R s m args below meth c Z hZ hC hR hin => ?_)
  refine x_iload_n (pc := 0) hC dX0_isOne_0 rfl ?_
  refine x_if_ne (tgt := 8) (pc := 1) hC (by omega) dX0_isOne_1 (by decide) (fun c1 => ?_) (fun c1 => ?_)
  · refine x_iconst (pc := 8) hC dX0_isOne_8 ?_
    refine x_zreturn hC hZ (by first | omega | exact bI_01 _) dX0_isOne_9 (by decide) (by decide) ?_
    exact ⟨congrArg (fun z => some (Value.int (iI z))) (by unfold bI; split <;> omega), rfl, rfl, rfl⟩
  · refine x_iconst (pc := 4) hC dX0_isOne_4 ?_
    refine x_goto (tgt := 9) (pc := 5) hC dX0_isOne_5 (by decide) ?_
    refine x_zreturn hC hZ (by first | omega | exact bI_01 _) dX0_isOne_9 (by decide) (by decide) ?_
    exact ⟨congrArg (fun z => some (Value.int (iI z))) (by unfold bI; split <;> omega), rfl, rfl, rfl⟩

set_option maxHeartbeats 4000000 in
set_option maxRecDepth 100000 in
theorem c_isOne0_6 (E : xE) {σ : xM} {ρ : xR} {ks : xKs} {q : Nat} {k : Int} (hk0 : rg k) (hq : ks[q]? = some (0, 6)) : Sp E yX0_isOne kX0_isOne 0 0 0 [.ref q, .int (iI k)] σ ρ ks (Fn (some (.int (iI (bI (k = 0))))) (σ) ρ ks) := by
  refine x_enter (own := RX0) (L := [_, _]) (by decide +kernel) rfl (by exact Nat.le_of_ble_eq_true rfl) rfl (fun p e R s m args below meth c Z hZ hC hR hin => ?_)
  refine x_iload_n (pc := 0) hC dX0_isOne_0 rfl ?_
  refine x_if_ne (tgt := 8) (pc := 1) hC (by omega) dX0_isOne_1 (by decide) (fun c1 => ?_) (fun c1 => ?_)
  · refine x_iconst (pc := 8) hC dX0_isOne_8 ?_
    refine x_zreturn hC hZ (by first | omega | exact bI_01 _) dX0_isOne_9 (by decide) (by decide) ?_
    exact ⟨congrArg (fun z => some (Value.int (iI z))) (by unfold bI; split <;> omega), rfl, rfl, rfl⟩
  · refine x_iconst (pc := 4) hC dX0_isOne_4 ?_
    refine x_goto (tgt := 9) (pc := 5) hC dX0_isOne_5 (by decide) ?_
    refine x_zreturn hC hZ (by first | omega | exact bI_01 _) dX0_isOne_9 (by decide) (by decide) ?_
    exact ⟨congrArg (fun z => some (Value.int (iI z))) (by unfold bI; split <;> omega), rfl, rfl, rfl⟩

set_option maxHeartbeats 4000000 in
set_option maxRecDepth 100000 in
theorem c_isOne0_7 (E : xE) {σ : xM} {ρ : xR} {ks : xKs} {q : Nat} {k : Int} (hk0 : rg k) (hq : ks[q]? = some (0, 7)) : Sp E yX0_isOne kX0_isOne 0 0 0 [.ref q, .int (iI k)] σ ρ ks (Fn (some (.int (iI (bI (k = 0))))) (σ) ρ ks) := by
  refine x_enter (own := RX0) (L := [_, _]) (by decide +kernel) rfl (by exact Nat.le_of_ble_eq_true rfl) rfl (fun p e R s m args below meth c Z hZ hC hR hin => ?_)
  refine x_iload_n (pc := 0) hC dX0_isOne_0 rfl ?_
  refine x_if_ne (tgt := 8) (pc := 1) hC (by omega) dX0_isOne_1 (by decide) (fun c1 => ?_) (fun c1 => ?_)
  · refine x_iconst (pc := 8) hC dX0_isOne_8 ?_
    refine x_zreturn hC hZ (by first | omega | exact bI_01 _) dX0_isOne_9 (by decide) (by decide) ?_
    exact ⟨congrArg (fun z => some (Value.int (iI z))) (by unfold bI; split <;> omega), rfl, rfl, rfl⟩
  · refine x_iconst (pc := 4) hC dX0_isOne_4 ?_
    refine x_goto (tgt := 9) (pc := 5) hC dX0_isOne_5 (by decide) ?_
    refine x_zreturn hC hZ (by first | omega | exact bI_01 _) dX0_isOne_9 (by decide) (by decide) ?_
    exact ⟨congrArg (fun z => some (Value.int (iI z))) (by unfold bI; split <;> omega), rfl, rfl, rfl⟩

set_option maxHeartbeats 4000000 in
set_option maxRecDepth 100000 in
theorem c_isOne0_9 (E : xE) {σ : xM} {ρ : xR} {ks : xKs} {q : Nat} {k : Int} (hk0 : rg k) (hq : ks[q]? = some (0, 9)) : Sp E yX0_isOne kX0_isOne 0 0 0 [.ref q, .int (iI k)] σ ρ ks (Fn (some (.int (iI (bI (k = 0))))) (σ) ρ ks) := by
  refine x_enter (own := RX0) (L := [_, _]) (by decide +kernel) rfl (by exact Nat.le_of_ble_eq_true rfl) rfl (fun p e R s m args below meth c Z hZ hC hR hin => ?_)
  refine x_iload_n (pc := 0) hC dX0_isOne_0 rfl ?_
  refine x_if_ne (tgt := 8) (pc := 1) hC (by omega) dX0_isOne_1 (by decide) (fun c1 => ?_) (fun c1 => ?_)
  · refine x_iconst (pc := 8) hC dX0_isOne_8 ?_
    refine x_zreturn hC hZ (by first | omega | exact bI_01 _) dX0_isOne_9 (by decide) (by decide) ?_
    exact ⟨congrArg (fun z => some (Value.int (iI z))) (by unfold bI; split <;> omega), rfl, rfl, rfl⟩
  · refine x_iconst (pc := 4) hC dX0_isOne_4 ?_
    refine x_goto (tgt := 9) (pc := 5) hC dX0_isOne_5 (by decide) ?_
    refine x_zreturn hC hZ (by first | omega | exact bI_01 _) dX0_isOne_9 (by decide) (by decide) ?_
    exact ⟨congrArg (fun z => some (Value.int (iI z))) (by unfold bI; split <;> omega), rfl, rfl, rfl⟩

set_option maxHeartbeats 4000000 in
set_option maxRecDepth 100000 in
theorem c_isOne0_10 (E : xE) {σ : xM} {ρ : xR} {ks : xKs} {q : Nat} {k : Int} (hk0 : rg k) (hq : ks[q]? = some (0, 10)) : Sp E yX0_isOne kX0_isOne 0 0 0 [.ref q, .int (iI k)] σ ρ ks (Fn (some (.int (iI (bI (k = 0))))) (σ) ρ ks) := by
  refine x_enter (own := RX0) (L := [_, _]) (by decide +kernel) rfl (by exact Nat.le_of_ble_eq_true rfl) rfl (fun p e R s m args below meth c Z hZ hC hR hin => ?_)
  refine x_iload_n (pc := 0) hC dX0_isOne_0 rfl ?_
  refine x_if_ne (tgt := 8) (pc := 1) hC (by omega) dX0_isOne_1 (by decide) (fun c1 => ?_) (fun c1 => ?_)
  · refine x_iconst (pc := 8) hC dX0_isOne_8 ?_
    refine x_zreturn hC hZ (by first | omega | exact bI_01 _) dX0_isOne_9 (by decide) (by decide) ?_
    exact ⟨congrArg (fun z => some (Value.int (iI z))) (by unfold bI; split <;> omega), rfl, rfl, rfl⟩
  · refine x_iconst (pc := 4) hC dX0_isOne_4 ?_
    refine x_goto (tgt := 9) (pc := 5) hC dX0_isOne_5 (by decide) ?_
    refine x_zreturn hC hZ (by first | omega | exact bI_01 _) dX0_isOne_9 (by decide) (by decide) ?_
    exact ⟨congrArg (fun z => some (Value.int (iI z))) (by unfold bI; split <;> omega), rfl, rfl, rfl⟩

set_option maxHeartbeats 4000000 in
set_option maxRecDepth 100000 in
theorem c_isOne1_6 (E : xE) {σ : xM} {ρ : xR} {ks : xKs} {q : Nat} {k : Int} (hk0 : rg k) (hq : ks[q]? = some (0, 6)) : Sp E yX6_isOne kX6_isOne 1 0 0 [.ref q, .int (iI k)] σ ρ ks (Fn (some (.int (iI (bI (k = 1 ∨ k = 0))))) (σ) ρ ks) := by
  refine x_enter (own := RX6) (L := [_, _]) (by decide +kernel) rfl (by exact Nat.le_of_ble_eq_true rfl) rfl (fun p e R s m args below meth c Z hZ hC hR hin => ?_)
  refine x_iload_n (pc := 0) hC dX6_isOne_0 rfl ?_
  refine x_iconst (pc := 1) hC dX6_isOne_1 ?_
  refine x_icmp_eq (tgt := 13) (pc := 2) hC (by omega) (by omega) dX6_isOne_2 (by decide) (fun c2 => ?_) (fun c2 => ?_)
  · refine x_iconst (pc := 13) hC dX6_isOne_13 ?_
    refine x_goto (tgt := 18) (pc := 14) hC dX6_isOne_14 (by decide) ?_
    refine x_zreturn hC hZ (by first | omega | exact bI_01 _) dX6_isOne_18 (by decide) (by decide) ?_
    exact ⟨congrArg (fun z => some (Value.int (iI z))) (by unfold bI; split <;> omega), rfl, rfl, rfl⟩
  · refine x_aload_n (pc := 5) hC dX6_isOne_5 rfl ?_
    refine x_iload_n (pc := 6) hC dX6_isOne_6 rfl ?_
    refine x_callSU1 (As := [_]) (Bs := [_]) (pc := 7) hC (c_isOne0_6 E hk0 hq) wX6_7 pX6_7 (by assumption) rfl rfl (by exact Nat.le_of_ble_eq_true rfl) hR (by decide) (by decide) (by decide) rfl dX6_isOne_7 ?_
    refine x_ifB_eq (tgt := 17) (pc := 10) hC  dX6_isOne_10 (by decide) (fun c10 => ?_) (fun c10 => ?_)
    · refine x_iconst (pc := 17) hC dX6_isOne_17 ?_
      refine x_zreturn hC hZ (by first | omega | exact bI_01 _) dX6_isOne_18 (by decide) (by decide) ?_
      exact ⟨congrArg (fun z => some (Value.int (iI z))) (by unfold bI; split <;> omega), rfl, rfl, rfl⟩
    · refine x_iconst (pc := 13) hC dX6_isOne_13 ?_
      refine x_goto (tgt := 18) (pc := 14) hC dX6_isOne_14 (by decide) ?_
      refine x_zreturn hC hZ (by first | omega | exact bI_01 _) dX6_isOne_18 (by decide) (by decide) ?_
      exact ⟨congrArg (fun z => some (Value.int (iI z))) (by unfold bI; split <;> omega), rfl, rfl, rfl⟩

set_option maxHeartbeats 4000000 in
set_option maxRecDepth 100000 in
theorem c_isOne1_10 (E : xE) {σ : xM} {ρ : xR} {ks : xKs} {q : Nat} {k : Int} (hk0 : rg k) (hq : ks[q]? = some (0, 10)) : Sp E yX6_isOne kX6_isOne 1 0 0 [.ref q, .int (iI k)] σ ρ ks (Fn (some (.int (iI (bI (k = 1 ∨ k = 0))))) (σ) ρ ks) := by
  refine x_enter (own := RX6) (L := [_, _]) (by decide +kernel) rfl (by exact Nat.le_of_ble_eq_true rfl) rfl (fun p e R s m args below meth c Z hZ hC hR hin => ?_)
  refine x_iload_n (pc := 0) hC dX6_isOne_0 rfl ?_
  refine x_iconst (pc := 1) hC dX6_isOne_1 ?_
  refine x_icmp_eq (tgt := 13) (pc := 2) hC (by omega) (by omega) dX6_isOne_2 (by decide) (fun c2 => ?_) (fun c2 => ?_)
  · refine x_iconst (pc := 13) hC dX6_isOne_13 ?_
    refine x_goto (tgt := 18) (pc := 14) hC dX6_isOne_14 (by decide) ?_
    refine x_zreturn hC hZ (by first | omega | exact bI_01 _) dX6_isOne_18 (by decide) (by decide) ?_
    exact ⟨congrArg (fun z => some (Value.int (iI z))) (by unfold bI; split <;> omega), rfl, rfl, rfl⟩
  · refine x_aload_n (pc := 5) hC dX6_isOne_5 rfl ?_
    refine x_iload_n (pc := 6) hC dX6_isOne_6 rfl ?_
    refine x_callSU1 (As := [_]) (Bs := [_]) (pc := 7) hC (c_isOne0_10 E hk0 hq) wX6_7 pX6_7 (by assumption) rfl rfl (by exact Nat.le_of_ble_eq_true rfl) hR (by decide) (by decide) (by decide) rfl dX6_isOne_7 ?_
    refine x_ifB_eq (tgt := 17) (pc := 10) hC  dX6_isOne_10 (by decide) (fun c10 => ?_) (fun c10 => ?_)
    · refine x_iconst (pc := 17) hC dX6_isOne_17 ?_
      refine x_zreturn hC hZ (by first | omega | exact bI_01 _) dX6_isOne_18 (by decide) (by decide) ?_
      exact ⟨congrArg (fun z => some (Value.int (iI z))) (by unfold bI; split <;> omega), rfl, rfl, rfl⟩
    · refine x_iconst (pc := 13) hC dX6_isOne_13 ?_
      refine x_goto (tgt := 18) (pc := 14) hC dX6_isOne_14 (by decide) ?_
      refine x_zreturn hC hZ (by first | omega | exact bI_01 _) dX6_isOne_18 (by decide) (by decide) ?_
      exact ⟨congrArg (fun z => some (Value.int (iI z))) (by unfold bI; split <;> omega), rfl, rfl, rfl⟩

set_option maxHeartbeats 4000000 in
set_option maxRecDepth 100000 in
theorem c_isOne2_9 (E : xE) {σ : xM} {ρ : xR} {ks : xKs} {q : Nat} {k : Int} (hk0 : rg k) (hq : ks[q]? = some (0, 9)) : Sp E yX9_isOne kX9_isOne 1 0 0 [.ref q, .int (iI k)] σ ρ ks (Fn (some (.int (iI (bI (k = 2 ∨ k = 0))))) (σ) ρ ks) := by
  refine x_enter (own := RX9) (L := [_, _]) (by decide +kernel) rfl (by exact Nat.le_of_ble_eq_true rfl) rfl (fun p e R s m args below meth c Z hZ hC hR hin => ?_)
  refine x_iload_n (pc := 0) hC dX9_isOne_0 rfl ?_
  refine x_iconst (pc := 1) hC dX9_isOne_1 ?_
  refine x_icmp_eq (tgt := 13) (pc := 2) hC (by omega) (by omega) dX9_isOne_2 (by decide) (fun c2 => ?_) (fun c2 => ?_)
  · refine x_iconst (pc := 13) hC dX9_isOne_13 ?_
    refine x_goto (tgt := 18) (pc := 14) hC dX9_isOne_14 (by decide) ?_
    refine x_zreturn hC hZ (by first | omega | exact bI_01 _) dX9_isOne_18 (by decide) (by decide) ?_
    exact ⟨congrArg (fun z => some (Value.int (iI z))) (by unfold bI; split <;> omega), rfl, rfl, rfl⟩
  · refine x_aload_n (pc := 5) hC dX9_isOne_5 rfl ?_
    refine x_iload_n (pc := 6) hC dX9_isOne_6 rfl ?_
    refine x_callSU1 (As := [_]) (Bs := [_]) (pc := 7) hC (c_isOne0_9 E hk0 hq) wX9_7 pX9_7 (by assumption) rfl rfl (by exact Nat.le_of_ble_eq_true rfl) hR (by decide) (by decide) (by decide) rfl dX9_isOne_7 ?_
    refine x_ifB_eq (tgt := 17) (pc := 10) hC  dX9_isOne_10 (by decide) (fun c10 => ?_) (fun c10 => ?_)
    · refine x_iconst (pc := 17) hC dX9_isOne_17 ?_
      refine x_zreturn hC hZ (by first | omega | exact bI_01 _) dX9_isOne_18 (by decide) (by decide) ?_
      exact ⟨congrArg (fun z => some (Value.int (iI z))) (by unfold bI; split <;> omega), rfl, rfl, rfl⟩
    · refine x_iconst (pc := 13) hC dX9_isOne_13 ?_
      refine x_goto (tgt := 18) (pc := 14) hC dX9_isOne_14 (by decide) ?_
      refine x_zreturn hC hZ (by first | omega | exact bI_01 _) dX9_isOne_18 (by decide) (by decide) ?_
      exact ⟨congrArg (fun z => some (Value.int (iI z))) (by unfold bI; split <;> omega), rfl, rfl, rfl⟩

set_option maxHeartbeats 4000000 in
set_option maxRecDepth 100000 in
theorem c_isOne2_7 (E : xE) {σ : xM} {ρ : xR} {ks : xKs} {q : Nat} {k : Int} (hk0 : rg k) (hq : ks[q]? = some (0, 7)) : Sp E yX9_isOne kX9_isOne 1 0 0 [.ref q, .int (iI k)] σ ρ ks (Fn (some (.int (iI (bI (k = 2 ∨ k = 0))))) (σ) ρ ks) := by
  refine x_enter (own := RX9) (L := [_, _]) (by decide +kernel) rfl (by exact Nat.le_of_ble_eq_true rfl) rfl (fun p e R s m args below meth c Z hZ hC hR hin => ?_)
  refine x_iload_n (pc := 0) hC dX9_isOne_0 rfl ?_
  refine x_iconst (pc := 1) hC dX9_isOne_1 ?_
  refine x_icmp_eq (tgt := 13) (pc := 2) hC (by omega) (by omega) dX9_isOne_2 (by decide) (fun c2 => ?_) (fun c2 => ?_)
  · refine x_iconst (pc := 13) hC dX9_isOne_13 ?_
    refine x_goto (tgt := 18) (pc := 14) hC dX9_isOne_14 (by decide) ?_
    refine x_zreturn hC hZ (by first | omega | exact bI_01 _) dX9_isOne_18 (by decide) (by decide) ?_
    exact ⟨congrArg (fun z => some (Value.int (iI z))) (by unfold bI; split <;> omega), rfl, rfl, rfl⟩
  · refine x_aload_n (pc := 5) hC dX9_isOne_5 rfl ?_
    refine x_iload_n (pc := 6) hC dX9_isOne_6 rfl ?_
    refine x_callSU1 (As := [_]) (Bs := [_]) (pc := 7) hC (c_isOne0_7 E hk0 hq) wX9_7 pX9_7 (by assumption) rfl rfl (by exact Nat.le_of_ble_eq_true rfl) hR (by decide) (by decide) (by decide) rfl dX9_isOne_7 ?_
    refine x_ifB_eq (tgt := 17) (pc := 10) hC  dX9_isOne_10 (by decide) (fun c10 => ?_) (fun c10 => ?_)
    · refine x_iconst (pc := 17) hC dX9_isOne_17 ?_
      refine x_zreturn hC hZ (by first | omega | exact bI_01 _) dX9_isOne_18 (by decide) (by decide) ?_
      exact ⟨congrArg (fun z => some (Value.int (iI z))) (by unfold bI; split <;> omega), rfl, rfl, rfl⟩
    · refine x_iconst (pc := 13) hC dX9_isOne_13 ?_
      refine x_goto (tgt := 18) (pc := 14) hC dX9_isOne_14 (by decide) ?_
      refine x_zreturn hC hZ (by first | omega | exact bI_01 _) dX9_isOne_18 (by decide) (by decide) ?_
      exact ⟨congrArg (fun z => some (Value.int (iI z))) (by unfold bI; split <;> omega), rfl, rfl, rfl⟩

set_option maxHeartbeats 4000000 in
set_option maxRecDepth 100000 in
theorem c_isOne3_3 (E : xE) {σ : xM} {ρ : xR} {ks : xKs} {q : Nat} {k : Int} (hk0 : rg k) (hq : ks[q]? = some (0, 3)) : Sp E yX3_isOne kX3_isOne 1 0 0 [.ref q, .int (iI k)] σ ρ ks (Fn (some (.int (iI (bI (k = 3 ∨ k = 0))))) (σ) ρ ks) := by
  refine x_enter (own := RX3) (L := [_, _]) (by decide +kernel) rfl (by exact Nat.le_of_ble_eq_true rfl) rfl (fun p e R s m args below meth c Z hZ hC hR hin => ?_)
  refine x_iload_n (pc := 0) hC dX3_isOne_0 rfl ?_
  refine x_iconst (pc := 1) hC dX3_isOne_1 ?_
  refine x_icmp_eq (tgt := 13) (pc := 2) hC (by omega) (by omega) dX3_isOne_2 (by decide) (fun c2 => ?_) (fun c2 => ?_)
  · refine x_iconst (pc := 13) hC dX3_isOne_13 ?_
    refine x_goto (tgt := 18) (pc := 14) hC dX3_isOne_14 (by decide) ?_
    refine x_zreturn hC hZ (by first | omega | exact bI_01 _) dX3_isOne_18 (by decide) (by decide) ?_
    exact ⟨congrArg (fun z => some (Value.int (iI z))) (by unfold bI; split <;> omega), rfl, rfl, rfl⟩
  · refine x_aload_n (pc := 5) hC dX3_isOne_5 rfl ?_
    refine x_iload_n (pc := 6) hC dX3_isOne_6 rfl ?_
    refine x_callSU1 (As := [_]) (Bs := [_]) (pc := 7) hC (c_isOne0_3 E hk0 hq) wX3_7 pX3_7 (by assumption) rfl rfl (by exact Nat.le_of_ble_eq_true rfl) hR (by decide) (by decide) (by decide) rfl dX3_isOne_7 ?_
    refine x_ifB_eq (tgt := 17) (pc := 10) hC  dX3_isOne_10 (by decide) (fun c10 => ?_) (fun c10 => ?_)
    · refine x_iconst (pc := 17) hC dX3_isOne_17 ?_
      refine x_zreturn hC hZ (by first | omega | exact bI_01 _) dX3_isOne_18 (by decide) (by decide) ?_
      exact ⟨congrArg (fun z => some (Value.int (iI z))) (by unfold bI; split <;> omega), rfl, rfl, rfl⟩
    · refine x_iconst (pc := 13) hC dX3_isOne_13 ?_
      refine x_goto (tgt := 18) (pc := 14) hC dX3_isOne_14 (by decide) ?_
      refine x_zreturn hC hZ (by first | omega | exact bI_01 _) dX3_isOne_18 (by decide) (by decide) ?_
      exact ⟨congrArg (fun z => some (Value.int (iI z))) (by unfold bI; split <;> omega), rfl, rfl, rfl⟩

set_option maxHeartbeats 4000000 in
set_option maxRecDepth 100000 in
theorem c_isOne3_2 (E : xE) {σ : xM} {ρ : xR} {ks : xKs} {q : Nat} {k : Int} (hk0 : rg k) (hq : ks[q]? = some (0, 2)) : Sp E yX3_isOne kX3_isOne 1 0 0 [.ref q, .int (iI k)] σ ρ ks (Fn (some (.int (iI (bI (k = 3 ∨ k = 0))))) (σ) ρ ks) := by
  refine x_enter (own := RX3) (L := [_, _]) (by decide +kernel) rfl (by exact Nat.le_of_ble_eq_true rfl) rfl (fun p e R s m args below meth c Z hZ hC hR hin => ?_)
  refine x_iload_n (pc := 0) hC dX3_isOne_0 rfl ?_
  refine x_iconst (pc := 1) hC dX3_isOne_1 ?_
  refine x_icmp_eq (tgt := 13) (pc := 2) hC (by omega) (by omega) dX3_isOne_2 (by decide) (fun c2 => ?_) (fun c2 => ?_)
  · refine x_iconst (pc := 13) hC dX3_isOne_13 ?_
    refine x_goto (tgt := 18) (pc := 14) hC dX3_isOne_14 (by decide) ?_
    refine x_zreturn hC hZ (by first | omega | exact bI_01 _) dX3_isOne_18 (by decide) (by decide) ?_
    exact ⟨congrArg (fun z => some (Value.int (iI z))) (by unfold bI; split <;> omega), rfl, rfl, rfl⟩
  · refine x_aload_n (pc := 5) hC dX3_isOne_5 rfl ?_
    refine x_iload_n (pc := 6) hC dX3_isOne_6 rfl ?_
    refine x_callSU1 (As := [_]) (Bs := [_]) (pc := 7) hC (c_isOne0_2 E hk0 hq) wX3_7 pX3_7 (by assumption) rfl rfl (by exact Nat.le_of_ble_eq_true rfl) hR (by decide) (by decide) (by decide) rfl dX3_isOne_7 ?_
    refine x_ifB_eq (tgt := 17) (pc := 10) hC  dX3_isOne_10 (by decide) (fun c10 => ?_) (fun c10 => ?_)
    · refine x_iconst (pc := 17) hC dX3_isOne_17 ?_
      refine x_zreturn hC hZ (by first | omega | exact bI_01 _) dX3_isOne_18 (by decide) (by decide) ?_
      exact ⟨congrArg (fun z => some (Value.int (iI z))) (by unfold bI; split <;> omega), rfl, rfl, rfl⟩
    · refine x_iconst (pc := 13) hC dX3_isOne_13 ?_
      refine x_goto (tgt := 18) (pc := 14) hC dX3_isOne_14 (by decide) ?_
      refine x_zreturn hC hZ (by first | omega | exact bI_01 _) dX3_isOne_18 (by decide) (by decide) ?_
      exact ⟨congrArg (fun z => some (Value.int (iI z))) (by unfold bI; split <;> omega), rfl, rfl, rfl⟩

set_option maxHeartbeats 4000000 in
set_option maxRecDepth 100000 in
theorem c_isOne4_10 (E : xE) {σ : xM} {ρ : xR} {ks : xKs} {q : Nat} {k : Int} (hk0 : rg k) (hq : ks[q]? = some (0, 10)) : Sp E yX10_isOne kX10_isOne 2 0 0 [.ref q, .int (iI k)] σ ρ ks (Fn (some (.int (iI (bI (k = 4 ∨ k = 1 ∨ k = 0))))) (σ) ρ ks) := by
  refine x_enter (own := RX10) (L := [_, _]) (by decide +kernel) rfl (by exact Nat.le_of_ble_eq_true rfl) rfl (fun p e R s m args below meth c Z hZ hC hR hin => ?_)
  refine x_iload_n (pc := 0) hC dX10_isOne_0 rfl ?_
  refine x_iconst (pc := 1) hC dX10_isOne_1 ?_
  refine x_icmp_eq (tgt := 13) (pc := 2) hC (by omega) (by omega) dX10_isOne_2 (by decide) (fun c2 => ?_) (fun c2 => ?_)
  · refine x_iconst (pc := 13) hC dX10_isOne_13 ?_
    refine x_goto (tgt := 18) (pc := 14) hC dX10_isOne_14 (by decide) ?_
    refine x_zreturn hC hZ (by first | omega | exact bI_01 _) dX10_isOne_18 (by decide) (by decide) ?_
    exact ⟨congrArg (fun z => some (Value.int (iI z))) (by unfold bI; split <;> omega), rfl, rfl, rfl⟩
  · refine x_aload_n (pc := 5) hC dX10_isOne_5 rfl ?_
    refine x_iload_n (pc := 6) hC dX10_isOne_6 rfl ?_
    refine x_callSU1 (As := [_]) (Bs := [_]) (pc := 7) hC (c_isOne1_10 E hk0 hq) wX10_9 pX10_9 (by assumption) rfl rfl (by exact Nat.le_of_ble_eq_true rfl) hR (by decide) (by decide) (by decide) rfl dX10_isOne_7 ?_
    refine x_ifB_eq (tgt := 17) (pc := 10) hC  dX10_isOne_10 (by decide) (fun c10 => ?_) (fun c10 => ?_)
    · refine x_iconst (pc := 17) hC dX10_isOne_17 ?_
      refine x_zreturn hC hZ (by first | omega | exact bI_01 _) dX10_isOne_18 (by decide) (by decide) ?_
      exact ⟨congrArg (fun z => some (Value.int (iI z))) (by unfold bI; split <;> omega), rfl, rfl, rfl⟩
    · refine x_iconst (pc := 13) hC dX10_isOne_13 ?_
      refine x_goto (tgt := 18) (pc := 14) hC dX10_isOne_14 (by decide) ?_
      refine x_zreturn hC hZ (by first | omega | exact bI_01 _) dX10_isOne_18 (by decide) (by decide) ?_
      exact ⟨congrArg (fun z => some (Value.int (iI z))) (by unfold bI; split <;> omega), rfl, rfl, rfl⟩

set_option maxHeartbeats 4000000 in
set_option maxRecDepth 100000 in
theorem c_isOne6_7 (E : xE) {σ : xM} {ρ : xR} {ks : xKs} {q : Nat} {k : Int} (hk0 : rg k) (hq : ks[q]? = some (0, 7)) : Sp E yX7_isOne kX7_isOne 2 0 0 [.ref q, .int (iI k)] σ ρ ks (Fn (some (.int (iI (bI (k = 6 ∨ k = 2 ∨ k = 0))))) (σ) ρ ks) := by
  refine x_enter (own := RX7) (L := [_, _]) (by decide +kernel) rfl (by exact Nat.le_of_ble_eq_true rfl) rfl (fun p e R s m args below meth c Z hZ hC hR hin => ?_)
  refine x_iload_n (pc := 0) hC dX7_isOne_0 rfl ?_
  refine x_bipush (pc := 1) hC dX7_isOne_1 (by decide +kernel) ?_
  refine x_icmp_eq (tgt := 14) (pc := 3) hC (by omega) (by omega) dX7_isOne_3 (by decide) (fun c3 => ?_) (fun c3 => ?_)
  · refine x_iconst (pc := 14) hC dX7_isOne_14 ?_
    refine x_goto (tgt := 19) (pc := 15) hC dX7_isOne_15 (by decide) ?_
    refine x_zreturn hC hZ (by first | omega | exact bI_01 _) dX7_isOne_19 (by decide) (by decide) ?_
    exact ⟨congrArg (fun z => some (Value.int (iI z))) (by unfold bI; split <;> omega), rfl, rfl, rfl⟩
  · refine x_aload_n (pc := 6) hC dX7_isOne_6 rfl ?_
    refine x_iload_n (pc := 7) hC dX7_isOne_7 rfl ?_
    refine x_callSU1 (As := [_]) (Bs := [_]) (pc := 8) hC (c_isOne2_7 E hk0 hq) wX7_23 pX7_23 (by assumption) rfl rfl (by exact Nat.le_of_ble_eq_true rfl) hR (by decide) (by decide) (by decide) rfl dX7_isOne_8 ?_
    refine x_ifB_eq (tgt := 18) (pc := 11) hC  dX7_isOne_11 (by decide) (fun c11 => ?_) (fun c11 => ?_)
    · refine x_iconst (pc := 18) hC dX7_isOne_18 ?_
      refine x_zreturn hC hZ (by first | omega | exact bI_01 _) dX7_isOne_19 (by decide) (by decide) ?_
      exact ⟨congrArg (fun z => some (Value.int (iI z))) (by unfold bI; split <;> omega), rfl, rfl, rfl⟩
    · refine x_iconst (pc := 14) hC dX7_isOne_14 ?_
      refine x_goto (tgt := 19) (pc := 15) hC dX7_isOne_15 (by decide) ?_
      refine x_zreturn hC hZ (by first | omega | exact bI_01 _) dX7_isOne_19 (by decide) (by decide) ?_
      exact ⟨congrArg (fun z => some (Value.int (iI z))) (by unfold bI; split <;> omega), rfl, rfl, rfl⟩

set_option maxHeartbeats 4000000 in
set_option maxRecDepth 100000 in
theorem c_isOne5_2 (E : xE) {σ : xM} {ρ : xR} {ks : xKs} {q : Nat} {k : Int} (hk0 : rg k) (hq : ks[q]? = some (0, 2)) : Sp E yX2_isOne kX2_isOne 2 0 0 [.ref q, .int (iI k)] σ ρ ks (Fn (some (.int (iI (bI (k = 5 ∨ k = 3 ∨ k = 0))))) (σ) ρ ks) := by
  refine x_enter (own := RX2) (L := [_, _]) (by decide +kernel) rfl (by exact Nat.le_of_ble_eq_true rfl) rfl (fun p e R s m args below meth c Z hZ hC hR hin => ?_)
  refine x_iload_n (pc := 0) hC dX2_isOne_0 rfl ?_
  refine x_iconst (pc := 1) hC dX2_isOne_1 ?_
  refine x_icmp_eq (tgt := 13) (pc := 2) hC (by omega) (by omega) dX2_isOne_2 (by decide) (fun c2 => ?_) (fun c2 => ?_)
  · refine x_iconst (pc := 13) hC dX2_isOne_13 ?_
    refine x_goto (tgt := 18) (pc := 14) hC dX2_isOne_14 (by decide) ?_
    refine x_zreturn hC hZ (by first | omega | exact bI_01 _) dX2_isOne_18 (by decide) (by decide) ?_
    exact ⟨congrArg (fun z => some (Value.int (iI z))) (by unfold bI; split <;> omega), rfl, rfl, rfl⟩
  · refine x_aload_n (pc := 5) hC dX2_isOne_5 rfl ?_
    refine x_iload_n (pc := 6) hC dX2_isOne_6 rfl ?_
    refine x_callSU1 (As := [_]) (Bs := [_]) (pc := 7) hC (c_isOne3_2 E hk0 hq) wX2_7 pX2_7 (by assumption) rfl rfl (by exact Nat.le_of_ble_eq_true rfl) hR (by decide) (by decide) (by decide) rfl dX2_isOne_7 ?_
    refine x_ifB_eq (tgt := 17) (pc := 10) hC  dX2_isOne_10 (by decide) (fun c10 => ?_) (fun c10 => ?_)
    · refine x_iconst (pc := 17) hC dX2_isOne_17 ?_
      refine x_zreturn hC hZ (by first | omega | exact bI_01 _) dX2_isOne_18 (by decide) (by decide) ?_
      exact ⟨congrArg (fun z => some (Value.int (iI z))) (by unfold bI; split <;> omega), rfl, rfl, rfl⟩
    · refine x_iconst (pc := 13) hC dX2_isOne_13 ?_
      refine x_goto (tgt := 18) (pc := 14) hC dX2_isOne_14 (by decide) ?_
      refine x_zreturn hC hZ (by first | omega | exact bI_01 _) dX2_isOne_18 (by decide) (by decide) ?_
      exact ⟨congrArg (fun z => some (Value.int (iI z))) (by unfold bI; split <;> omega), rfl, rfl, rfl⟩
