/-! new fans -/
def nf (σ : xM) (q : Nat) (kd n v a b w : Int) : xM := wr (wr (wr (wr (wr (wr (wr σ q 6 1) q 0 kd) q 1 n) q 2 v) q 3 a) q 4 b) q 5 w
theorem nf_p (σ : xM) {q p : Nat} (h : p ≠ q) (kd n v a b w : Int) : nf σ q kd n v a b w p = σ p := by
  unfold nf; simp only [wr_of _ h]
theorem nf_v (σ : xM) (q : Nat) (kd n v a b w : Int) : nf σ q kd n v a b w q 0 = kd ∧ nf σ q kd n v a b w q 1 = n ∧ nf σ q kd n v a b w q 2 = v ∧ nf σ q kd n v a b w q 3 = a ∧ nf σ q kd n v a b w q 4 = b ∧ nf σ q kd n v a b w q 5 = w ∧ nf σ q kd n v a b w q 6 = 1 := by
  unfold nf; simp [wr]
theorem nw7 : Cond.classLink RX11 119 (xC 7) ∈ TW ∧ Cond.instantiable (xC 7) (xN 7) ∈ TW ∧ Cond.initialized (xC 7) ∈ TW := ⟨TW_of (List.mem_of_getElem? (i := 591) (by decide +kernel)) rfl, TW_of (List.mem_of_getElem? (i := 592) (by decide +kernel)) rfl, TW_of (List.mem_of_getElem? (i := 86) (by decide +kernel)) rfl⟩
set_option maxHeartbeats 4000000 in
set_option maxRecDepth 100000 in
theorem c_init0_0 (E : xE) {σ : xM} {ρ : xR} {ks : xKs} {q : Nat} (hq : ks[q]? = some (0, 0)) {kd n v a b w : Int}  : Sp E yX0_init kX0_init 1 0 0 [.ref q, .int (iI kd), .int (iI n), .int (iI v), .int (iI a), .int (iI b), .int (iI w)] σ ρ ks (Fn none (nf σ q kd n v a b w) ρ ks) := by
  refine x_enter (own := RX0) (L := [_, _, _, _, _, _, _]) (by decide +kernel) rfl (by exact Nat.le_of_ble_eq_true rfl) rfl (fun p e R s m args below meth c Z hZ hC hR hin => ?_)
  obtain hqq := hq
  refine x_aload_n (pc := 0) hC dX0_init_0 rfl ?_
  refine x_objInit (pc := 1) hC hR (by decide) wX0_1 (by exact Nat.le_of_ble_eq_true rfl) rfl dX0_init_1 ?_
  refine x_aload_n (pc := 4) hC dX0_init_4 rfl ?_
  refine x_iconst (pc := 5) hC dX0_init_5 ?_
  refine x_putz (K := 6) (pc := 6) hC rfl fX0_7_0 rfl (by assumption) dX0_init_6 rfl (by omega) ?_
  refine x_aload_n (pc := 9) hC dX0_init_9 rfl ?_
  refine x_iload_n (pc := 10) hC dX0_init_10 rfl ?_
  refine x_putiF (K := 0) (pc := 11) hC rfl fX0_13_0 ⟨hin, rfl⟩ (by assumption) dX0_init_11 rfl ?_
  refine x_aload_n (pc := 14) hC dX0_init_14 rfl ?_
  refine x_iload_n (pc := 15) hC dX0_init_15 rfl ?_
  refine x_putiF (K := 1) (pc := 16) hC rfl fX0_17_0 ⟨hin, rfl⟩ (by assumption) dX0_init_16 rfl ?_
  refine x_aload_n (pc := 19) hC dX0_init_19 rfl ?_
  refine x_iload_n (pc := 20) hC dX0_init_20 rfl ?_
  refine x_putiF (K := 2) (pc := 21) hC rfl fX0_20_0 ⟨hin, rfl⟩ (by assumption) dX0_init_21 rfl ?_
  refine x_aload_n (pc := 24) hC dX0_init_24 rfl ?_
  refine x_iload (pc := 25) hC dX0_init_25 rfl ?_
  refine x_putiF (K := 3) (pc := 27) hC rfl fX0_23_0 ⟨hin, rfl⟩ (by assumption) dX0_init_27 rfl ?_
  refine x_aload_n (pc := 30) hC dX0_init_30 rfl ?_
  refine x_iload (pc := 31) hC dX0_init_31 rfl ?_
  refine x_putiF (K := 4) (pc := 33) hC rfl fX0_26_0 ⟨hin, rfl⟩ (by assumption) dX0_init_33 rfl ?_
  refine x_aload_n (pc := 36) hC dX0_init_36 rfl ?_
  refine x_iload (pc := 37) hC dX0_init_37 rfl ?_
  refine x_putiF (K := 5) (pc := 39) hC rfl fX0_29_0 ⟨hin, rfl⟩ (by assumption) dX0_init_39 rfl ?_
  refine x_return hC hZ dX0_init_42 (by decide) (by decide) ?_
  exact ⟨rfl, rfl, rfl, rfl⟩

set_option maxHeartbeats 4000000 in
set_option maxRecDepth 100000 in
theorem c_init0_2 (E : xE) {σ : xM} {ρ : xR} {ks : xKs} {q : Nat} (hq : ks[q]? = some (0, 2)) {kd n v a b w : Int}  : Sp E yX0_init kX0_init 1 0 0 [.ref q, .int (iI kd), .int (iI n), .int (iI v), .int (iI a), .int (iI b), .int (iI w)] σ ρ ks (Fn none (nf σ q kd n v a b w) ρ ks) := by
  refine x_enter (own := RX0) (L := [_, _, _, _, _, _, _]) (by decide +kernel) rfl (by exact Nat.le_of_ble_eq_true rfl) rfl (fun p e R s m args below meth c Z hZ hC hR hin => ?_)
  obtain hqq := hq
  refine x_aload_n (pc := 0) hC dX0_init_0 rfl ?_
  refine x_objInit (pc := 1) hC hR (by decide) wX0_1 (by exact Nat.le_of_ble_eq_true rfl) rfl dX0_init_1 ?_
  refine x_aload_n (pc := 4) hC dX0_init_4 rfl ?_
  refine x_iconst (pc := 5) hC dX0_init_5 ?_
  refine x_putz (K := 6) (pc := 6) hC rfl fX0_7_2 rfl (by assumption) dX0_init_6 rfl (by omega) ?_
  refine x_aload_n (pc := 9) hC dX0_init_9 rfl ?_
  refine x_iload_n (pc := 10) hC dX0_init_10 rfl ?_
  refine x_putiF (K := 0) (pc := 11) hC rfl fX0_13_2 ⟨hin, rfl⟩ (by assumption) dX0_init_11 rfl ?_
  refine x_aload_n (pc := 14) hC dX0_init_14 rfl ?_
  refine x_iload_n (pc := 15) hC dX0_init_15 rfl ?_
  refine x_putiF (K := 1) (pc := 16) hC rfl fX0_17_2 ⟨hin, rfl⟩ (by assumption) dX0_init_16 rfl ?_
  refine x_aload_n (pc := 19) hC dX0_init_19 rfl ?_
  refine x_iload_n (pc := 20) hC dX0_init_20 rfl ?_
  refine x_putiF (K := 2) (pc := 21) hC rfl fX0_20_2 ⟨hin, rfl⟩ (by assumption) dX0_init_21 rfl ?_
  refine x_aload_n (pc := 24) hC dX0_init_24 rfl ?_
  refine x_iload (pc := 25) hC dX0_init_25 rfl ?_
  refine x_putiF (K := 3) (pc := 27) hC rfl fX0_23_2 ⟨hin, rfl⟩ (by assumption) dX0_init_27 rfl ?_
  refine x_aload_n (pc := 30) hC dX0_init_30 rfl ?_
  refine x_iload (pc := 31) hC dX0_init_31 rfl ?_
  refine x_putiF (K := 4) (pc := 33) hC rfl fX0_26_2 ⟨hin, rfl⟩ (by assumption) dX0_init_33 rfl ?_
  refine x_aload_n (pc := 36) hC dX0_init_36 rfl ?_
  refine x_iload (pc := 37) hC dX0_init_37 rfl ?_
  refine x_putiF (K := 5) (pc := 39) hC rfl fX0_29_2 ⟨hin, rfl⟩ (by assumption) dX0_init_39 rfl ?_
  refine x_return hC hZ dX0_init_42 (by decide) (by decide) ?_
  exact ⟨rfl, rfl, rfl, rfl⟩

set_option maxHeartbeats 4000000 in
set_option maxRecDepth 100000 in
theorem c_init0_3 (E : xE) {σ : xM} {ρ : xR} {ks : xKs} {q : Nat} (hq : ks[q]? = some (0, 3)) {kd n v a b w : Int}  : Sp E yX0_init kX0_init 1 0 0 [.ref q, .int (iI kd), .int (iI n), .int (iI v), .int (iI a), .int (iI b), .int (iI w)] σ ρ ks (Fn none (nf σ q kd n v a b w) ρ ks) := by
  refine x_enter (own := RX0) (L := [_, _, _, _, _, _, _]) (by decide +kernel) rfl (by exact Nat.le_of_ble_eq_true rfl) rfl (fun p e R s m args below meth c Z hZ hC hR hin => ?_)
  obtain hqq := hq
  refine x_aload_n (pc := 0) hC dX0_init_0 rfl ?_
  refine x_objInit (pc := 1) hC hR (by decide) wX0_1 (by exact Nat.le_of_ble_eq_true rfl) rfl dX0_init_1 ?_
  refine x_aload_n (pc := 4) hC dX0_init_4 rfl ?_
  refine x_iconst (pc := 5) hC dX0_init_5 ?_
  refine x_putz (K := 6) (pc := 6) hC rfl fX0_7_3 rfl (by assumption) dX0_init_6 rfl (by omega) ?_
  refine x_aload_n (pc := 9) hC dX0_init_9 rfl ?_
  refine x_iload_n (pc := 10) hC dX0_init_10 rfl ?_
  refine x_putiF (K := 0) (pc := 11) hC rfl fX0_13_3 ⟨hin, rfl⟩ (by assumption) dX0_init_11 rfl ?_
  refine x_aload_n (pc := 14) hC dX0_init_14 rfl ?_
  refine x_iload_n (pc := 15) hC dX0_init_15 rfl ?_
  refine x_putiF (K := 1) (pc := 16) hC rfl fX0_17_3 ⟨hin, rfl⟩ (by assumption) dX0_init_16 rfl ?_
  refine x_aload_n (pc := 19) hC dX0_init_19 rfl ?_
  refine x_iload_n (pc := 20) hC dX0_init_20 rfl ?_
  refine x_putiF (K := 2) (pc := 21) hC rfl fX0_20_3 ⟨hin, rfl⟩ (by assumption) dX0_init_21 rfl ?_
  refine x_aload_n (pc := 24) hC dX0_init_24 rfl ?_
  refine x_iload (pc := 25) hC dX0_init_25 rfl ?_
  refine x_putiF (K := 3) (pc := 27) hC rfl fX0_23_3 ⟨hin, rfl⟩ (by assumption) dX0_init_27 rfl ?_
  refine x_aload_n (pc := 30) hC dX0_init_30 rfl ?_
  refine x_iload (pc := 31) hC dX0_init_31 rfl ?_
  refine x_putiF (K := 4) (pc := 33) hC rfl fX0_26_3 ⟨hin, rfl⟩ (by assumption) dX0_init_33 rfl ?_
  refine x_aload_n (pc := 36) hC dX0_init_36 rfl ?_
  refine x_iload (pc := 37) hC dX0_init_37 rfl ?_
  refine x_putiF (K := 5) (pc := 39) hC rfl fX0_29_3 ⟨hin, rfl⟩ (by assumption) dX0_init_39 rfl ?_
  refine x_return hC hZ dX0_init_42 (by decide) (by decide) ?_
  exact ⟨rfl, rfl, rfl, rfl⟩

set_option maxHeartbeats 4000000 in
set_option maxRecDepth 100000 in
theorem c_init0_6 (E : xE) {σ : xM} {ρ : xR} {ks : xKs} {q : Nat} (hq : ks[q]? = some (0, 6)) {kd n v a b w : Int}  : Sp E yX0_init kX0_init 1 0 0 [.ref q, .int (iI kd), .int (iI n), .int (iI v), .int (iI a), .int (iI b), .int (iI w)] σ ρ ks (Fn none (nf σ q kd n v a b w) ρ ks) := by
  refine x_enter (own := RX0) (L := [_, _, _, _, _, _, _]) (by decide +kernel) rfl (by exact Nat.le_of_ble_eq_true rfl) rfl (fun p e R s m args below meth c Z hZ hC hR hin => ?_)
  obtain hqq := hq
  refine x_aload_n (pc := 0) hC dX0_init_0 rfl ?_
  refine x_objInit (pc := 1) hC hR (by decide) wX0_1 (by exact Nat.le_of_ble_eq_true rfl) rfl dX0_init_1 ?_
  refine x_aload_n (pc := 4) hC dX0_init_4 rfl ?_
  refine x_iconst (pc := 5) hC dX0_init_5 ?_
  refine x_putz (K := 6) (pc := 6) hC rfl fX0_7_6 rfl (by assumption) dX0_init_6 rfl (by omega) ?_
  refine x_aload_n (pc := 9) hC dX0_init_9 rfl ?_
  refine x_iload_n (pc := 10) hC dX0_init_10 rfl ?_
  refine x_putiF (K := 0) (pc := 11) hC rfl fX0_13_6 ⟨hin, rfl⟩ (by assumption) dX0_init_11 rfl ?_
  refine x_aload_n (pc := 14) hC dX0_init_14 rfl ?_
  refine x_iload_n (pc := 15) hC dX0_init_15 rfl ?_
  refine x_putiF (K := 1) (pc := 16) hC rfl fX0_17_6 ⟨hin, rfl⟩ (by assumption) dX0_init_16 rfl ?_
  refine x_aload_n (pc := 19) hC dX0_init_19 rfl ?_
  refine x_iload_n (pc := 20) hC dX0_init_20 rfl ?_
  refine x_putiF (K := 2) (pc := 21) hC rfl fX0_20_6 ⟨hin, rfl⟩ (by assumption) dX0_init_21 rfl ?_
  refine x_aload_n (pc := 24) hC dX0_init_24 rfl ?_
  refine x_iload (pc := 25) hC dX0_init_25 rfl ?_
  refine x_putiF (K := 3) (pc := 27) hC rfl fX0_23_6 ⟨hin, rfl⟩ (by assumption) dX0_init_27 rfl ?_
  refine x_aload_n (pc := 30) hC dX0_init_30 rfl ?_
  refine x_iload (pc := 31) hC dX0_init_31 rfl ?_
  refine x_putiF (K := 4) (pc := 33) hC rfl fX0_26_6 ⟨hin, rfl⟩ (by assumption) dX0_init_33 rfl ?_
  refine x_aload_n (pc := 36) hC dX0_init_36 rfl ?_
  refine x_iload (pc := 37) hC dX0_init_37 rfl ?_
  refine x_putiF (K := 5) (pc := 39) hC rfl fX0_29_6 ⟨hin, rfl⟩ (by assumption) dX0_init_39 rfl ?_
  refine x_return hC hZ dX0_init_42 (by decide) (by decide) ?_
  exact ⟨rfl, rfl, rfl, rfl⟩

set_option maxHeartbeats 4000000 in
set_option maxRecDepth 100000 in
theorem c_init0_7 (E : xE) {σ : xM} {ρ : xR} {ks : xKs} {q : Nat} (hq : ks[q]? = some (0, 7)) {kd n v a b w : Int}  : Sp E yX0_init kX0_init 1 0 0 [.ref q, .int (iI kd), .int (iI n), .int (iI v), .int (iI a), .int (iI b), .int (iI w)] σ ρ ks (Fn none (nf σ q kd n v a b w) ρ ks) := by
  refine x_enter (own := RX0) (L := [_, _, _, _, _, _, _]) (by decide +kernel) rfl (by exact Nat.le_of_ble_eq_true rfl) rfl (fun p e R s m args below meth c Z hZ hC hR hin => ?_)
  obtain hqq := hq
  refine x_aload_n (pc := 0) hC dX0_init_0 rfl ?_
  refine x_objInit (pc := 1) hC hR (by decide) wX0_1 (by exact Nat.le_of_ble_eq_true rfl) rfl dX0_init_1 ?_
  refine x_aload_n (pc := 4) hC dX0_init_4 rfl ?_
  refine x_iconst (pc := 5) hC dX0_init_5 ?_
  refine x_putz (K := 6) (pc := 6) hC rfl fX0_7_7 rfl (by assumption) dX0_init_6 rfl (by omega) ?_
  refine x_aload_n (pc := 9) hC dX0_init_9 rfl ?_
  refine x_iload_n (pc := 10) hC dX0_init_10 rfl ?_
  refine x_putiF (K := 0) (pc := 11) hC rfl fX0_13_7 ⟨hin, rfl⟩ (by assumption) dX0_init_11 rfl ?_
  refine x_aload_n (pc := 14) hC dX0_init_14 rfl ?_
  refine x_iload_n (pc := 15) hC dX0_init_15 rfl ?_
  refine x_putiF (K := 1) (pc := 16) hC rfl fX0_17_7 ⟨hin, rfl⟩ (by assumption) dX0_init_16 rfl ?_
  refine x_aload_n (pc := 19) hC dX0_init_19 rfl ?_
  refine x_iload_n (pc := 20) hC dX0_init_20 rfl ?_
  refine x_putiF (K := 2) (pc := 21) hC rfl fX0_20_7 ⟨hin, rfl⟩ (by assumption) dX0_init_21 rfl ?_
  refine x_aload_n (pc := 24) hC dX0_init_24 rfl ?_
  refine x_iload (pc := 25) hC dX0_init_25 rfl ?_
  refine x_putiF (K := 3) (pc := 27) hC rfl fX0_23_7 ⟨hin, rfl⟩ (by assumption) dX0_init_27 rfl ?_
  refine x_aload_n (pc := 30) hC dX0_init_30 rfl ?_
  refine x_iload (pc := 31) hC dX0_init_31 rfl ?_
  refine x_putiF (K := 4) (pc := 33) hC rfl fX0_26_7 ⟨hin, rfl⟩ (by assumption) dX0_init_33 rfl ?_
  refine x_aload_n (pc := 36) hC dX0_init_36 rfl ?_
  refine x_iload (pc := 37) hC dX0_init_37 rfl ?_
  refine x_putiF (K := 5) (pc := 39) hC rfl fX0_29_7 ⟨hin, rfl⟩ (by assumption) dX0_init_39 rfl ?_
  refine x_return hC hZ dX0_init_42 (by decide) (by decide) ?_
  exact ⟨rfl, rfl, rfl, rfl⟩

set_option maxHeartbeats 4000000 in
set_option maxRecDepth 100000 in
theorem c_init0_9 (E : xE) {σ : xM} {ρ : xR} {ks : xKs} {q : Nat} (hq : ks[q]? = some (0, 9)) {kd n v a b w : Int}  : Sp E yX0_init kX0_init 1 0 0 [.ref q, .int (iI kd), .int (iI n), .int (iI v), .int (iI a), .int (iI b), .int (iI w)] σ ρ ks (Fn none (nf σ q kd n v a b w) ρ ks) := by
  refine x_enter (own := RX0) (L := [_, _, _, _, _, _, _]) (by decide +kernel) rfl (by exact Nat.le_of_ble_eq_true rfl) rfl (fun p e R s m args below meth c Z hZ hC hR hin => ?_)
  obtain hqq := hq
  refine x_aload_n (pc := 0) hC dX0_init_0 rfl ?_
  refine x_objInit (pc := 1) hC hR (by decide) wX0_1 (by exact Nat.le_of_ble_eq_true rfl) rfl dX0_init_1 ?_
  refine x_aload_n (pc := 4) hC dX0_init_4 rfl ?_
  refine x_iconst (pc := 5) hC dX0_init_5 ?_
  refine x_putz (K := 6) (pc := 6) hC rfl fX0_7_9 rfl (by assumption) dX0_init_6 rfl (by omega) ?_
  refine x_aload_n (pc := 9) hC dX0_init_9 rfl ?_
  refine x_iload_n (pc := 10) hC dX0_init_10 rfl ?_
  refine x_putiF (K := 0) (pc := 11) hC rfl fX0_13_9 ⟨hin, rfl⟩ (by assumption) dX0_init_11 rfl ?_
  refine x_aload_n (pc := 14) hC dX0_init_14 rfl ?_
  refine x_iload_n (pc := 15) hC dX0_init_15 rfl ?_
  refine x_putiF (K := 1) (pc := 16) hC rfl fX0_17_9 ⟨hin, rfl⟩ (by assumption) dX0_init_16 rfl ?_
  refine x_aload_n (pc := 19) hC dX0_init_19 rfl ?_
  refine x_iload_n (pc := 20) hC dX0_init_20 rfl ?_
  refine x_putiF (K := 2) (pc := 21) hC rfl fX0_20_9 ⟨hin, rfl⟩ (by assumption) dX0_init_21 rfl ?_
  refine x_aload_n (pc := 24) hC dX0_init_24 rfl ?_
  refine x_iload (pc := 25) hC dX0_init_25 rfl ?_
  refine x_putiF (K := 3) (pc := 27) hC rfl fX0_23_9 ⟨hin, rfl⟩ (by assumption) dX0_init_27 rfl ?_
  refine x_aload_n (pc := 30) hC dX0_init_30 rfl ?_
  refine x_iload (pc := 31) hC dX0_init_31 rfl ?_
  refine x_putiF (K := 4) (pc := 33) hC rfl fX0_26_9 ⟨hin, rfl⟩ (by assumption) dX0_init_33 rfl ?_
  refine x_aload_n (pc := 36) hC dX0_init_36 rfl ?_
  refine x_iload (pc := 37) hC dX0_init_37 rfl ?_
  refine x_putiF (K := 5) (pc := 39) hC rfl fX0_29_9 ⟨hin, rfl⟩ (by assumption) dX0_init_39 rfl ?_
  refine x_return hC hZ dX0_init_42 (by decide) (by decide) ?_
  exact ⟨rfl, rfl, rfl, rfl⟩

set_option maxHeartbeats 4000000 in
set_option maxRecDepth 100000 in
theorem c_init0_10 (E : xE) {σ : xM} {ρ : xR} {ks : xKs} {q : Nat} (hq : ks[q]? = some (0, 10)) {kd n v a b w : Int}  : Sp E yX0_init kX0_init 1 0 0 [.ref q, .int (iI kd), .int (iI n), .int (iI v), .int (iI a), .int (iI b), .int (iI w)] σ ρ ks (Fn none (nf σ q kd n v a b w) ρ ks) := by
  refine x_enter (own := RX0) (L := [_, _, _, _, _, _, _]) (by decide +kernel) rfl (by exact Nat.le_of_ble_eq_true rfl) rfl (fun p e R s m args below meth c Z hZ hC hR hin => ?_)
  obtain hqq := hq
  refine x_aload_n (pc := 0) hC dX0_init_0 rfl ?_
  refine x_objInit (pc := 1) hC hR (by decide) wX0_1 (by exact Nat.le_of_ble_eq_true rfl) rfl dX0_init_1 ?_
  refine x_aload_n (pc := 4) hC dX0_init_4 rfl ?_
  refine x_iconst (pc := 5) hC dX0_init_5 ?_
  refine x_putz (K := 6) (pc := 6) hC rfl fX0_7_10 rfl (by assumption) dX0_init_6 rfl (by omega) ?_
  refine x_aload_n (pc := 9) hC dX0_init_9 rfl ?_
  refine x_iload_n (pc := 10) hC dX0_init_10 rfl ?_
  refine x_putiF (K := 0) (pc := 11) hC rfl fX0_13_10 ⟨hin, rfl⟩ (by assumption) dX0_init_11 rfl ?_
  refine x_aload_n (pc := 14) hC dX0_init_14 rfl ?_
  refine x_iload_n (pc := 15) hC dX0_init_15 rfl ?_
  refine x_putiF (K := 1) (pc := 16) hC rfl fX0_17_10 ⟨hin, rfl⟩ (by assumption) dX0_init_16 rfl ?_
  refine x_aload_n (pc := 19) hC dX0_init_19 rfl ?_
  refine x_iload_n (pc := 20) hC dX0_init_20 rfl ?_
  refine x_putiF (K := 2) (pc := 21) hC rfl fX0_20_10 ⟨hin, rfl⟩ (by assumption) dX0_init_21 rfl ?_
  refine x_aload_n (pc := 24) hC dX0_init_24 rfl ?_
  refine x_iload (pc := 25) hC dX0_init_25 rfl ?_
  refine x_putiF (K := 3) (pc := 27) hC rfl fX0_23_10 ⟨hin, rfl⟩ (by assumption) dX0_init_27 rfl ?_
  refine x_aload_n (pc := 30) hC dX0_init_30 rfl ?_
  refine x_iload (pc := 31) hC dX0_init_31 rfl ?_
  refine x_putiF (K := 4) (pc := 33) hC rfl fX0_26_10 ⟨hin, rfl⟩ (by assumption) dX0_init_33 rfl ?_
  refine x_aload_n (pc := 36) hC dX0_init_36 rfl ?_
  refine x_iload (pc := 37) hC dX0_init_37 rfl ?_
  refine x_putiF (K := 5) (pc := 39) hC rfl fX0_29_10 ⟨hin, rfl⟩ (by assumption) dX0_init_39 rfl ?_
  refine x_return hC hZ dX0_init_42 (by decide) (by decide) ?_
  exact ⟨rfl, rfl, rfl, rfl⟩

set_option maxHeartbeats 4000000 in
set_option maxRecDepth 100000 in
theorem c_init3_2 (E : xE) {σ : xM} {ρ : xR} {ks : xKs} {q : Nat} (hq : ks[q]? = some (0, 2)) {kd n v a b w : Int}  : Sp E yX3_init kX3_init 2 0 0 [.ref q, .int (iI kd), .int (iI n), .int (iI v), .int (iI a), .int (iI b), .int (iI w)] σ ρ ks (Fn none (nf σ q kd n v a b w) ρ ks) := by
  refine x_enter (own := RX3) (L := [_, _, _, _, _, _, _]) (by decide +kernel) rfl (by exact Nat.le_of_ble_eq_true rfl) rfl (fun p e R s m args below meth c Z hZ hC hR hin => ?_)
  obtain hqq := hq
  refine x_aload_n (pc := 0) hC dX3_init_0 rfl ?_
  refine x_iload_n (pc := 1) hC dX3_init_1 rfl ?_
  refine x_iload_n (pc := 2) hC dX3_init_2 rfl ?_
  refine x_iload_n (pc := 3) hC dX3_init_3 rfl ?_
  refine x_iload (pc := 4) hC dX3_init_4 rfl ?_
  refine x_iload (pc := 6) hC dX3_init_6 rfl ?_
  refine x_iload (pc := 8) hC dX3_init_8 rfl ?_
  refine x_callI0 (As := [_, _, _, _, _, _]) (Bs := [_, _, _, _, _, _]) (pc := 10) hC (c_init0_2 E hq) wX3_1 pX0_init rfl rfl (by exact Nat.le_of_ble_eq_true rfl) hR (by decide) (by decide) (by decide) rfl dX3_init_10 ?_
  refine x_return hC hZ dX3_init_13 (by decide) (by decide) ?_
  exact ⟨rfl, rfl, rfl, rfl⟩

set_option maxHeartbeats 4000000 in
set_option maxRecDepth 100000 in
theorem c_init3_3 (E : xE) {σ : xM} {ρ : xR} {ks : xKs} {q : Nat} (hq : ks[q]? = some (0, 3)) {kd n v a b w : Int}  : Sp E yX3_init kX3_init 2 0 0 [.ref q, .int (iI kd), .int (iI n), .int (iI v), .int (iI a), .int (iI b), .int (iI w)] σ ρ ks (Fn none (nf σ q kd n v a b w) ρ ks) := by
  refine x_enter (own := RX3) (L := [_, _, _, _, _, _, _]) (by decide +kernel) rfl (by exact Nat.le_of_ble_eq_true rfl) rfl (fun p e R s m args below meth c Z hZ hC hR hin => ?_)
  obtain hqq := hq
  refine x_aload_n (pc := 0) hC dX3_init_0 rfl ?_
  refine x_iload_n (pc := 1) hC dX3_init_1 rfl ?_
  refine x_iload_n (pc := 2) hC dX3_init_2 rfl ?_
  refine x_iload_n (pc := 3) hC dX3_init_3 rfl ?_
  refine x_iload (pc := 4) hC dX3_init_4 rfl ?_
  refine x_iload (pc := 6) hC dX3_init_6 rfl ?_
  refine x_iload (pc := 8) hC dX3_init_8 rfl ?_
  refine x_callI0 (As := [_, _, _, _, _, _]) (Bs := [_, _, _, _, _, _]) (pc := 10) hC (c_init0_3 E hq) wX3_1 pX0_init rfl rfl (by exact Nat.le_of_ble_eq_true rfl) hR (by decide) (by decide) (by decide) rfl dX3_init_10 ?_
  refine x_return hC hZ dX3_init_13 (by decide) (by decide) ?_
  exact ⟨rfl, rfl, rfl, rfl⟩

set_option maxHeartbeats 4000000 in
set_option maxRecDepth 100000 in
theorem c_init6_6 (E : xE) {σ : xM} {ρ : xR} {ks : xKs} {q : Nat} (hq : ks[q]? = some (0, 6)) {kd n v a b w : Int}  : Sp E yX6_init kX6_init 2 0 0 [.ref q, .int (iI kd), .int (iI n), .int (iI v), .int (iI a), .int (iI b), .int (iI w)] σ ρ ks (Fn none (nf σ q kd n v a b w) ρ ks) := by
  refine x_enter (own := RX6) (L := [_, _, _, _, _, _, _]) (by decide +kernel) rfl (by exact Nat.le_of_ble_eq_true rfl) rfl (fun p e R s m args below meth c Z hZ hC hR hin => ?_)
  obtain hqq := hq
  refine x_aload_n (pc := 0) hC dX6_init_0 rfl ?_
  refine x_iload_n (pc := 1) hC dX6_init_1 rfl ?_
  refine x_iload_n (pc := 2) hC dX6_init_2 rfl ?_
  refine x_iload_n (pc := 3) hC dX6_init_3 rfl ?_
  refine x_iload (pc := 4) hC dX6_init_4 rfl ?_
  refine x_iload (pc := 6) hC dX6_init_6 rfl ?_
  refine x_iload (pc := 8) hC dX6_init_8 rfl ?_
  refine x_callI0 (As := [_, _, _, _, _, _]) (Bs := [_, _, _, _, _, _]) (pc := 10) hC (c_init0_6 E hq) wX6_1 pX0_init rfl rfl (by exact Nat.le_of_ble_eq_true rfl) hR (by decide) (by decide) (by decide) rfl dX6_init_10 ?_
  refine x_return hC hZ dX6_init_13 (by decide) (by decide) ?_
  exact ⟨rfl, rfl, rfl, rfl⟩

set_option maxHeartbeats 4000000 in
set_option maxRecDepth 100000 in
theorem c_init6_10 (E : xE) {σ : xM} {ρ : xR} {ks : xKs} {q : Nat} (hq : ks[q]? = some (0, 10)) {kd n v a b w : Int}  : Sp E yX6_init kX6_init 2 0 0 [.ref q, .int (iI kd), .int (iI n), .int (iI v), .int (iI a), .int (iI b), .int (iI w)] σ ρ ks (Fn none (nf σ q kd n v a b w) ρ ks) := by
  refine x_enter (own := RX6) (L := [_, _, _, _, _, _, _]) (by decide +kernel) rfl (by exact Nat.le_of_ble_eq_true rfl) rfl (fun p e R s m args below meth c Z hZ hC hR hin => ?_)
  obtain hqq := hq
  refine x_aload_n (pc := 0) hC dX6_init_0 rfl ?_
  refine x_iload_n (pc := 1) hC dX6_init_1 rfl ?_
  refine x_iload_n (pc := 2) hC dX6_init_2 rfl ?_
  refine x_iload_n (pc := 3) hC dX6_init_3 rfl ?_
  refine x_iload (pc := 4) hC dX6_init_4 rfl ?_
  refine x_iload (pc := 6) hC dX6_init_6 rfl ?_
  refine x_iload (pc := 8) hC dX6_init_8 rfl ?_
  refine x_callI0 (As := [_, _, _, _, _, _]) (Bs := [_, _, _, _, _, _]) (pc := 10) hC (c_init0_10 E hq) wX6_1 pX0_init rfl rfl (by exact Nat.le_of_ble_eq_true rfl) hR (by decide) (by decide) (by decide) rfl dX6_init_10 ?_
  refine x_return hC hZ dX6_init_13 (by decide) (by decide) ?_
  exact ⟨rfl, rfl, rfl, rfl⟩

set_option maxHeartbeats 4000000 in
set_option maxRecDepth 100000 in
theorem c_init9_7 (E : xE) {σ : xM} {ρ : xR} {ks : xKs} {q : Nat} (hq : ks[q]? = some (0, 7)) {kd n v a b w : Int}  : Sp E yX9_init kX9_init 2 0 0 [.ref q, .int (iI kd), .int (iI n), .int (iI v), .int (iI a), .int (iI b), .int (iI w)] σ ρ ks (Fn none (nf σ q kd n v a b w) ρ ks) := by
  refine x_enter (own := RX9) (L := [_, _, _, _, _, _, _]) (by decide +kernel) rfl (by exact Nat.le_of_ble_eq_true rfl) rfl (fun p e R s m args below meth c Z hZ hC hR hin => ?_)
  obtain hqq := hq
  refine x_aload_n (pc := 0) hC dX9_init_0 rfl ?_
  refine x_iload_n (pc := 1) hC dX9_init_1 rfl ?_
  refine x_iload_n (pc := 2) hC dX9_init_2 rfl ?_
  refine x_iload_n (pc := 3) hC dX9_init_3 rfl ?_
  refine x_iload (pc := 4) hC dX9_init_4 rfl ?_
  refine x_iload (pc := 6) hC dX9_init_6 rfl ?_
  refine x_iload (pc := 8) hC dX9_init_8 rfl ?_
  refine x_callI0 (As := [_, _, _, _, _, _]) (Bs := [_, _, _, _, _, _]) (pc := 10) hC (c_init0_7 E hq) wX9_1 pX0_init rfl rfl (by exact Nat.le_of_ble_eq_true rfl) hR (by decide) (by decide) (by decide) rfl dX9_init_10 ?_
  refine x_return hC hZ dX9_init_13 (by decide) (by decide) ?_
  exact ⟨rfl, rfl, rfl, rfl⟩

set_option maxHeartbeats 4000000 in
set_option maxRecDepth 100000 in
theorem c_init9_9 (E : xE) {σ : xM} {ρ : xR} {ks : xKs} {q : Nat} (hq : ks[q]? = some (0, 9)) {kd n v a b w : Int}  : Sp E yX9_init kX9_init 2 0 0 [.ref q, .int (iI kd), .int (iI n), .int (iI v), .int (iI a), .int (iI b), .int (iI w)] σ ρ ks (Fn none (nf σ q kd n v a b w) ρ ks) := by
  refine x_enter (own := RX9) (L := [_, _, _, _, _, _, _]) (by decide +kernel) rfl (by exact Nat.le_of_ble_eq_true rfl) rfl (fun p e R s m args below meth c Z hZ hC hR hin => ?_)
  obtain hqq := hq
  refine x_aload_n (pc := 0) hC dX9_init_0 rfl ?_
  refine x_iload_n (pc := 1) hC dX9_init_1 rfl ?_
  refine x_iload_n (pc := 2) hC dX9_init_2 rfl ?_
  refine x_iload_n (pc := 3) hC dX9_init_3 rfl ?_
  refine x_iload (pc := 4) hC dX9_init_4 rfl ?_
  refine x_iload (pc := 6) hC dX9_init_6 rfl ?_
  refine x_iload (pc := 8) hC dX9_init_8 rfl ?_
  refine x_callI0 (As := [_, _, _, _, _, _]) (Bs := [_, _, _, _, _, _]) (pc := 10) hC (c_init0_9 E hq) wX9_1 pX0_init rfl rfl (by exact Nat.le_of_ble_eq_true rfl) hR (by decide) (by decide) (by decide) rfl dX9_init_10 ?_
  refine x_return hC hZ dX9_init_13 (by decide) (by decide) ?_
  exact ⟨rfl, rfl, rfl, rfl⟩

set_option maxHeartbeats 4000000 in
set_option maxRecDepth 100000 in
theorem c_init2_2 (E : xE) {σ : xM} {ρ : xR} {ks : xKs} {q : Nat} (hq : ks[q]? = some (0, 2)) {kd n v a b w : Int}  : Sp E yX2_init kX2_init 3 0 0 [.ref q, .int (iI kd), .int (iI n), .int (iI v), .int (iI a), .int (iI b), .int (iI w)] σ ρ ks (Fn none (nf σ q kd n v a b w) ρ ks) := by
  refine x_enter (own := RX2) (L := [_, _, _, _, _, _, _]) (by decide +kernel) rfl (by exact Nat.le_of_ble_eq_true rfl) rfl (fun p e R s m args below meth c Z hZ hC hR hin => ?_)
  obtain hqq := hq
  refine x_aload_n (pc := 0) hC dX2_init_0 rfl ?_
  refine x_iload_n (pc := 1) hC dX2_init_1 rfl ?_
  refine x_iload_n (pc := 2) hC dX2_init_2 rfl ?_
  refine x_iload_n (pc := 3) hC dX2_init_3 rfl ?_
  refine x_iload (pc := 4) hC dX2_init_4 rfl ?_
  refine x_iload (pc := 6) hC dX2_init_6 rfl ?_
  refine x_iload (pc := 8) hC dX2_init_8 rfl ?_
  refine x_callI0 (As := [_, _, _, _, _, _]) (Bs := [_, _, _, _, _, _]) (pc := 10) hC (c_init3_2 E hq) wX2_1 pX3_init rfl rfl (by exact Nat.le_of_ble_eq_true rfl) hR (by decide) (by decide) (by decide) rfl dX2_init_10 ?_
  refine x_return hC hZ dX2_init_13 (by decide) (by decide) ?_
  exact ⟨rfl, rfl, rfl, rfl⟩

set_option maxHeartbeats 4000000 in
set_option maxRecDepth 100000 in
theorem c_init10_10 (E : xE) {σ : xM} {ρ : xR} {ks : xKs} {q : Nat} (hq : ks[q]? = some (0, 10)) {kd n v a b w : Int}  : Sp E yX10_init kX10_init 3 0 0 [.ref q, .int (iI kd), .int (iI n), .int (iI v), .int (iI a), .int (iI b), .int (iI w)] σ ρ ks (Fn none (nf σ q kd n v a b w) ρ ks) := by
  refine x_enter (own := RX10) (L := [_, _, _, _, _, _, _]) (by decide +kernel) rfl (by exact Nat.le_of_ble_eq_true rfl) rfl (fun p e R s m args below meth c Z hZ hC hR hin => ?_)
  obtain hqq := hq
  refine x_aload_n (pc := 0) hC dX10_init_0 rfl ?_
  refine x_iload_n (pc := 1) hC dX10_init_1 rfl ?_
  refine x_iload_n (pc := 2) hC dX10_init_2 rfl ?_
  refine x_iload_n (pc := 3) hC dX10_init_3 rfl ?_
  refine x_iload (pc := 4) hC dX10_init_4 rfl ?_
  refine x_iload (pc := 6) hC dX10_init_6 rfl ?_
  refine x_iload (pc := 8) hC dX10_init_8 rfl ?_
  refine x_callI0 (As := [_, _, _, _, _, _]) (Bs := [_, _, _, _, _, _]) (pc := 10) hC (c_init6_10 E hq) wX10_3 pX6_init rfl rfl (by exact Nat.le_of_ble_eq_true rfl) hR (by decide) (by decide) (by decide) rfl dX10_init_10 ?_
  refine x_return hC hZ dX10_init_13 (by decide) (by decide) ?_
  exact ⟨rfl, rfl, rfl, rfl⟩

set_option maxHeartbeats 4000000 in
set_option maxRecDepth 100000 in
theorem c_init7_7 (E : xE) {σ : xM} {ρ : xR} {ks : xKs} {q : Nat} (hq : ks[q]? = some (0, 7)) {kd n v a b w : Int}  : Sp E yX7_init kX7_init 3 1 4 [.ref q, .int (iI kd), .int (iI n), .int (iI v), .int (iI a), .int (iI b), .int (iI w)] σ ρ ks (Fn none (zr (nf σ q kd n v a b w) ks.length) (wq (nr ρ ks.length) q 7 (some ks.length)) (ks ++ [(1, 4)])) := by
  refine x_enter (own := RX7) (L := [_, _, _, _, _, _, _]) (by decide +kernel) rfl (by exact Nat.le_of_ble_eq_true rfl) rfl (fun p e R s m args below meth c Z hZ hC hR hin => ?_)
  obtain hqq := hq
  refine x_aload_n (pc := 0) hC dX7_init_0 rfl ?_
  refine x_iload_n (pc := 1) hC dX7_init_1 rfl ?_
  refine x_iload_n (pc := 2) hC dX7_init_2 rfl ?_
  refine x_iload_n (pc := 3) hC dX7_init_3 rfl ?_
  refine x_iload (pc := 4) hC dX7_init_4 rfl ?_
  refine x_iload (pc := 6) hC dX7_init_6 rfl ?_
  refine x_iload (pc := 8) hC dX7_init_8 rfl ?_
  refine x_callI0 (As := [_, _, _, _, _, _]) (Bs := [_, _, _, _, _, _]) (pc := 10) hC (c_init9_7 E hq) wX7_1 pX9_init rfl rfl (by exact Nat.le_of_ble_eq_true rfl) hR (by decide) (by decide) (by decide) rfl dX7_init_10 ?_
  refine x_aload_n (pc := 13) hC dX7_init_13 rfl ?_
  refine x_iconst (pc := 14) hC dX7_init_14 ?_
  refine x_newI (n := 4) (pc := 15) hC rfl a_int (by decide) hR (by decide) dX7_init_15 ?_
  have hq2 : (ks ++ [(1, 4)])[q]? = some (0, 7) := by rw [List.getElem?_append_left (List.getElem?_eq_some_iff.mp hq).1]; exact hq
  refine x_putr (K := 7) (pc := 17) hC rfl (some _) fX7_7_7 (Or.inr ⟨hin, rfl⟩) (by assumption) dX7_init_17 rfl rfl ?_
  refine x_return hC hZ dX7_init_20 (by decide) (by decide) ?_
  exact ⟨rfl, rfl, rfl, rfl⟩

def nk (kd : Int) : xKs := if kd = 6 then [(0, 7), (1, 4)] else [(0, kci kd)]
def NewF (σ σ' : xM) (ρ ρ' : xR) (ks ks' : xKs) (kd n v a b w : Int) : Prop := (∀ p, p < ks.length → σ' p = σ p ∧ ρ' p = ρ p) ∧ ks' = ks ++ nk kd ∧ (σ' ks.length 0 = kd ∧ σ' ks.length 1 = n ∧ σ' ks.length 2 = v ∧ σ' ks.length 3 = a ∧ σ' ks.length 4 = b ∧ σ' ks.length 5 = w ∧ σ' ks.length 6 = 1) ∧ (kd = 6 → ρ' ks.length 7 = some (ks.length + 1) ∧ ∀ j, σ' (ks.length + 1) j = 0)
set_option maxHeartbeats 4000000 in
set_option maxRecDepth 100000 in
theorem c_newFan (E : xE) {σ : xM} {ρ : xR} {ks : xKs} {kd n v a b w : Int} (hkd : 0 ≤ kd ∧ kd ≤ 6) : Sp E yX11_newFan kX11_newFan 4 2 12 [.int (iI kd), .int (iI n), .int (iI v), .int (iI a), .int (iI b), .int (iI w)] σ ρ ks (fun r σ' ρ' ks' => r = some (.ref ks.length) ∧ NewF σ σ' ρ ρ' ks ks' kd n v a b w) := by
  refine x_enter (own := RX11) (L := [_, _, _, _, _, _]) (by decide +kernel) rfl (by exact Nat.le_of_ble_eq_true rfl) rfl (fun p e R s m args below meth c Z hZ hC hR hin => ?_)
  refine x_iload_n (pc := 0) hC dX11_newFan_0 rfl ?_
  have csw : kd = 1 ∨ kd = 2 ∨ kd = 3 ∨ kd = 4 ∨ kd = 5 ∨ kd = 6 ∨ (kd < 1 ∨ 6 < kd) := by omega
  rcases csw with c1 | c1 | c1 | c1 | c1 | c1 | c1
  · refine x_tabIn (tgt := 40) (pc := 1) hC (by omega) dX11_newFan_1 (by omega) (by omega) 0 (by omega) rfl (by decide) ?_
    refine x_new (pc := 40) hC (by decide) uwX6 nX11_275 hR (by decide) dX11_newFan_40 ?_
    have hn6 : (ks ++ [((0 : Nat), (6 : Nat))])[ks.length]? = some (0, 6) := by simp
    refine x_dup (pc := 43) hC dX11_newFan_43 rfl ?_
    refine x_iload_n (pc := 44) hC dX11_newFan_44 rfl ?_
    refine x_iload_n (pc := 45) hC dX11_newFan_45 rfl ?_
    refine x_iload_n (pc := 46) hC dX11_newFan_46 rfl ?_
    refine x_iload_n (pc := 47) hC dX11_newFan_47 rfl ?_
    refine x_iload (pc := 48) hC dX11_newFan_48 rfl ?_
    refine x_iload (pc := 50) hC dX11_newFan_50 rfl ?_
    refine x_callI0 (As := [_, _, _, _, _, _]) (Bs := [_, _, _, _, _, _]) (pc := 52) hC (c_init6_6 E hn6) wX11_277 pX6_init rfl rfl (by exact Nat.le_of_ble_eq_true rfl) hR (by decide) (by decide) (by decide) rfl dX11_newFan_52 ?_
    refine x_areturn hC (some _) rfl hZ dX11_newFan_55 (by decide) (by decide) ?_
    exact ⟨rfl, fun p hp => ⟨by rw [nf_p _ (by omega)]; funext j; unfold zr; rw [if_neg (by omega)], by funext j; rw [nr_o _ (by omega)]⟩, by rw [nk, if_neg (by omega)]; rw [show kci kd = 6 by unfold kci; simp [c1]], nf_v _ _ _ _ _ _ _ _, fun h6 => absurd h6 (by omega)⟩
  · refine x_tabIn (tgt := 56) (pc := 1) hC (by omega) dX11_newFan_1 (by omega) (by omega) 1 (by omega) rfl (by decide) ?_
    refine x_new (pc := 56) hC (by decide) uwX9 nX11_280 hR (by decide) dX11_newFan_56 ?_
    have hn9 : (ks ++ [((0 : Nat), (9 : Nat))])[ks.length]? = some (0, 9) := by simp
    refine x_dup (pc := 59) hC dX11_newFan_59 rfl ?_
    refine x_iload_n (pc := 60) hC dX11_newFan_60 rfl ?_
    refine x_iload_n (pc := 61) hC dX11_newFan_61 rfl ?_
    refine x_iload_n (pc := 62) hC dX11_newFan_62 rfl ?_
    refine x_iload_n (pc := 63) hC dX11_newFan_63 rfl ?_
    refine x_iload (pc := 64) hC dX11_newFan_64 rfl ?_
    refine x_iload (pc := 66) hC dX11_newFan_66 rfl ?_
    refine x_callI0 (As := [_, _, _, _, _, _]) (Bs := [_, _, _, _, _, _]) (pc := 68) hC (c_init9_9 E hn9) wX11_282 pX9_init rfl rfl (by exact Nat.le_of_ble_eq_true rfl) hR (by decide) (by decide) (by decide) rfl dX11_newFan_68 ?_
    refine x_areturn hC (some _) rfl hZ dX11_newFan_71 (by decide) (by decide) ?_
    exact ⟨rfl, fun p hp => ⟨by rw [nf_p _ (by omega)]; funext j; unfold zr; rw [if_neg (by omega)], by funext j; rw [nr_o _ (by omega)]⟩, by rw [nk, if_neg (by omega)]; rw [show kci kd = 9 by unfold kci; simp [c1]], nf_v _ _ _ _ _ _ _ _, fun h6 => absurd h6 (by omega)⟩
  · refine x_tabIn (tgt := 72) (pc := 1) hC (by omega) dX11_newFan_1 (by omega) (by omega) 2 (by omega) rfl (by decide) ?_
    refine x_new (pc := 72) hC (by decide) uwX3 nX11_283 hR (by decide) dX11_newFan_72 ?_
    have hn3 : (ks ++ [((0 : Nat), (3 : Nat))])[ks.length]? = some (0, 3) := by simp
    refine x_dup (pc := 75) hC dX11_newFan_75 rfl ?_
    refine x_iload_n (pc := 76) hC dX11_newFan_76 rfl ?_
    refine x_iload_n (pc := 77) hC dX11_newFan_77 rfl ?_
    refine x_iload_n (pc := 78) hC dX11_newFan_78 rfl ?_
    refine x_iload_n (pc := 79) hC dX11_newFan_79 rfl ?_
    refine x_iload (pc := 80) hC dX11_newFan_80 rfl ?_
    refine x_iload (pc := 82) hC dX11_newFan_82 rfl ?_
    refine x_callI0 (As := [_, _, _, _, _, _]) (Bs := [_, _, _, _, _, _]) (pc := 84) hC (c_init3_3 E hn3) wX11_285 pX3_init rfl rfl (by exact Nat.le_of_ble_eq_true rfl) hR (by decide) (by decide) (by decide) rfl dX11_newFan_84 ?_
    refine x_areturn hC (some _) rfl hZ dX11_newFan_87 (by decide) (by decide) ?_
    exact ⟨rfl, fun p hp => ⟨by rw [nf_p _ (by omega)]; funext j; unfold zr; rw [if_neg (by omega)], by funext j; rw [nr_o _ (by omega)]⟩, by rw [nk, if_neg (by omega)]; rw [show kci kd = 3 by unfold kci; simp [c1]], nf_v _ _ _ _ _ _ _ _, fun h6 => absurd h6 (by omega)⟩
  · refine x_tabIn (tgt := 88) (pc := 1) hC (by omega) dX11_newFan_1 (by omega) (by omega) 3 (by omega) rfl (by decide) ?_
    refine x_new (pc := 88) hC (by decide) uwX10 nX11_286 hR (by decide) dX11_newFan_88 ?_
    have hn10 : (ks ++ [((0 : Nat), (10 : Nat))])[ks.length]? = some (0, 10) := by simp
    refine x_dup (pc := 91) hC dX11_newFan_91 rfl ?_
    refine x_iload_n (pc := 92) hC dX11_newFan_92 rfl ?_
    refine x_iload_n (pc := 93) hC dX11_newFan_93 rfl ?_
    refine x_iload_n (pc := 94) hC dX11_newFan_94 rfl ?_
    refine x_iload_n (pc := 95) hC dX11_newFan_95 rfl ?_
    refine x_iload (pc := 96) hC dX11_newFan_96 rfl ?_
    refine x_iload (pc := 98) hC dX11_newFan_98 rfl ?_
    refine x_callI0 (As := [_, _, _, _, _, _]) (Bs := [_, _, _, _, _, _]) (pc := 100) hC (c_init10_10 E hn10) wX11_288 pX10_init rfl rfl (by exact Nat.le_of_ble_eq_true rfl) hR (by decide) (by decide) (by decide) rfl dX11_newFan_100 ?_
    refine x_areturn hC (some _) rfl hZ dX11_newFan_103 (by decide) (by decide) ?_
    exact ⟨rfl, fun p hp => ⟨by rw [nf_p _ (by omega)]; funext j; unfold zr; rw [if_neg (by omega)], by funext j; rw [nr_o _ (by omega)]⟩, by rw [nk, if_neg (by omega)]; rw [show kci kd = 10 by unfold kci; simp [c1]], nf_v _ _ _ _ _ _ _ _, fun h6 => absurd h6 (by omega)⟩
  · refine x_tabIn (tgt := 104) (pc := 1) hC (by omega) dX11_newFan_1 (by omega) (by omega) 4 (by omega) rfl (by decide) ?_
    refine x_new (pc := 104) hC (by decide) uwX2 nX11_289 hR (by decide) dX11_newFan_104 ?_
    have hn2 : (ks ++ [((0 : Nat), (2 : Nat))])[ks.length]? = some (0, 2) := by simp
    refine x_dup (pc := 107) hC dX11_newFan_107 rfl ?_
    refine x_iload_n (pc := 108) hC dX11_newFan_108 rfl ?_
    refine x_iload_n (pc := 109) hC dX11_newFan_109 rfl ?_
    refine x_iload_n (pc := 110) hC dX11_newFan_110 rfl ?_
    refine x_iload_n (pc := 111) hC dX11_newFan_111 rfl ?_
    refine x_iload (pc := 112) hC dX11_newFan_112 rfl ?_
    refine x_iload (pc := 114) hC dX11_newFan_114 rfl ?_
    refine x_callI0 (As := [_, _, _, _, _, _]) (Bs := [_, _, _, _, _, _]) (pc := 116) hC (c_init2_2 E hn2) wX11_291 pX2_init rfl rfl (by exact Nat.le_of_ble_eq_true rfl) hR (by decide) (by decide) (by decide) rfl dX11_newFan_116 ?_
    refine x_areturn hC (some _) rfl hZ dX11_newFan_119 (by decide) (by decide) ?_
    exact ⟨rfl, fun p hp => ⟨by rw [nf_p _ (by omega)]; funext j; unfold zr; rw [if_neg (by omega)], by funext j; rw [nr_o _ (by omega)]⟩, by rw [nk, if_neg (by omega)]; rw [show kci kd = 2 by unfold kci; simp [c1]], nf_v _ _ _ _ _ _ _ _, fun h6 => absurd h6 (by omega)⟩
  · refine x_tabIn (tgt := 120) (pc := 1) hC (by omega) dX11_newFan_1 (by omega) (by omega) 5 (by omega) rfl (by decide) ?_
    refine x_new (pc := 120) hC (by decide) uwX7 nw7 hR (by decide) dX11_newFan_120 ?_
    have hn7 : (ks ++ [((0 : Nat), (7 : Nat))])[ks.length]? = some (0, 7) := by simp
    refine x_dup (pc := 123) hC dX11_newFan_123 rfl ?_
    refine x_iload_n (pc := 124) hC dX11_newFan_124 rfl ?_
    refine x_iload_n (pc := 125) hC dX11_newFan_125 rfl ?_
    refine x_iload_n (pc := 126) hC dX11_newFan_126 rfl ?_
    refine x_iload_n (pc := 127) hC dX11_newFan_127 rfl ?_
    refine x_iload (pc := 128) hC dX11_newFan_128 rfl ?_
    refine x_iload (pc := 130) hC dX11_newFan_130 rfl ?_
    refine x_callI (As := [_, _, _, _, _, _]) (Bs := [_, _, _, _, _, _]) (pc := 132) hC (c_init7_7 E hn7) wX11_292 pX7_init rfl rfl (by exact Nat.le_of_ble_eq_true rfl) hR (by decide) (by decide) (by decide) rfl dX11_newFan_132 (fun r132 σ132 ρ132 ks132 q132 => ?_)
    obtain ⟨rfl, rfl, rfl, rfl⟩ := q132
    refine x_areturn hC (some _) rfl hZ dX11_newFan_135 (by decide) (by decide) ?_
    have hv := nf_v (zr σ ks.length) ks.length kd n v a b w
    have hlen : (ks ++ [(0, 7)]).length = ks.length + 1 := by simp
    refine ⟨rfl, fun p hp => ⟨?_, ?_⟩, by rw [nk, if_pos (by omega), List.append_assoc]; rfl, ?_, fun _ => ⟨?_, fun j => ?_⟩⟩
    · funext j; unfold zr; rw [hlen, if_neg (by omega), nf_p _ (by omega), if_neg (by omega)]
    · funext j; rw [wq_p _ (by omega), nr_o _ (by omega), nr_o _ (by omega)]
    · have : ∀ j, zr (nf (zr σ ks.length) ks.length kd n v a b w) (ks ++ [(0, 7)]).length ks.length j = nf (zr σ ks.length) ks.length kd n v a b w ks.length j := fun j => by unfold zr; rw [hlen, if_neg (by omega)]
      simp only [this]; exact hv
    · rw [wq_eq, hlen]
    · unfold zr; rw [hlen, if_pos rfl]
  · refine x_tabOut (tgt := 136) (pc := 1) hC (by omega) dX11_newFan_1 (by omega) (by decide) ?_
    refine x_new (pc := 136) hC (by decide) uwX0 nX11_86 hR (by decide) dX11_newFan_136 ?_
    have hn0 : (ks ++ [((0 : Nat), (0 : Nat))])[ks.length]? = some (0, 0) := by simp
    refine x_dup (pc := 139) hC dX11_newFan_139 rfl ?_
    refine x_iload_n (pc := 140) hC dX11_newFan_140 rfl ?_
    refine x_iload_n (pc := 141) hC dX11_newFan_141 rfl ?_
    refine x_iload_n (pc := 142) hC dX11_newFan_142 rfl ?_
    refine x_iload_n (pc := 143) hC dX11_newFan_143 rfl ?_
    refine x_iload (pc := 144) hC dX11_newFan_144 rfl ?_
    refine x_iload (pc := 146) hC dX11_newFan_146 rfl ?_
    refine x_callI0 (As := [_, _, _, _, _, _]) (Bs := [_, _, _, _, _, _]) (pc := 148) hC (c_init0_0 E hn0) wX11_293 pX0_init rfl rfl (by exact Nat.le_of_ble_eq_true rfl) hR (by decide) (by decide) (by decide) rfl dX11_newFan_148 ?_
    refine x_areturn hC (some _) rfl hZ dX11_newFan_151 (by decide) (by decide) ?_
    exact ⟨rfl, fun p hp => ⟨by rw [nf_p _ (by omega)]; funext j; unfold zr; rw [if_neg (by omega)], by funext j; rw [nr_o _ (by omega)]⟩, by rw [nk, if_neg (by omega)]; rw [show kci kd = 0 by rw [show kd = 0 by omega]; rfl], nf_v _ _ _ _ _ _ _ _, fun h6 => absurd h6 (by omega)⟩
