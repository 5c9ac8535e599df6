def feedA (z : zS) (x : Int) : Int := if ¬ (0 ≤ x ∧ x ≤ 127) then -2 else if z 19 = 100 then -4 else z 19 + 1
def feedZ (z : zS) (x : Int) : zS := if ¬ (0 ≤ x ∧ x ≤ 127) then z else if z 19 = 100 then z else up (up z (118 + z 19) x) 19 (z 19 + 1)
set_option maxHeartbeats 4000000 in
set_option maxRecDepth 100000 in
theorem s_feed (E : xE) {σ : xM} {ρ : xR} {ks : xKs} (hk : MK ks) (hw : MW ρ) {x : Int} (hx : rg x) (ht : 0 ≤ σ 47 19 ∧ σ 47 19 ≤ 100) : Sp E yX12_feed kX12_feed 2 0 0 [.ref 46, .int (iI x)] σ ρ ks (Fn (some (.int (iI (feedA (σ 47) x)))) (sw σ 47 (feedZ (σ 47) x)) ρ ks) := by
  obtain ⟨k46, k47, k48, k49, k50, k51, k52, k53, k54⟩ := id hk
  obtain ⟨w1, w2, w3, w10, w11, w14, w15, w16⟩ := id hw
  refine x_enter (own := RX12) (L := [_, _]) (by decide +kernel) rfl (by exact Nat.le_of_ble_eq_true rfl) rfl (fun p e R s m args below meth c Z hZ hC hR hin => ?_)
  refine x_iload_n (pc := 0) hC dX12_feed_0 rfl ?_
  refine x_iconst (pc := 1) hC dX12_feed_1 ?_
  refine x_bipush (pc := 2) hC dX12_feed_2 (by decide +kernel) ?_
  refine x_callS1 (As := [_, _, _]) (Bs := [_, _, _]) (pc := 4) hC (s_in E (by omega) (by omega) (by omega)) wX12_41 pX12_in rfl rfl (by exact Nat.le_of_ble_eq_true rfl) hR (by decide) (by decide) (by decide) rfl dX12_feed_4 ?_
  refine x_ifB_ne (tgt := 13) (pc := 7) hC  dX12_feed_7 (by decide) (fun c7 => ?_) (fun c7 => ?_)
  · refine x_aload_n (pc := 13) hC dX12_feed_13 rfl ?_
    refine x_getr (K := 1) (pc := 14) hC fX12_9_12 (by assumption) dX12_feed_14 rfl rfl (by assumption) ?_
    refine x_bipush (pc := 17) hC dX12_feed_17 (by decide +kernel) ?_
    refine x_iald (pc := 19) hC (by assumption) (by omega) dX12_feed_19 ?_
    refine x_bipush (pc := 20) hC dX12_feed_20 (by decide +kernel) ?_
    refine x_icmp_ne (tgt := 28) (pc := 22) hC (by omega) (by omega) dX12_feed_22 (by decide) (fun c22 => ?_) (fun c22 => ?_)
    · refine x_aload_n (pc := 28) hC dX12_feed_28 rfl ?_
      refine x_getr (K := 1) (pc := 29) hC fX12_9_12 (by assumption) dX12_feed_29 rfl rfl (by assumption) ?_
      refine x_bipush (pc := 32) hC dX12_feed_32 (by decide +kernel) ?_
      refine x_aload_n (pc := 34) hC dX12_feed_34 rfl ?_
      refine x_getr (K := 1) (pc := 35) hC fX12_9_12 (by assumption) dX12_feed_35 rfl rfl (by assumption) ?_
      refine x_bipush (pc := 38) hC dX12_feed_38 (by decide +kernel) ?_
      refine x_iald (pc := 40) hC (by assumption) (by omega) dX12_feed_40 ?_
      refine x_iadd (pc := 41) hC dX12_feed_41 ?_
      refine x_iload_n (pc := 42) hC dX12_feed_42 rfl ?_
      refine x_iast (pc := 43) hC (by assumption) (by omega) dX12_feed_43 ?_
      refine X.mem (σ' := sw σ 47 _) (by exact wr_sw _ _ _ _) ?_
      refine x_aload_n (pc := 44) hC dX12_feed_44 rfl ?_
      refine x_getr (K := 1) (pc := 45) hC fX12_9_12 (by assumption) dX12_feed_45 rfl rfl (by assumption) ?_
      refine x_bipush (pc := 48) hC dX12_feed_48 (by decide +kernel) ?_
      refine x_dup2 (pc := 50) hC dX12_feed_50 rfl rfl ?_
      refine x_iald (pc := 51) hC (by assumption) (by omega) dX12_feed_51 ?_
      simp (disch := omega) only [sw_eq, up_ne, up_eq]
      refine x_iconst (pc := 52) hC dX12_feed_52 ?_
      refine x_iadd (pc := 53) hC dX12_feed_53 ?_
      refine x_iast (pc := 54) hC (by assumption) (by omega) dX12_feed_54 ?_
      refine X.mem (σ' := sw σ 47 _) (by rw [wr_sw, sw_eq, sw_sw]) ?_
      refine x_aload_n (pc := 55) hC dX12_feed_55 rfl ?_
      refine x_getr (K := 1) (pc := 56) hC fX12_9_12 (by assumption) dX12_feed_56 rfl rfl (by assumption) ?_
      refine x_bipush (pc := 59) hC dX12_feed_59 (by decide +kernel) ?_
      refine x_iald (pc := 61) hC (by assumption) (by omega) dX12_feed_61 ?_
      simp (disch := omega) only [sw_eq, up_ne, up_eq]
      refine x_ireturn hC hZ dX12_feed_62 (by decide) (by decide) ?_
      exact ⟨congrArg (fun z => some (Value.int (iI z))) (by rw [feedA, if_neg (by omega), if_neg (by omega)]), by rw [feedZ, if_neg (by omega), if_neg (by omega)], rfl, rfl⟩
    · refine x_bipush (pc := 25) hC dX12_feed_25 (by decide +kernel) ?_
      refine x_ireturn hC hZ dX12_feed_27 (by decide) (by decide) ?_
      exact ⟨congrArg (fun z => some (Value.int (iI z))) (by rw [feedA, if_neg (by omega), if_pos (by omega)]), by rw [feedZ, if_neg (by omega), if_pos (by omega), sw_id], rfl, rfl⟩
  · refine x_bipush (pc := 10) hC dX12_feed_10 (by decide +kernel) ?_
    refine x_ireturn hC hZ dX12_feed_12 (by decide) (by decide) ?_
    exact ⟨congrArg (fun z => some (Value.int (iI z))) (by rw [feedA, if_pos (by omega)]), by rw [feedZ, if_pos (by omega), sw_id], rfl, rfl⟩

def fanIn (z : zS) (f : Int) : Prop := 0 ≤ f ∧ f ≤ z 13 - 1
def onA (z : zS) (f : Int) : Int := if ¬ (0 ≤ f ∧ f ≤ z 13 - 1) then -1 else z (42 + f)
def onZ (z : zS) (f b : Int) : zS := if ¬ (0 ≤ f ∧ f ≤ z 13 - 1) then z else up z (42 + f) (if b = 0 then 0 else 1)
set_option maxHeartbeats 4000000 in
set_option maxRecDepth 100000 in
theorem s_on (E : xE) {σ : xM} {ρ : xR} {ks : xKs} (hk : MK ks) (hw : MW ρ) {f b : Int} (hf : rg f) (hb : rg b) (hfan : FansOk (σ 47)) : Sp E yX12_on kX12_on 3 0 0 [.ref 46, .int (iI f), .int (iI b)] σ ρ ks (Fn (some (.int (iI (onA (σ 47) f)))) (sw σ 47 (onZ (σ 47) f b)) ρ ks) := by
  obtain ⟨k46, k47, k48, k49, k50, k51, k52, k53, k54⟩ := id hk
  obtain ⟨w1, w2, w3, w10, w11, w14, w15, w16⟩ := id hw
  have hf13 := hfan.1
  refine x_enter (own := RX12) (L := [_, _, _, _]) (by decide +kernel) rfl (by exact Nat.le_of_ble_eq_true rfl) rfl (fun p e R s m args below meth c Z hZ hC hR hin => ?_)
  refine x_aload_n (pc := 0) hC dX12_on_0 rfl ?_
  refine x_iload_n (pc := 1) hC dX12_on_1 rfl ?_
  refine x_callV1 (As := [_]) (Bs := [_]) (pc := 2) hC (s_isFan E hk hw (by omega) (by omega)) wX12_151_12 pX12_isFan (by assumption) rfl rfl (by exact Nat.le_of_ble_eq_true rfl) hR (by decide) (by decide) (by decide) rfl dX12_on_2 ?_
  refine x_ifB_ne (tgt := 10) (pc := 5) hC  dX12_on_5 (by decide) (fun c5 => ?_) (fun c5 => ?_)
  · refine x_aload_n (pc := 10) hC dX12_on_10 rfl ?_
    refine x_getr (K := 1) (pc := 11) hC fX12_9_12 (by assumption) dX12_on_11 rfl rfl (by assumption) ?_
    refine x_bipush (pc := 14) hC dX12_on_14 (by decide +kernel) ?_
    refine x_iload_n (pc := 16) hC dX12_on_16 rfl ?_
    refine x_iadd (pc := 17) hC dX12_on_17 ?_
    refine x_iald (pc := 18) hC (by assumption) (by omega) dX12_on_18 ?_
    refine x_istore_n (L' := [_, _, _, _]) (pc := 19) hC dX12_on_19 rfl rfl ?_
    refine x_aload_n (pc := 20) hC dX12_on_20 rfl ?_
    refine x_getr (K := 1) (pc := 21) hC fX12_9_12 (by assumption) dX12_on_21 rfl rfl (by assumption) ?_
    refine x_bipush (pc := 24) hC dX12_on_24 (by decide +kernel) ?_
    refine x_iload_n (pc := 26) hC dX12_on_26 rfl ?_
    refine x_iadd (pc := 27) hC dX12_on_27 ?_
    refine x_iload_n (pc := 28) hC dX12_on_28 rfl ?_
    refine x_if_eq (tgt := 36) (pc := 29) hC (by omega) dX12_on_29 (by decide) (fun c29 => ?_) (fun c29 => ?_)
    · refine x_iconst (pc := 36) hC dX12_on_36 ?_
      refine x_iast (pc := 37) hC (by assumption) (by omega) dX12_on_37 ?_
      refine X.mem (σ' := sw σ 47 _) (by exact wr_sw _ _ _ _) ?_
      refine x_iload_n (pc := 38) hC dX12_on_38 rfl ?_
      refine x_ireturn hC hZ dX12_on_39 (by decide) (by decide) ?_
      exact ⟨congrArg (fun z => some (Value.int (iI z))) (by rw [onA, if_neg (by omega)]), by rw [onZ, if_neg (by omega), if_pos c29], rfl, rfl⟩
    · refine x_iconst (pc := 32) hC dX12_on_32 ?_
      refine x_goto (tgt := 37) (pc := 33) hC dX12_on_33 (by decide) ?_
      refine x_iast (pc := 37) hC (by assumption) (by omega) dX12_on_37 ?_
      refine X.mem (σ' := sw σ 47 _) (by exact wr_sw _ _ _ _) ?_
      refine x_iload_n (pc := 38) hC dX12_on_38 rfl ?_
      refine x_ireturn hC hZ dX12_on_39 (by decide) (by decide) ?_
      exact ⟨congrArg (fun z => some (Value.int (iI z))) (by rw [onA, if_neg (by omega)]), by rw [onZ, if_neg (by omega), if_neg c29], rfl, rfl⟩
  · refine x_iconst (pc := 8) hC dX12_on_8 ?_
    refine x_ireturn hC hZ dX12_on_9 (by decide) (by decide) ?_
    exact ⟨congrArg (fun z => some (Value.int (iI z))) (by rw [onA, if_pos (by omega)]), by rw [onZ, if_pos (by omega), sw_id], rfl, rfl⟩

def rowA (z : zS) (f k n : Int) : Int := if ¬ ((0 ≤ f ∧ f ≤ z 13 - 1) ∧ 0 ≤ k ∧ k ≤ 3) then -1 else if ¬ (0 ≤ n ∧ n ≤ 9) then -2 else if ¬ z (22 + f) = 6 then -3 else z (46 + 4 * f + k)
def rowZ (z : zS) (f k n : Int) : zS := if ¬ ((0 ≤ f ∧ f ≤ z 13 - 1) ∧ 0 ≤ k ∧ k ≤ 3) then z else if ¬ (0 ≤ n ∧ n ≤ 9) then z else if ¬ z (22 + f) = 6 then z else up z (46 + 4 * f + k) n
set_option maxHeartbeats 4000000 in
set_option maxRecDepth 100000 in
theorem s_row (E : xE) {σ : xM} {ρ : xR} {ks : xKs} (hk : MK ks) (hw : MW ρ) {f k n : Int} (hf : rg f) (hk0 : rg k) (hn : rg n) (hfan : FansOk (σ 47)) : Sp E yX12_row kX12_row 3 0 0 [.ref 46, .int (iI f), .int (iI k), .int (iI n)] σ ρ ks (Fn (some (.int (iI (rowA (σ 47) f k n)))) (sw σ 47 (rowZ (σ 47) f k n)) ρ ks) := by
  obtain ⟨k46, k47, k48, k49, k50, k51, k52, k53, k54⟩ := id hk
  obtain ⟨w1, w2, w3, w10, w11, w14, w15, w16⟩ := id hw
  have hf13 := hfan.1
  refine x_enter (own := RX12) (L := [_, _, _, _, _]) (by decide +kernel) rfl (by exact Nat.le_of_ble_eq_true rfl) rfl (fun p e R s m args below meth c Z hZ hC hR hin => ?_)
  refine x_aload_n (pc := 0) hC dX12_row_0 rfl ?_
  refine x_iload_n (pc := 1) hC dX12_row_1 rfl ?_
  refine x_callV1 (As := [_]) (Bs := [_]) (pc := 2) hC (s_isFan E hk hw (by omega) (by omega)) wX12_151_12 pX12_isFan (by assumption) rfl rfl (by exact Nat.le_of_ble_eq_true rfl) hR (by decide) (by decide) (by decide) rfl dX12_row_2 ?_
  refine x_ifB_eq (tgt := 17) (pc := 5) hC  dX12_row_5 (by decide) (fun c5 => ?_) (fun c5 => ?_)
  · refine x_iconst (pc := 17) hC dX12_row_17 ?_
    refine x_ireturn hC hZ dX12_row_18 (by decide) (by decide) ?_
    exact ⟨congrArg (fun z => some (Value.int (iI z))) (by rw [rowA, if_pos (by omega)]), by rw [rowZ, if_pos (by omega), sw_id], rfl, rfl⟩
  · refine x_iload_n (pc := 8) hC dX12_row_8 rfl ?_
    refine x_iconst (pc := 9) hC dX12_row_9 ?_
    refine x_iconst (pc := 10) hC dX12_row_10 ?_
    refine x_callS1 (As := [_, _, _]) (Bs := [_, _, _]) (pc := 11) hC (s_in E (by omega) (by omega) (by omega)) wX12_41 pX12_in rfl rfl (by exact Nat.le_of_ble_eq_true rfl) hR (by decide) (by decide) (by decide) rfl dX12_row_11 ?_
    refine x_ifB_ne (tgt := 19) (pc := 14) hC  dX12_row_14 (by decide) (fun c14 => ?_) (fun c14 => ?_)
    · refine x_iload_n (pc := 19) hC dX12_row_19 rfl ?_
      refine x_callS1 (As := [_]) (Bs := [_]) (pc := 20) hC (s_isPlace E (by omega)) wX12_134 pX12_isPlace rfl rfl (by exact Nat.le_of_ble_eq_true rfl) hR (by decide) (by decide) (by decide) rfl dX12_row_20 ?_
      refine x_ifB_ne (tgt := 29) (pc := 23) hC  dX12_row_23 (by decide) (fun c23 => ?_) (fun c23 => ?_)
      · obtain ⟨g1, -⟩ := hfan.2 f (by omega) (by omega)
        refine x_aload_n (pc := 29) hC dX12_row_29 rfl ?_
        refine x_getr (K := 1) (pc := 30) hC fX12_9_12 (by assumption) dX12_row_30 rfl rfl (by assumption) ?_
        refine x_bipush (pc := 33) hC dX12_row_33 (by decide +kernel) ?_
        refine x_iload_n (pc := 35) hC dX12_row_35 rfl ?_
        refine x_iadd (pc := 36) hC dX12_row_36 ?_
        refine x_iald (pc := 37) hC (by assumption) (by omega) dX12_row_37 ?_
        refine x_bipush (pc := 38) hC dX12_row_38 (by decide +kernel) ?_
        refine x_icmp_eq (tgt := 46) (pc := 40) hC (by omega) (by omega) dX12_row_40 (by decide) (fun c40 => ?_) (fun c40 => ?_)
        · refine x_aload_n (pc := 46) hC dX12_row_46 rfl ?_
          refine x_getr (K := 1) (pc := 47) hC fX12_9_12 (by assumption) dX12_row_47 rfl rfl (by assumption) ?_
          refine x_bipush (pc := 50) hC dX12_row_50 (by decide +kernel) ?_
          refine x_iconst (pc := 52) hC dX12_row_52 ?_
          refine x_iload_n (pc := 53) hC dX12_row_53 rfl ?_
          refine x_imul (pc := 54) hC dX12_row_54 ?_
          refine x_iadd (pc := 55) hC dX12_row_55 ?_
          refine x_iload_n (pc := 56) hC dX12_row_56 rfl ?_
          refine x_iadd (pc := 57) hC dX12_row_57 ?_
          refine x_iald (pc := 58) hC (by assumption) (by omega) dX12_row_58 ?_
          refine x_istore (L' := [_, _, _, _, _]) (pc := 59) hC dX12_row_59 rfl rfl ?_
          refine x_aload_n (pc := 61) hC dX12_row_61 rfl ?_
          refine x_getr (K := 1) (pc := 62) hC fX12_9_12 (by assumption) dX12_row_62 rfl rfl (by assumption) ?_
          refine x_bipush (pc := 65) hC dX12_row_65 (by decide +kernel) ?_
          refine x_iconst (pc := 67) hC dX12_row_67 ?_
          refine x_iload_n (pc := 68) hC dX12_row_68 rfl ?_
          refine x_imul (pc := 69) hC dX12_row_69 ?_
          refine x_iadd (pc := 70) hC dX12_row_70 ?_
          refine x_iload_n (pc := 71) hC dX12_row_71 rfl ?_
          refine x_iadd (pc := 72) hC dX12_row_72 ?_
          refine x_iload_n (pc := 73) hC dX12_row_73 rfl ?_
          refine x_iast (pc := 74) hC (by assumption) (by omega) dX12_row_74 ?_
          refine X.mem (σ' := sw σ 47 _) (by exact wr_sw _ _ _ _) ?_
          refine x_iload (pc := 75) hC dX12_row_75 rfl ?_
          refine x_ireturn hC hZ dX12_row_77 (by decide) (by decide) ?_
          exact ⟨congrArg (fun z => some (Value.int (iI z))) (by rw [rowA, if_neg (by omega), if_neg (by omega), if_neg (by omega)]), by rw [rowZ, if_neg (by omega), if_neg (by omega), if_neg (by omega)], rfl, rfl⟩
        · refine x_bipush (pc := 43) hC dX12_row_43 (by decide +kernel) ?_
          refine x_ireturn hC hZ dX12_row_45 (by decide) (by decide) ?_
          exact ⟨congrArg (fun z => some (Value.int (iI z))) (by rw [rowA, if_neg (by omega), if_neg (by omega), if_pos (by omega)]), by rw [rowZ, if_neg (by omega), if_neg (by omega), if_pos (by omega), sw_id], rfl, rfl⟩
      · refine x_bipush (pc := 26) hC dX12_row_26 (by decide +kernel) ?_
        refine x_ireturn hC hZ dX12_row_28 (by decide) (by decide) ?_
        exact ⟨congrArg (fun z => some (Value.int (iI z))) (by rw [rowA, if_neg (by omega), if_pos (by omega)]), by rw [rowZ, if_neg (by omega), if_pos (by omega), sw_id], rfl, rfl⟩
    · refine x_iconst (pc := 17) hC dX12_row_17 ?_
      refine x_ireturn hC hZ dX12_row_18 (by decide) (by decide) ?_
      exact ⟨congrArg (fun z => some (Value.int (iI z))) (by rw [rowA, if_pos (by omega)]), by rw [rowZ, if_pos (by omega), sw_id], rfl, rfl⟩

def sitterA (z : zS) (p h : Int) : Int := if ¬ (0 ≤ p ∧ p ≤ 9) then -1 else if ¬ (0 ≤ h ∧ h ≤ 99) then -2 else if z 14 = 6 then -4 else z 14
def sitterZ (z : zS) (p h : Int) : zS := if ¬ (0 ≤ p ∧ p ≤ 9) then z else if ¬ (0 ≤ h ∧ h ≤ 99) then z else if z 14 = 6 then z else up (up (up (up z (62 + z 14) p) (1 + z 14) h) (7 + z 14) 0) 14 (z 14 + 1)
set_option maxHeartbeats 4000000 in
set_option maxRecDepth 100000 in
theorem s_sitter (E : xE) {σ : xM} {ρ : xR} {ks : xKs} (hk : MK ks) (hw : MW ρ) {q h : Int} (hq : rg q) (hh : rg h) (hsit : SitOk (σ 47)) : Sp E yX12_sitter kX12_sitter 3 0 0 [.ref 46, .int (iI q), .int (iI h)] σ ρ ks (Fn (some (.int (iI (sitterA (σ 47) q h)))) (sw σ 47 (sitterZ (σ 47) q h)) ρ ks) := by
  obtain ⟨k46, k47, k48, k49, k50, k51, k52, k53, k54⟩ := id hk
  obtain ⟨w1, w2, w3, w10, w11, w14, w15, w16⟩ := id hw
  have hs14 := hsit.1
  refine x_enter (own := RX12) (L := [_, _, _, _]) (by decide +kernel) rfl (by exact Nat.le_of_ble_eq_true rfl) rfl (fun p e R s m args below meth c Z hZ hC hR hin => ?_)
  refine x_iload_n (pc := 0) hC dX12_sitter_0 rfl ?_
  refine x_callS1 (As := [_]) (Bs := [_]) (pc := 1) hC (s_isPlace E (by omega)) wX12_134 pX12_isPlace rfl rfl (by exact Nat.le_of_ble_eq_true rfl) hR (by decide) (by decide) (by decide) rfl dX12_sitter_1 ?_
  refine x_ifB_ne (tgt := 9) (pc := 4) hC  dX12_sitter_4 (by decide) (fun c4 => ?_) (fun c4 => ?_)
  · refine x_iload_n (pc := 9) hC dX12_sitter_9 rfl ?_
    refine x_iconst (pc := 10) hC dX12_sitter_10 ?_
    refine x_bipush (pc := 11) hC dX12_sitter_11 (by decide +kernel) ?_
    refine x_callS1 (As := [_, _, _]) (Bs := [_, _, _]) (pc := 13) hC (s_in E (by omega) (by omega) (by omega)) wX12_41 pX12_in rfl rfl (by exact Nat.le_of_ble_eq_true rfl) hR (by decide) (by decide) (by decide) rfl dX12_sitter_13 ?_
    refine x_ifB_ne (tgt := 22) (pc := 16) hC  dX12_sitter_16 (by decide) (fun c16 => ?_) (fun c16 => ?_)
    · refine x_aload_n (pc := 22) hC dX12_sitter_22 rfl ?_
      refine x_getr (K := 1) (pc := 23) hC fX12_9_12 (by assumption) dX12_sitter_23 rfl rfl (by assumption) ?_
      refine x_bipush (pc := 26) hC dX12_sitter_26 (by decide +kernel) ?_
      refine x_iald (pc := 28) hC (by assumption) (by omega) dX12_sitter_28 ?_
      refine x_bipush (pc := 29) hC dX12_sitter_29 (by decide +kernel) ?_
      refine x_icmp_ne (tgt := 37) (pc := 31) hC (by omega) (by omega) dX12_sitter_31 (by decide) (fun c31 => ?_) (fun c31 => ?_)
      · refine x_aload_n (pc := 37) hC dX12_sitter_37 rfl ?_
        refine x_getr (K := 1) (pc := 38) hC fX12_9_12 (by assumption) dX12_sitter_38 rfl rfl (by assumption) ?_
        refine x_bipush (pc := 41) hC dX12_sitter_41 (by decide +kernel) ?_
        refine x_iald (pc := 43) hC (by assumption) (by omega) dX12_sitter_43 ?_
        refine x_istore_n (L' := [_, _, _, _]) (pc := 44) hC dX12_sitter_44 rfl rfl ?_
        refine x_aload_n (pc := 45) hC dX12_sitter_45 rfl ?_
        refine x_getr (K := 1) (pc := 46) hC fX12_9_12 (by assumption) dX12_sitter_46 rfl rfl (by assumption) ?_
        refine x_bipush (pc := 49) hC dX12_sitter_49 (by decide +kernel) ?_
        refine x_iload_n (pc := 51) hC dX12_sitter_51 rfl ?_
        refine x_iadd (pc := 52) hC dX12_sitter_52 ?_
        refine x_iload_n (pc := 53) hC dX12_sitter_53 rfl ?_
        refine x_iast (pc := 54) hC (by assumption) (by omega) dX12_sitter_54 ?_
        refine X.mem (σ' := sw σ 47 _) (by exact wr_sw _ _ _ _) ?_
        refine x_aload_n (pc := 55) hC dX12_sitter_55 rfl ?_
        refine x_getr (K := 1) (pc := 56) hC fX12_9_12 (by assumption) dX12_sitter_56 rfl rfl (by assumption) ?_
        refine x_iconst (pc := 59) hC dX12_sitter_59 ?_
        refine x_iload_n (pc := 60) hC dX12_sitter_60 rfl ?_
        refine x_iadd (pc := 61) hC dX12_sitter_61 ?_
        refine x_iload_n (pc := 62) hC dX12_sitter_62 rfl ?_
        refine x_iast (pc := 63) hC (by assumption) (by omega) dX12_sitter_63 ?_
        refine X.mem (σ' := sw σ 47 _) (by rw [wr_sw, sw_eq, sw_sw]) ?_
        refine x_aload_n (pc := 64) hC dX12_sitter_64 rfl ?_
        refine x_getr (K := 1) (pc := 65) hC fX12_9_12 (by assumption) dX12_sitter_65 rfl rfl (by assumption) ?_
        refine x_bipush (pc := 68) hC dX12_sitter_68 (by decide +kernel) ?_
        refine x_iload_n (pc := 70) hC dX12_sitter_70 rfl ?_
        refine x_iadd (pc := 71) hC dX12_sitter_71 ?_
        refine x_iconst (pc := 72) hC dX12_sitter_72 ?_
        refine x_iast (pc := 73) hC (by assumption) (by omega) dX12_sitter_73 ?_
        refine X.mem (σ' := sw σ 47 _) (by rw [wr_sw, sw_eq, sw_sw]) ?_
        refine x_aload_n (pc := 74) hC dX12_sitter_74 rfl ?_
        refine x_getr (K := 1) (pc := 75) hC fX12_9_12 (by assumption) dX12_sitter_75 rfl rfl (by assumption) ?_
        refine x_bipush (pc := 78) hC dX12_sitter_78 (by decide +kernel) ?_
        refine x_dup2 (pc := 80) hC dX12_sitter_80 rfl rfl ?_
        refine x_iald (pc := 81) hC (by assumption) (by omega) dX12_sitter_81 ?_
        simp (disch := omega) only [sw_eq, up_ne, up_eq]
        refine x_iconst (pc := 82) hC dX12_sitter_82 ?_
        refine x_iadd (pc := 83) hC dX12_sitter_83 ?_
        refine x_iast (pc := 84) hC (by assumption) (by omega) dX12_sitter_84 ?_
        refine X.mem (σ' := sw σ 47 _) (by rw [wr_sw, sw_eq, sw_sw]) ?_
        refine x_iload_n (pc := 85) hC dX12_sitter_85 rfl ?_
        refine x_ireturn hC hZ dX12_sitter_86 (by decide) (by decide) ?_
        exact ⟨congrArg (fun z => some (Value.int (iI z))) (by rw [sitterA, if_neg (by omega), if_neg (by omega), if_neg (by omega)]), by rw [sitterZ, if_neg (by omega), if_neg (by omega), if_neg (by omega)], rfl, rfl⟩
      · refine x_bipush (pc := 34) hC dX12_sitter_34 (by decide +kernel) ?_
        refine x_ireturn hC hZ dX12_sitter_36 (by decide) (by decide) ?_
        exact ⟨congrArg (fun z => some (Value.int (iI z))) (by rw [sitterA, if_neg (by omega), if_neg (by omega), if_pos (by omega)]), by rw [sitterZ, if_neg (by omega), if_neg (by omega), if_pos (by omega), sw_id], rfl, rfl⟩
    · refine x_bipush (pc := 19) hC dX12_sitter_19 (by decide +kernel) ?_
      refine x_ireturn hC hZ dX12_sitter_21 (by decide) (by decide) ?_
      exact ⟨congrArg (fun z => some (Value.int (iI z))) (by rw [sitterA, if_neg (by omega), if_pos (by omega)]), by rw [sitterZ, if_neg (by omega), if_pos (by omega), sw_id], rfl, rfl⟩
  · refine x_iconst (pc := 7) hC dX12_sitter_7 ?_
    refine x_ireturn hC hZ dX12_sitter_8 (by decide) (by decide) ?_
    exact ⟨congrArg (fun z => some (Value.int (iI z))) (by rw [sitterA, if_pos (by omega)]), by rw [sitterZ, if_pos (by omega), sw_id], rfl, rfl⟩

def atA (z : zS) (p w : Int) : Int := if ¬ (0 ≤ p ∧ p ≤ z 14 - 1) then -1 else if w = 0 then z (62 + p) else if w = 1 then z (1 + p) else if w = 2 then z (7 + p) else if w = 3 then metByF z p (z 0) (z 13).toNat else -1
set_option maxHeartbeats 4000000 in
set_option maxRecDepth 100000 in
theorem s_at (E : xE) {σ : xM} {ρ : xR} {ks : xKs} (hk : MK ks) (hw : MW ρ) {q w : Int} (hq : rg q) (hw0 : rg w) (hfan : FansOk (σ 47)) (hsit : SitOk (σ 47)) (ht : 0 ≤ σ 47 0 ∧ σ 47 0 < 1000000) : Sp E yX12_at kX12_at 5 0 0 [.ref 46, .int (iI q), .int (iI w)] σ ρ ks (Fn (some (.int (iI (atA (σ 47) q w)))) (σ) ρ ks) := by
  obtain ⟨k46, k47, k48, k49, k50, k51, k52, k53, k54⟩ := id hk
  obtain ⟨w1, w2, w3, w10, w11, w14, w15, w16⟩ := id hw
  have hf13 := hfan.1
  have hs14 := hsit.1
  refine x_enter (own := RX12) (L := [_, _, _]) (by decide +kernel) rfl (by exact Nat.le_of_ble_eq_true rfl) rfl (fun p e R s m args below meth c Z hZ hC hR hin => ?_)
  refine x_aload_n (pc := 0) hC dX12_at_0 rfl ?_
  refine x_iload_n (pc := 1) hC dX12_at_1 rfl ?_
  refine x_callV1 (As := [_]) (Bs := [_]) (pc := 2) hC (s_isSitter E hk hw (by omega) (by omega)) wX12_157_12 pX12_isSitter (by assumption) rfl rfl (by exact Nat.le_of_ble_eq_true rfl) hR (by decide) (by decide) (by decide) rfl dX12_at_2 ?_
  refine x_ifB_ne (tgt := 10) (pc := 5) hC  dX12_at_5 (by decide) (fun c5 => ?_) (fun c5 => ?_)
  · refine x_iload_n (pc := 10) hC dX12_at_10 rfl ?_
    refine x_if_ne (tgt := 26) (pc := 11) hC (by omega) dX12_at_11 (by decide) (fun c11 => ?_) (fun c11 => ?_)
    · refine x_iload_n (pc := 26) hC dX12_at_26 rfl ?_
      refine x_iconst (pc := 27) hC dX12_at_27 ?_
      refine x_icmp_ne (tgt := 42) (pc := 28) hC (by omega) (by omega) dX12_at_28 (by decide) (fun c28 => ?_) (fun c28 => ?_)
      · refine x_iload_n (pc := 42) hC dX12_at_42 rfl ?_
        refine x_iconst (pc := 43) hC dX12_at_43 ?_
        refine x_icmp_ne (tgt := 59) (pc := 44) hC (by omega) (by omega) dX12_at_44 (by decide) (fun c44 => ?_) (fun c44 => ?_)
        · refine x_iload_n (pc := 59) hC dX12_at_59 rfl ?_
          refine x_iconst (pc := 60) hC dX12_at_60 ?_
          refine x_icmp_ne (tgt := 72) (pc := 61) hC (by omega) (by omega) dX12_at_61 (by decide) (fun c61 => ?_) (fun c61 => ?_)
          · refine x_iconst (pc := 72) hC dX12_at_72 ?_
            refine x_ireturn hC hZ dX12_at_73 (by decide) (by decide) ?_
            exact ⟨congrArg (fun z => some (Value.int (iI z))) (by rw [atA, if_neg (by omega), if_neg (by omega), if_neg (by omega), if_neg (by omega), if_neg (by omega)]), rfl, rfl, rfl⟩
          · refine x_aload_n (pc := 64) hC dX12_at_64 rfl ?_
            refine x_iload_n (pc := 65) hC dX12_at_65 rfl ?_
            refine x_callV1 (As := [_]) (Bs := [_]) (pc := 66) hC (s_metBy E hk hw hfan hsit ht (by omega)) wX12_160_12 pX12_metBy (by assumption) rfl rfl (by exact Nat.le_of_ble_eq_true rfl) hR (by decide) (by decide) (by decide) rfl dX12_at_66 ?_
            refine x_goto (tgt := 73) (pc := 69) hC dX12_at_69 (by decide) ?_
            refine x_ireturn hC hZ dX12_at_73 (by decide) (by decide) ?_
            exact ⟨congrArg (fun z => some (Value.int (iI z))) (by rw [atA, if_neg (by omega), if_neg (by omega), if_neg (by omega), if_neg (by omega), if_pos (by omega)]), rfl, rfl, rfl⟩
        · refine x_aload_n (pc := 47) hC dX12_at_47 rfl ?_
          refine x_getr (K := 1) (pc := 48) hC fX12_9_12 (by assumption) dX12_at_48 rfl rfl (by assumption) ?_
          refine x_bipush (pc := 51) hC dX12_at_51 (by decide +kernel) ?_
          refine x_iload_n (pc := 53) hC dX12_at_53 rfl ?_
          refine x_iadd (pc := 54) hC dX12_at_54 ?_
          refine x_iald (pc := 55) hC (by assumption) (by omega) dX12_at_55 ?_
          refine x_goto (tgt := 73) (pc := 56) hC dX12_at_56 (by decide) ?_
          refine x_ireturn hC hZ dX12_at_73 (by decide) (by decide) ?_
          exact ⟨congrArg (fun z => some (Value.int (iI z))) (by rw [atA, if_neg (by omega), if_neg (by omega), if_neg (by omega), if_pos (by omega)]), rfl, rfl, rfl⟩
      · refine x_aload_n (pc := 31) hC dX12_at_31 rfl ?_
        refine x_getr (K := 1) (pc := 32) hC fX12_9_12 (by assumption) dX12_at_32 rfl rfl (by assumption) ?_
        refine x_iconst (pc := 35) hC dX12_at_35 ?_
        refine x_iload_n (pc := 36) hC dX12_at_36 rfl ?_
        refine x_iadd (pc := 37) hC dX12_at_37 ?_
        refine x_iald (pc := 38) hC (by assumption) (by omega) dX12_at_38 ?_
        refine x_goto (tgt := 73) (pc := 39) hC dX12_at_39 (by decide) ?_
        refine x_ireturn hC hZ dX12_at_73 (by decide) (by decide) ?_
        exact ⟨congrArg (fun z => some (Value.int (iI z))) (by rw [atA, if_neg (by omega), if_neg (by omega), if_pos (by omega)]), rfl, rfl, rfl⟩
    · refine x_aload_n (pc := 14) hC dX12_at_14 rfl ?_
      refine x_getr (K := 1) (pc := 15) hC fX12_9_12 (by assumption) dX12_at_15 rfl rfl (by assumption) ?_
      refine x_bipush (pc := 18) hC dX12_at_18 (by decide +kernel) ?_
      refine x_iload_n (pc := 20) hC dX12_at_20 rfl ?_
      refine x_iadd (pc := 21) hC dX12_at_21 ?_
      refine x_iald (pc := 22) hC (by assumption) (by omega) dX12_at_22 ?_
      refine x_goto (tgt := 73) (pc := 23) hC dX12_at_23 (by decide) ?_
      refine x_ireturn hC hZ dX12_at_73 (by decide) (by decide) ?_
      exact ⟨congrArg (fun z => some (Value.int (iI z))) (by rw [atA, if_neg (by omega), if_pos (by omega)]), rfl, rfl, rfl⟩
  · refine x_iconst (pc := 8) hC dX12_at_8 ?_
    refine x_ireturn hC hZ dX12_at_9 (by decide) (by decide) ?_
    exact ⟨congrArg (fun z => some (Value.int (iI z))) (by rw [atA, if_pos (by omega)]), rfl, rfl, rfl⟩

def moveA (z : zS) (p x : Int) : Int := if ¬ ((0 ≤ p ∧ p ≤ z 14 - 1) ∧ 0 ≤ x ∧ x ≤ 9) then -1 else z (62 + p)
def moveZ (z : zS) (p x : Int) : zS := if ¬ ((0 ≤ p ∧ p ≤ z 14 - 1) ∧ 0 ≤ x ∧ x ≤ 9) then z else up z (62 + p) x
def heatA (z : zS) (p x : Int) : Int := if ¬ (0 ≤ p ∧ p ≤ z 14 - 1) then -1 else if ¬ (0 ≤ x ∧ x ≤ 99) then -2 else z (1 + p)
def heatZ (z : zS) (p x : Int) : zS := if ¬ (0 ≤ p ∧ p ≤ z 14 - 1) then z else if ¬ (0 ≤ x ∧ x ≤ 99) then z else up z (1 + p) x
set_option maxHeartbeats 4000000 in
set_option maxRecDepth 100000 in
theorem s_move (E : xE) {σ : xM} {ρ : xR} {ks : xKs} (hk : MK ks) (hw : MW ρ) {q x : Int} (hq : rg q) (hx : rg x) (hsit : SitOk (σ 47)) : Sp E yX12_move kX12_move 3 0 0 [.ref 46, .int (iI q), .int (iI x)] σ ρ ks (Fn (some (.int (iI (moveA (σ 47) q x)))) (sw σ 47 (moveZ (σ 47) q x)) ρ ks) := by
  obtain ⟨k46, k47, k48, k49, k50, k51, k52, k53, k54⟩ := id hk
  obtain ⟨w1, w2, w3, w10, w11, w14, w15, w16⟩ := id hw
  have hs14 := hsit.1
  refine x_enter (own := RX12) (L := [_, _, _, _]) (by decide +kernel) rfl (by exact Nat.le_of_ble_eq_true rfl) rfl (fun p e R s m args below meth c Z hZ hC hR hin => ?_)
  refine x_aload_n (pc := 0) hC dX12_move_0 rfl ?_
  refine x_iload_n (pc := 1) hC dX12_move_1 rfl ?_
  refine x_callV1 (As := [_]) (Bs := [_]) (pc := 2) hC (s_isSitter E hk hw (by omega) (by omega)) wX12_157_12 pX12_isSitter (by assumption) rfl rfl (by exact Nat.le_of_ble_eq_true rfl) hR (by decide) (by decide) (by decide) rfl dX12_move_2 ?_
  refine x_ifB_eq (tgt := 15) (pc := 5) hC  dX12_move_5 (by decide) (fun c5 => ?_) (fun c5 => ?_)
  · refine x_iconst (pc := 15) hC dX12_move_15 ?_
    refine x_ireturn hC hZ dX12_move_16 (by decide) (by decide) ?_
    exact ⟨congrArg (fun z => some (Value.int (iI z))) (by rw [moveA, if_pos (by omega)]), by rw [moveZ, if_pos (by omega), sw_id], rfl, rfl⟩
  · refine x_iload_n (pc := 8) hC dX12_move_8 rfl ?_
    refine x_callS1 (As := [_]) (Bs := [_]) (pc := 9) hC (s_isPlace E (by omega)) wX12_134 pX12_isPlace rfl rfl (by exact Nat.le_of_ble_eq_true rfl) hR (by decide) (by decide) (by decide) rfl dX12_move_9 ?_
    refine x_ifB_ne (tgt := 17) (pc := 12) hC  dX12_move_12 (by decide) (fun c12 => ?_) (fun c12 => ?_)
    · refine x_aload_n (pc := 17) hC dX12_move_17 rfl ?_
      refine x_getr (K := 1) (pc := 18) hC fX12_9_12 (by assumption) dX12_move_18 rfl rfl (by assumption) ?_
      refine x_bipush (pc := 21) hC dX12_move_21 (by decide +kernel) ?_
      refine x_iload_n (pc := 23) hC dX12_move_23 rfl ?_
      refine x_iadd (pc := 24) hC dX12_move_24 ?_
      refine x_iald (pc := 25) hC (by assumption) (by omega) dX12_move_25 ?_
      refine x_istore_n (L' := [_, _, _, _]) (pc := 26) hC dX12_move_26 rfl rfl ?_
      refine x_aload_n (pc := 27) hC dX12_move_27 rfl ?_
      refine x_getr (K := 1) (pc := 28) hC fX12_9_12 (by assumption) dX12_move_28 rfl rfl (by assumption) ?_
      refine x_bipush (pc := 31) hC dX12_move_31 (by decide +kernel) ?_
      refine x_iload_n (pc := 33) hC dX12_move_33 rfl ?_
      refine x_iadd (pc := 34) hC dX12_move_34 ?_
      refine x_iload_n (pc := 35) hC dX12_move_35 rfl ?_
      refine x_iast (pc := 36) hC (by assumption) (by omega) dX12_move_36 ?_
      refine X.mem (σ' := sw σ 47 _) (by exact wr_sw _ _ _ _) ?_
      refine x_iload_n (pc := 37) hC dX12_move_37 rfl ?_
      refine x_ireturn hC hZ dX12_move_38 (by decide) (by decide) ?_
      exact ⟨congrArg (fun z => some (Value.int (iI z))) (by rw [moveA, if_neg (by omega)]), by rw [moveZ, if_neg (by omega)], rfl, rfl⟩
    · refine x_iconst (pc := 15) hC dX12_move_15 ?_
      refine x_ireturn hC hZ dX12_move_16 (by decide) (by decide) ?_
      exact ⟨congrArg (fun z => some (Value.int (iI z))) (by rw [moveA, if_pos (by omega)]), by rw [moveZ, if_pos (by omega), sw_id], rfl, rfl⟩

set_option maxHeartbeats 4000000 in
set_option maxRecDepth 100000 in
theorem s_heat (E : xE) {σ : xM} {ρ : xR} {ks : xKs} (hk : MK ks) (hw : MW ρ) {q x : Int} (hq : rg q) (hx : rg x) (hsit : SitOk (σ 47)) : Sp E yX12_heat kX12_heat 3 0 0 [.ref 46, .int (iI q), .int (iI x)] σ ρ ks (Fn (some (.int (iI (heatA (σ 47) q x)))) (sw σ 47 (heatZ (σ 47) q x)) ρ ks) := by
  obtain ⟨k46, k47, k48, k49, k50, k51, k52, k53, k54⟩ := id hk
  obtain ⟨w1, w2, w3, w10, w11, w14, w15, w16⟩ := id hw
  have hs14 := hsit.1
  refine x_enter (own := RX12) (L := [_, _, _, _]) (by decide +kernel) rfl (by exact Nat.le_of_ble_eq_true rfl) rfl (fun p e R s m args below meth c Z hZ hC hR hin => ?_)
  refine x_aload_n (pc := 0) hC dX12_heat_0 rfl ?_
  refine x_iload_n (pc := 1) hC dX12_heat_1 rfl ?_
  refine x_callV1 (As := [_]) (Bs := [_]) (pc := 2) hC (s_isSitter E hk hw (by omega) (by omega)) wX12_157_12 pX12_isSitter (by assumption) rfl rfl (by exact Nat.le_of_ble_eq_true rfl) hR (by decide) (by decide) (by decide) rfl dX12_heat_2 ?_
  refine x_ifB_ne (tgt := 10) (pc := 5) hC  dX12_heat_5 (by decide) (fun c5 => ?_) (fun c5 => ?_)
  · refine x_iload_n (pc := 10) hC dX12_heat_10 rfl ?_
    refine x_iconst (pc := 11) hC dX12_heat_11 ?_
    refine x_bipush (pc := 12) hC dX12_heat_12 (by decide +kernel) ?_
    refine x_callS1 (As := [_, _, _]) (Bs := [_, _, _]) (pc := 14) hC (s_in E (by omega) (by omega) (by omega)) wX12_41 pX12_in rfl rfl (by exact Nat.le_of_ble_eq_true rfl) hR (by decide) (by decide) (by decide) rfl dX12_heat_14 ?_
    refine x_ifB_ne (tgt := 23) (pc := 17) hC  dX12_heat_17 (by decide) (fun c17 => ?_) (fun c17 => ?_)
    · refine x_aload_n (pc := 23) hC dX12_heat_23 rfl ?_
      refine x_getr (K := 1) (pc := 24) hC fX12_9_12 (by assumption) dX12_heat_24 rfl rfl (by assumption) ?_
      refine x_iconst (pc := 27) hC dX12_heat_27 ?_
      refine x_iload_n (pc := 28) hC dX12_heat_28 rfl ?_
      refine x_iadd (pc := 29) hC dX12_heat_29 ?_
      refine x_iald (pc := 30) hC (by assumption) (by omega) dX12_heat_30 ?_
      refine x_istore_n (L' := [_, _, _, _]) (pc := 31) hC dX12_heat_31 rfl rfl ?_
      refine x_aload_n (pc := 32) hC dX12_heat_32 rfl ?_
      refine x_getr (K := 1) (pc := 33) hC fX12_9_12 (by assumption) dX12_heat_33 rfl rfl (by assumption) ?_
      refine x_iconst (pc := 36) hC dX12_heat_36 ?_
      refine x_iload_n (pc := 37) hC dX12_heat_37 rfl ?_
      refine x_iadd (pc := 38) hC dX12_heat_38 ?_
      refine x_iload_n (pc := 39) hC dX12_heat_39 rfl ?_
      refine x_iast (pc := 40) hC (by assumption) (by omega) dX12_heat_40 ?_
      refine X.mem (σ' := sw σ 47 _) (by exact wr_sw _ _ _ _) ?_
      refine x_iload_n (pc := 41) hC dX12_heat_41 rfl ?_
      refine x_ireturn hC hZ dX12_heat_42 (by decide) (by decide) ?_
      exact ⟨congrArg (fun z => some (Value.int (iI z))) (by rw [heatA, if_neg (by omega), if_neg (by omega)]), by rw [heatZ, if_neg (by omega), if_neg (by omega)], rfl, rfl⟩
    · refine x_bipush (pc := 20) hC dX12_heat_20 (by decide +kernel) ?_
      refine x_ireturn hC hZ dX12_heat_22 (by decide) (by decide) ?_
      exact ⟨congrArg (fun z => some (Value.int (iI z))) (by rw [heatA, if_neg (by omega), if_pos (by omega)]), by rw [heatZ, if_neg (by omega), if_pos (by omega), sw_id], rfl, rfl⟩
  · refine x_iconst (pc := 8) hC dX12_heat_8 ?_
    refine x_ireturn hC hZ dX12_heat_9 (by decide) (by decide) ?_
    exact ⟨congrArg (fun z => some (Value.int (iI z))) (by rw [heatA, if_pos (by omega)]), by rw [heatZ, if_pos (by omega), sw_id], rfl, rfl⟩

def toldA (z : zS) (w : Int) : Int := if w = 0 then z 0 else if w = 1 then tellsF z 218 80 else if w = 2 then flyF z else -1
set_option maxHeartbeats 4000000 in
set_option maxRecDepth 100000 in
theorem s_told (E : xE) {σ : xM} {ρ : xR} {ks : xKs} (hk : MK ks) (hw : MW ρ) {w : Int} (hw0 : rg w) (hroom : RoomOk (σ 47)) : Sp E yX12_told kX12_told 3 0 0 [.ref 46, .int (iI w)] σ ρ ks (Fn (some (.int (iI (toldA (σ 47) w)))) (σ) ρ ks) := by
  obtain ⟨k46, k47, k48, k49, k50, k51, k52, k53, k54⟩ := id hk
  obtain ⟨w1, w2, w3, w10, w11, w14, w15, w16⟩ := id hw
  have hr1 := hroom.1
  have hr5 := hroom.2.2.2.2.1
  refine x_enter (own := RX12) (L := [_, _]) (by decide +kernel) rfl (by exact Nat.le_of_ble_eq_true rfl) rfl (fun p e R s m args below meth c Z hZ hC hR hin => ?_)
  refine x_iload_n (pc := 0) hC dX12_told_0 rfl ?_
  refine x_if_ne (tgt := 13) (pc := 1) hC (by omega) dX12_told_1 (by decide) (fun c1 => ?_) (fun c1 => ?_)
  · refine x_iload_n (pc := 13) hC dX12_told_13 rfl ?_
    refine x_iconst (pc := 14) hC dX12_told_14 ?_
    refine x_icmp_ne (tgt := 30) (pc := 15) hC (by omega) (by omega) dX12_told_15 (by decide) (fun c15 => ?_) (fun c15 => ?_)
    · refine x_iload_n (pc := 30) hC dX12_told_30 rfl ?_
      refine x_iconst (pc := 31) hC dX12_told_31 ?_
      refine x_icmp_ne (tgt := 42) (pc := 32) hC (by omega) (by omega) dX12_told_32 (by decide) (fun c32 => ?_) (fun c32 => ?_)
      · refine x_iconst (pc := 42) hC dX12_told_42 ?_
        refine x_ireturn hC hZ dX12_told_43 (by decide) (by decide) ?_
        exact ⟨congrArg (fun z => some (Value.int (iI z))) (by rw [toldA, if_neg (by omega), if_neg (by omega), if_neg (by omega)]), rfl, rfl, rfl⟩
      · refine x_aload_n (pc := 35) hC dX12_told_35 rfl ?_
        refine x_callV1 (As := []) (Bs := []) (pc := 36) hC (s_flyNow E hk hw (by omega) ⟨by omega, by omega⟩) wX12_164_12 pX12_flyNow (by assumption) rfl rfl (by exact Nat.le_of_ble_eq_true rfl) hR (by decide) (by decide) (by decide) rfl dX12_told_36 ?_
        refine x_goto (tgt := 43) (pc := 39) hC dX12_told_39 (by decide) ?_
        refine x_ireturn hC hZ dX12_told_43 (by decide) (by decide) ?_
        exact ⟨congrArg (fun z => some (Value.int (iI z))) (by rw [toldA, if_neg (by omega), if_neg (by omega), if_pos (by omega)]), rfl, rfl, rfl⟩
    · refine x_aload_n (pc := 18) hC dX12_told_18 rfl ?_
      refine x_sipush (pc := 19) hC dX12_told_19 (by decide +kernel) ?_
      refine x_bipush (pc := 22) hC dX12_told_22 (by decide +kernel) ?_
      refine x_callV1 (As := [_, _]) (Bs := [_, _]) (pc := 24) hC (s_tellsOf E hk hw (by omega) (by omega)) wX12_130_12 pX12_tellsOf (by assumption) rfl rfl (by exact Nat.le_of_ble_eq_true rfl) hR (by decide) (by decide) (by decide) rfl dX12_told_24 ?_
      refine x_goto (tgt := 43) (pc := 27) hC dX12_told_27 (by decide) ?_
      refine x_ireturn hC hZ dX12_told_43 (by decide) (by decide) ?_
      exact ⟨congrArg (fun z => some (Value.int (iI z))) (by rw [toldA, if_neg (by omega), if_pos (by omega)]), rfl, rfl, rfl⟩
  · refine x_aload_n (pc := 4) hC dX12_told_4 rfl ?_
    refine x_getr (K := 1) (pc := 5) hC fX12_9_12 (by assumption) dX12_told_5 rfl rfl (by assumption) ?_
    refine x_iconst (pc := 8) hC dX12_told_8 ?_
    refine x_iald (pc := 9) hC (by assumption) (by omega) dX12_told_9 ?_
    refine x_goto (tgt := 43) (pc := 10) hC dX12_told_10 (by decide) ?_
    refine x_ireturn hC hZ dX12_told_43 (by decide) (by decide) ?_
    exact ⟨congrArg (fun z => some (Value.int (iI z))) (by rw [toldA, if_pos (by omega)]), rfl, rfl, rfl⟩

def isA (z : zS) (f t : Int) : Int := if ¬ (0 ≤ f ∧ f ≤ z 13 - 1) then -1 else if ¬ (0 ≤ t ∧ t ≤ 9999) then -2 else isAtF z f t
set_option maxHeartbeats 4000000 in
set_option maxRecDepth 100000 in
theorem s_is (E : xE) {σ : xM} {ρ : xR} {ks : xKs} (hk : MK ks) (hw : MW ρ) {f t : Int} (hf : rg f) (ht : rg t) (hfan : FansOk (σ 47)) (hsit : SitOk (σ 47)) : Sp E yX12_is kX12_is 3 0 0 [.ref 46, .int (iI f), .int (iI t)] σ ρ ks (Fn (some (.int (iI (isA (σ 47) f t)))) (σ) ρ ks) := by
  obtain ⟨k46, k47, k48, k49, k50, k51, k52, k53, k54⟩ := id hk
  obtain ⟨w1, w2, w3, w10, w11, w14, w15, w16⟩ := id hw
  have hf13 := hfan.1
  refine x_enter (own := RX12) (L := [_, _, _]) (by decide +kernel) rfl (by exact Nat.le_of_ble_eq_true rfl) rfl (fun p e R s m args below meth c Z hZ hC hR hin => ?_)
  refine x_aload_n (pc := 0) hC dX12_is_0 rfl ?_
  refine x_iload_n (pc := 1) hC dX12_is_1 rfl ?_
  refine x_callV1 (As := [_]) (Bs := [_]) (pc := 2) hC (s_isFan E hk hw (by omega) (by omega)) wX12_151_12 pX12_isFan (by assumption) rfl rfl (by exact Nat.le_of_ble_eq_true rfl) hR (by decide) (by decide) (by decide) rfl dX12_is_2 ?_
  refine x_ifB_ne (tgt := 10) (pc := 5) hC  dX12_is_5 (by decide) (fun c5 => ?_) (fun c5 => ?_)
  · refine x_iload_n (pc := 10) hC dX12_is_10 rfl ?_
    refine x_iconst (pc := 11) hC dX12_is_11 ?_
    refine x_sipush (pc := 12) hC dX12_is_12 (by decide +kernel) ?_
    refine x_callS1 (As := [_, _, _]) (Bs := [_, _, _]) (pc := 15) hC (s_in E (by omega) (by omega) (by omega)) wX12_41 pX12_in rfl rfl (by exact Nat.le_of_ble_eq_true rfl) hR (by decide) (by decide) (by decide) rfl dX12_is_15 ?_
    refine x_ifB_eq (tgt := 30) (pc := 18) hC  dX12_is_18 (by decide) (fun c18 => ?_) (fun c18 => ?_)
    · refine x_bipush (pc := 30) hC dX12_is_30 (by decide +kernel) ?_
      refine x_ireturn hC hZ dX12_is_32 (by decide) (by decide) ?_
      exact ⟨congrArg (fun z => some (Value.int (iI z))) (by rw [isA, if_neg (by omega), if_pos (by omega)]), rfl, rfl, rfl⟩
    · refine x_aload_n (pc := 21) hC dX12_is_21 rfl ?_
      refine x_iload_n (pc := 22) hC dX12_is_22 rfl ?_
      refine x_iload_n (pc := 23) hC dX12_is_23 rfl ?_
      refine x_callV1 (As := [_, _]) (Bs := [_, _]) (pc := 24) hC (s_isAt E hk hw (hfan.2 f (by omega) (by omega)) hsit (by omega) (by omega)) wX12_144_12 pX12_isAt (by assumption) rfl rfl (by exact Nat.le_of_ble_eq_true rfl) hR (by decide) (by decide) (by decide) rfl dX12_is_24 ?_
      refine x_goto (tgt := 32) (pc := 27) hC dX12_is_27 (by decide) ?_
      refine x_ireturn hC hZ dX12_is_32 (by decide) (by decide) ?_
      exact ⟨congrArg (fun z => some (Value.int (iI z))) (by rw [isA, if_neg (by omega), if_neg (by omega)]), rfl, rfl, rfl⟩
  · refine x_iconst (pc := 8) hC dX12_is_8 ?_
    refine x_ireturn hC hZ dX12_is_9 (by decide) (by decide) ?_
    exact ⟨congrArg (fun z => some (Value.int (iI z))) (by rw [isA, if_pos (by omega)]), rfl, rfl, rfl⟩

def flownA (z : zS) (b : Int) : Int := if ¬ (0 ≤ b ∧ b ≤ 1023) then -2 else z 21
def flownZ (z : zS) (b : Int) : zS := if ¬ (0 ≤ b ∧ b ≤ 1023) then z else up z 21 b
set_option maxHeartbeats 4000000 in
set_option maxRecDepth 100000 in
theorem s_flown (E : xE) {σ : xM} {ρ : xR} {ks : xKs} (hk : MK ks) (hw : MW ρ) {x : Int} (hx : rg x) : Sp E yX12_flown kX12_flown 2 0 0 [.ref 46, .int (iI x)] σ ρ ks (Fn (some (.int (iI (flownA (σ 47) x)))) (sw σ 47 (flownZ (σ 47) x)) ρ ks) := by
  obtain ⟨k46, k47, k48, k49, k50, k51, k52, k53, k54⟩ := id hk
  obtain ⟨w1, w2, w3, w10, w11, w14, w15, w16⟩ := id hw
  refine x_enter (own := RX12) (L := [_, _, _]) (by decide +kernel) rfl (by exact Nat.le_of_ble_eq_true rfl) rfl (fun p e R s m args below meth c Z hZ hC hR hin => ?_)
  refine x_iload_n (pc := 0) hC dX12_flown_0 rfl ?_
  refine x_iconst (pc := 1) hC dX12_flown_1 ?_
  refine x_sipush (pc := 2) hC dX12_flown_2 (by decide +kernel) ?_
  refine x_callS1 (As := [_, _, _]) (Bs := [_, _, _]) (pc := 5) hC (s_in E (by omega) (by omega) (by omega)) wX12_41 pX12_in rfl rfl (by exact Nat.le_of_ble_eq_true rfl) hR (by decide) (by decide) (by decide) rfl dX12_flown_5 ?_
  refine x_ifB_ne (tgt := 14) (pc := 8) hC  dX12_flown_8 (by decide) (fun c8 => ?_) (fun c8 => ?_)
  · refine x_aload_n (pc := 14) hC dX12_flown_14 rfl ?_
    refine x_getr (K := 1) (pc := 15) hC fX12_9_12 (by assumption) dX12_flown_15 rfl rfl (by assumption) ?_
    refine x_bipush (pc := 18) hC dX12_flown_18 (by decide +kernel) ?_
    refine x_iald (pc := 20) hC (by assumption) (by omega) dX12_flown_20 ?_
    refine x_istore_n (L' := [_, _, _]) (pc := 21) hC dX12_flown_21 rfl rfl ?_
    refine x_aload_n (pc := 22) hC dX12_flown_22 rfl ?_
    refine x_getr (K := 1) (pc := 23) hC fX12_9_12 (by assumption) dX12_flown_23 rfl rfl (by assumption) ?_
    refine x_bipush (pc := 26) hC dX12_flown_26 (by decide +kernel) ?_
    refine x_iload_n (pc := 28) hC dX12_flown_28 rfl ?_
    refine x_iast (pc := 29) hC (by assumption) (by omega) dX12_flown_29 ?_
    refine X.mem (σ' := sw σ 47 _) (by exact wr_sw _ _ _ _) ?_
    refine x_iload_n (pc := 30) hC dX12_flown_30 rfl ?_
    refine x_ireturn hC hZ dX12_flown_31 (by decide) (by decide) ?_
    exact ⟨congrArg (fun z => some (Value.int (iI z))) (by rw [flownA, if_neg (by omega)]), by rw [flownZ, if_neg (by omega)], rfl, rfl⟩
  · refine x_bipush (pc := 11) hC dX12_flown_11 (by decide +kernel) ?_
    refine x_ireturn hC hZ dX12_flown_13 (by decide) (by decide) ?_
    exact ⟨congrArg (fun z => some (Value.int (iI z))) (by rw [flownA, if_pos (by omega)]), by rw [flownZ, if_pos (by omega), sw_id], rfl, rfl⟩

def seeA (z : zS) (p n h : Int) : Int := if p = -1 then 0 else if ¬ (0 ≤ p ∧ p ≤ z 14 - 1) then -1 else if ¬ ((0 ≤ n ∧ n ≤ 60) ∧ 0 ≤ h ∧ h ≤ 99) then -2 else if z 16 = 6 then -4 else z 16 + 1
def seeZ (z : zS) (p n h : Int) : zS := if p = -1 then up z 16 0 else if ¬ (0 ≤ p ∧ p ≤ z 14 - 1) then z else if ¬ ((0 ≤ n ∧ n ≤ 60) ∧ 0 ≤ h ∧ h ≤ 99) then z else if z 16 = 6 then z else up (up (up (up z (68 + z 16) p) (74 + z 16) n) (80 + z 16) h) 16 (z 16 + 1)
def ruleA (z : zS) (f x : Int) : Int := if x = -1 then 0 else if ¬ (f = -1 ∨ (0 ≤ f ∧ f ≤ z 13 - 1)) then -1 else if ¬ (1 ≤ x ∧ x ≤ 20) then -2 else if z 17 = 4 then -4 else z 17 + 1
def ruleZ (z : zS) (f x : Int) : zS := if x = -1 then up z 17 0 else if ¬ (f = -1 ∨ (0 ≤ f ∧ f ≤ z 13 - 1)) then z else if ¬ (1 ≤ x ∧ x ≤ 20) then z else if z 17 = 4 then z else up (up (up z (86 + z 17) f) (90 + z 17) x) 17 (z 17 + 1)
def bookA (z : zS) (f x p : Int) : Int := if f = -1 then 0 else if ¬ ((0 ≤ f ∧ f ≤ z 13 - 1) ∧ 0 ≤ p ∧ p ≤ 9) then -1 else if ¬ (0 ≤ x ∧ x ≤ 999) then -2 else if z 18 = 8 then -4 else z 18 + 1
def bookZ (z : zS) (f x p : Int) : zS := if f = -1 then up z 18 0 else if ¬ ((0 ≤ f ∧ f ≤ z 13 - 1) ∧ 0 ≤ p ∧ p ≤ 9) then z else if ¬ (0 ≤ x ∧ x ≤ 999) then z else if z 18 = 8 then z else up (up (up (up z (94 + z 18) f) (102 + z 18) x) (110 + z 18) p) 18 (z 18 + 1)
set_option maxHeartbeats 4000000 in
set_option maxRecDepth 100000 in
theorem s_see (E : xE) {σ : xM} {ρ : xR} {ks : xKs} (hk : MK ks) (hw : MW ρ) {q n h : Int} (hq : rg q) (hn : rg n) (hh : rg h) (hsit : SitOk (σ 47)) (h16 : 0 ≤ σ 47 16 ∧ σ 47 16 ≤ 6) : Sp E yX12_see kX12_see 3 0 0 [.ref 46, .int (iI q), .int (iI n), .int (iI h)] σ ρ ks (Fn (some (.int (iI (seeA (σ 47) q n h)))) (sw σ 47 (seeZ (σ 47) q n h)) ρ ks) := by
  obtain ⟨k46, k47, k48, k49, k50, k51, k52, k53, k54⟩ := id hk
  obtain ⟨w1, w2, w3, w10, w11, w14, w15, w16⟩ := id hw
  have hs14 := hsit.1
  refine x_enter (own := RX12) (L := [_, _, _, _]) (by decide +kernel) rfl (by exact Nat.le_of_ble_eq_true rfl) rfl (fun p e R s m args below meth c Z hZ hC hR hin => ?_)
  refine x_iload_n (pc := 0) hC dX12_see_0 rfl ?_
  refine x_iconst (pc := 1) hC dX12_see_1 ?_
  refine x_icmp_ne (tgt := 15) (pc := 2) hC (by omega) (by omega) dX12_see_2 (by decide) (fun c2 => ?_) (fun c2 => ?_)
  · refine x_aload_n (pc := 15) hC dX12_see_15 rfl ?_
    refine x_iload_n (pc := 16) hC dX12_see_16 rfl ?_
    refine x_callV1 (As := [_]) (Bs := [_]) (pc := 17) hC (s_isSitter E hk hw (by omega) (by omega)) wX12_157_12 pX12_isSitter (by assumption) rfl rfl (by exact Nat.le_of_ble_eq_true rfl) hR (by decide) (by decide) (by decide) rfl dX12_see_17 ?_
    refine x_ifB_ne (tgt := 25) (pc := 20) hC  dX12_see_20 (by decide) (fun c20 => ?_) (fun c20 => ?_)
    · refine x_iload_n (pc := 25) hC dX12_see_25 rfl ?_
      refine x_iconst (pc := 26) hC dX12_see_26 ?_
      refine x_bipush (pc := 27) hC dX12_see_27 (by decide +kernel) ?_
      refine x_callS1 (As := [_, _, _]) (Bs := [_, _, _]) (pc := 29) hC (s_in E (by omega) (by omega) (by omega)) wX12_41 pX12_in rfl rfl (by exact Nat.le_of_ble_eq_true rfl) hR (by decide) (by decide) (by decide) rfl dX12_see_29 ?_
      refine x_ifB_eq (tgt := 45) (pc := 32) hC  dX12_see_32 (by decide) (fun c32 => ?_) (fun c32 => ?_)
      · refine x_bipush (pc := 45) hC dX12_see_45 (by decide +kernel) ?_
        refine x_ireturn hC hZ dX12_see_47 (by decide) (by decide) ?_
        exact ⟨congrArg (fun z => some (Value.int (iI z))) (by rw [seeA, if_neg (by omega), if_neg (by omega), if_pos (by omega)]), by rw [seeZ, if_neg (by omega), if_neg (by omega), if_pos (by omega), sw_id], rfl, rfl⟩
      · refine x_iload_n (pc := 35) hC dX12_see_35 rfl ?_
        refine x_iconst (pc := 36) hC dX12_see_36 ?_
        refine x_bipush (pc := 37) hC dX12_see_37 (by decide +kernel) ?_
        refine x_callS1 (As := [_, _, _]) (Bs := [_, _, _]) (pc := 39) hC (s_in E (by omega) (by omega) (by omega)) wX12_41 pX12_in rfl rfl (by exact Nat.le_of_ble_eq_true rfl) hR (by decide) (by decide) (by decide) rfl dX12_see_39 ?_
        refine x_ifB_ne (tgt := 48) (pc := 42) hC  dX12_see_42 (by decide) (fun c42 => ?_) (fun c42 => ?_)
        · refine x_aload_n (pc := 48) hC dX12_see_48 rfl ?_
          refine x_getr (K := 1) (pc := 49) hC fX12_9_12 (by assumption) dX12_see_49 rfl rfl (by assumption) ?_
          refine x_bipush (pc := 52) hC dX12_see_52 (by decide +kernel) ?_
          refine x_iald (pc := 54) hC (by assumption) (by omega) dX12_see_54 ?_
          refine x_bipush (pc := 55) hC dX12_see_55 (by decide +kernel) ?_
          refine x_icmp_ne (tgt := 63) (pc := 57) hC (by omega) (by omega) dX12_see_57 (by decide) (fun c57 => ?_) (fun c57 => ?_)
          · refine x_aload_n (pc := 63) hC dX12_see_63 rfl ?_
            refine x_getr (K := 1) (pc := 64) hC fX12_9_12 (by assumption) dX12_see_64 rfl rfl (by assumption) ?_
            refine x_bipush (pc := 67) hC dX12_see_67 (by decide +kernel) ?_
            refine x_aload_n (pc := 69) hC dX12_see_69 rfl ?_
            refine x_getr (K := 1) (pc := 70) hC fX12_9_12 (by assumption) dX12_see_70 rfl rfl (by assumption) ?_
            refine x_bipush (pc := 73) hC dX12_see_73 (by decide +kernel) ?_
            refine x_iald (pc := 75) hC (by assumption) (by omega) dX12_see_75 ?_
            refine x_iadd (pc := 76) hC dX12_see_76 ?_
            refine x_iload_n (pc := 77) hC dX12_see_77 rfl ?_
            refine x_iast (pc := 78) hC (by assumption) (by omega) dX12_see_78 ?_
            refine X.mem (σ' := sw σ 47 _) (by exact wr_sw _ _ _ _) ?_
            refine x_aload_n (pc := 79) hC dX12_see_79 rfl ?_
            refine x_getr (K := 1) (pc := 80) hC fX12_9_12 (by assumption) dX12_see_80 rfl rfl (by assumption) ?_
            refine x_bipush (pc := 83) hC dX12_see_83 (by decide +kernel) ?_
            refine x_aload_n (pc := 85) hC dX12_see_85 rfl ?_
            refine x_getr (K := 1) (pc := 86) hC fX12_9_12 (by assumption) dX12_see_86 rfl rfl (by assumption) ?_
            refine x_bipush (pc := 89) hC dX12_see_89 (by decide +kernel) ?_
            refine x_iald (pc := 91) hC (by assumption) (by omega) dX12_see_91 ?_
            simp (disch := omega) only [sw_eq, up_ne, up_eq]
            refine x_iadd (pc := 92) hC dX12_see_92 ?_
            refine x_iload_n (pc := 93) hC dX12_see_93 rfl ?_
            refine x_iast (pc := 94) hC (by assumption) (by omega) dX12_see_94 ?_
            refine X.mem (σ' := sw σ 47 _) (by rw [wr_sw, sw_eq, sw_sw]) ?_
            refine x_aload_n (pc := 95) hC dX12_see_95 rfl ?_
            refine x_getr (K := 1) (pc := 96) hC fX12_9_12 (by assumption) dX12_see_96 rfl rfl (by assumption) ?_
            refine x_bipush (pc := 99) hC dX12_see_99 (by decide +kernel) ?_
            refine x_aload_n (pc := 101) hC dX12_see_101 rfl ?_
            refine x_getr (K := 1) (pc := 102) hC fX12_9_12 (by assumption) dX12_see_102 rfl rfl (by assumption) ?_
            refine x_bipush (pc := 105) hC dX12_see_105 (by decide +kernel) ?_
            refine x_iald (pc := 107) hC (by assumption) (by omega) dX12_see_107 ?_
            simp (disch := omega) only [sw_eq, up_ne, up_eq]
            refine x_iadd (pc := 108) hC dX12_see_108 ?_
            refine x_iload_n (pc := 109) hC dX12_see_109 rfl ?_
            refine x_iast (pc := 110) hC (by assumption) (by omega) dX12_see_110 ?_
            refine X.mem (σ' := sw σ 47 _) (by rw [wr_sw, sw_eq, sw_sw]) ?_
            refine x_aload_n (pc := 111) hC dX12_see_111 rfl ?_
            refine x_getr (K := 1) (pc := 112) hC fX12_9_12 (by assumption) dX12_see_112 rfl rfl (by assumption) ?_
            refine x_bipush (pc := 115) hC dX12_see_115 (by decide +kernel) ?_
            refine x_dup2 (pc := 117) hC dX12_see_117 rfl rfl ?_
            refine x_iald (pc := 118) hC (by assumption) (by omega) dX12_see_118 ?_
            simp (disch := omega) only [sw_eq, up_ne, up_eq]
            refine x_iconst (pc := 119) hC dX12_see_119 ?_
            refine x_iadd (pc := 120) hC dX12_see_120 ?_
            refine x_iast (pc := 121) hC (by assumption) (by omega) dX12_see_121 ?_
            refine X.mem (σ' := sw σ 47 _) (by rw [wr_sw, sw_eq, sw_sw]) ?_
            refine x_aload_n (pc := 122) hC dX12_see_122 rfl ?_
            refine x_getr (K := 1) (pc := 123) hC fX12_9_12 (by assumption) dX12_see_123 rfl rfl (by assumption) ?_
            refine x_bipush (pc := 126) hC dX12_see_126 (by decide +kernel) ?_
            refine x_iald (pc := 128) hC (by assumption) (by omega) dX12_see_128 ?_
            simp (disch := omega) only [sw_eq, up_ne, up_eq]
            refine x_ireturn hC hZ dX12_see_129 (by decide) (by decide) ?_
            exact ⟨congrArg (fun z => some (Value.int (iI z))) (by rw [seeA, if_neg (by omega), if_neg (by omega), if_neg (by omega), if_neg (by omega)]), by rw [seeZ, if_neg (by omega), if_neg (by omega), if_neg (by omega), if_neg (by omega)], rfl, rfl⟩
          · refine x_bipush (pc := 60) hC dX12_see_60 (by decide +kernel) ?_
            refine x_ireturn hC hZ dX12_see_62 (by decide) (by decide) ?_
            exact ⟨congrArg (fun z => some (Value.int (iI z))) (by rw [seeA, if_neg (by omega), if_neg (by omega), if_neg (by omega), if_pos (by omega)]), by rw [seeZ, if_neg (by omega), if_neg (by omega), if_neg (by omega), if_pos (by omega), sw_id], rfl, rfl⟩
        · refine x_bipush (pc := 45) hC dX12_see_45 (by decide +kernel) ?_
          refine x_ireturn hC hZ dX12_see_47 (by decide) (by decide) ?_
          exact ⟨congrArg (fun z => some (Value.int (iI z))) (by rw [seeA, if_neg (by omega), if_neg (by omega), if_pos (by omega)]), by rw [seeZ, if_neg (by omega), if_neg (by omega), if_pos (by omega), sw_id], rfl, rfl⟩
    · refine x_iconst (pc := 23) hC dX12_see_23 ?_
      refine x_ireturn hC hZ dX12_see_24 (by decide) (by decide) ?_
      exact ⟨congrArg (fun z => some (Value.int (iI z))) (by rw [seeA, if_neg (by omega), if_pos (by omega)]), by rw [seeZ, if_neg (by omega), if_pos (by omega), sw_id], rfl, rfl⟩
  · refine x_aload_n (pc := 5) hC dX12_see_5 rfl ?_
    refine x_getr (K := 1) (pc := 6) hC fX12_9_12 (by assumption) dX12_see_6 rfl rfl (by assumption) ?_
    refine x_bipush (pc := 9) hC dX12_see_9 (by decide +kernel) ?_
    refine x_iconst (pc := 11) hC dX12_see_11 ?_
    refine x_iast (pc := 12) hC (by assumption) (by omega) dX12_see_12 ?_
    refine X.mem (σ' := sw σ 47 _) (by exact wr_sw _ _ _ _) ?_
    refine x_iconst (pc := 13) hC dX12_see_13 ?_
    refine x_ireturn hC hZ dX12_see_14 (by decide) (by decide) ?_
    exact ⟨congrArg (fun z => some (Value.int (iI z))) (by rw [seeA, if_pos (by omega)]), by rw [seeZ, if_pos (by omega)], rfl, rfl⟩

set_option maxHeartbeats 4000000 in
set_option maxRecDepth 100000 in
theorem s_rule (E : xE) {σ : xM} {ρ : xR} {ks : xKs} (hk : MK ks) (hw : MW ρ) {f x : Int} (hf : rg f) (hx : rg x) (hfan : FansOk (σ 47)) (h17 : 0 ≤ σ 47 17 ∧ σ 47 17 ≤ 4) : Sp E yX12_rule kX12_rule 3 0 0 [.ref 46, .int (iI f), .int (iI x)] σ ρ ks (Fn (some (.int (iI (ruleA (σ 47) f x)))) (sw σ 47 (ruleZ (σ 47) f x)) ρ ks) := by
  obtain ⟨k46, k47, k48, k49, k50, k51, k52, k53, k54⟩ := id hk
  obtain ⟨w1, w2, w3, w10, w11, w14, w15, w16⟩ := id hw
  have hf13 := hfan.1
  refine x_enter (own := RX12) (L := [_, _, _]) (by decide +kernel) rfl (by exact Nat.le_of_ble_eq_true rfl) rfl (fun p e R s m args below meth c Z hZ hC hR hin => ?_)
  refine x_iload_n (pc := 0) hC dX12_rule_0 rfl ?_
  refine x_iconst (pc := 1) hC dX12_rule_1 ?_
  refine x_icmp_ne (tgt := 15) (pc := 2) hC (by omega) (by omega) dX12_rule_2 (by decide) (fun c2 => ?_) (fun c2 => ?_)
  · refine x_iload_n (pc := 15) hC dX12_rule_15 rfl ?_
    refine x_iconst (pc := 16) hC dX12_rule_16 ?_
    refine x_icmp_eq (tgt := 30) (pc := 17) hC (by omega) (by omega) dX12_rule_17 (by decide) (fun c17 => ?_) (fun c17 => ?_)
    · refine x_iload_n (pc := 30) hC dX12_rule_30 rfl ?_
      refine x_iconst (pc := 31) hC dX12_rule_31 ?_
      refine x_bipush (pc := 32) hC dX12_rule_32 (by decide +kernel) ?_
      refine x_callS1 (As := [_, _, _]) (Bs := [_, _, _]) (pc := 34) hC (s_in E (by omega) (by omega) (by omega)) wX12_41 pX12_in rfl rfl (by exact Nat.le_of_ble_eq_true rfl) hR (by decide) (by decide) (by decide) rfl dX12_rule_34 ?_
      refine x_ifB_ne (tgt := 43) (pc := 37) hC  dX12_rule_37 (by decide) (fun c37 => ?_) (fun c37 => ?_)
      · refine x_aload_n (pc := 43) hC dX12_rule_43 rfl ?_
        refine x_getr (K := 1) (pc := 44) hC fX12_9_12 (by assumption) dX12_rule_44 rfl rfl (by assumption) ?_
        refine x_bipush (pc := 47) hC dX12_rule_47 (by decide +kernel) ?_
        refine x_iald (pc := 49) hC (by assumption) (by omega) dX12_rule_49 ?_
        refine x_iconst (pc := 50) hC dX12_rule_50 ?_
        refine x_icmp_ne (tgt := 57) (pc := 51) hC (by omega) (by omega) dX12_rule_51 (by decide) (fun c51 => ?_) (fun c51 => ?_)
        · refine x_aload_n (pc := 57) hC dX12_rule_57 rfl ?_
          refine x_getr (K := 1) (pc := 58) hC fX12_9_12 (by assumption) dX12_rule_58 rfl rfl (by assumption) ?_
          refine x_bipush (pc := 61) hC dX12_rule_61 (by decide +kernel) ?_
          refine x_aload_n (pc := 63) hC dX12_rule_63 rfl ?_
          refine x_getr (K := 1) (pc := 64) hC fX12_9_12 (by assumption) dX12_rule_64 rfl rfl (by assumption) ?_
          refine x_bipush (pc := 67) hC dX12_rule_67 (by decide +kernel) ?_
          refine x_iald (pc := 69) hC (by assumption) (by omega) dX12_rule_69 ?_
          refine x_iadd (pc := 70) hC dX12_rule_70 ?_
          refine x_iload_n (pc := 71) hC dX12_rule_71 rfl ?_
          refine x_iast (pc := 72) hC (by assumption) (by omega) dX12_rule_72 ?_
          refine X.mem (σ' := sw σ 47 _) (by exact wr_sw _ _ _ _) ?_
          refine x_aload_n (pc := 73) hC dX12_rule_73 rfl ?_
          refine x_getr (K := 1) (pc := 74) hC fX12_9_12 (by assumption) dX12_rule_74 rfl rfl (by assumption) ?_
          refine x_bipush (pc := 77) hC dX12_rule_77 (by decide +kernel) ?_
          refine x_aload_n (pc := 79) hC dX12_rule_79 rfl ?_
          refine x_getr (K := 1) (pc := 80) hC fX12_9_12 (by assumption) dX12_rule_80 rfl rfl (by assumption) ?_
          refine x_bipush (pc := 83) hC dX12_rule_83 (by decide +kernel) ?_
          refine x_iald (pc := 85) hC (by assumption) (by omega) dX12_rule_85 ?_
          simp (disch := omega) only [sw_eq, up_ne, up_eq]
          refine x_iadd (pc := 86) hC dX12_rule_86 ?_
          refine x_iload_n (pc := 87) hC dX12_rule_87 rfl ?_
          refine x_iast (pc := 88) hC (by assumption) (by omega) dX12_rule_88 ?_
          refine X.mem (σ' := sw σ 47 _) (by rw [wr_sw, sw_eq, sw_sw]) ?_
          refine x_aload_n (pc := 89) hC dX12_rule_89 rfl ?_
          refine x_getr (K := 1) (pc := 90) hC fX12_9_12 (by assumption) dX12_rule_90 rfl rfl (by assumption) ?_
          refine x_bipush (pc := 93) hC dX12_rule_93 (by decide +kernel) ?_
          refine x_dup2 (pc := 95) hC dX12_rule_95 rfl rfl ?_
          refine x_iald (pc := 96) hC (by assumption) (by omega) dX12_rule_96 ?_
          simp (disch := omega) only [sw_eq, up_ne, up_eq]
          refine x_iconst (pc := 97) hC dX12_rule_97 ?_
          refine x_iadd (pc := 98) hC dX12_rule_98 ?_
          refine x_iast (pc := 99) hC (by assumption) (by omega) dX12_rule_99 ?_
          refine X.mem (σ' := sw σ 47 _) (by rw [wr_sw, sw_eq, sw_sw]) ?_
          refine x_aload_n (pc := 100) hC dX12_rule_100 rfl ?_
          refine x_getr (K := 1) (pc := 101) hC fX12_9_12 (by assumption) dX12_rule_101 rfl rfl (by assumption) ?_
          refine x_bipush (pc := 104) hC dX12_rule_104 (by decide +kernel) ?_
          refine x_iald (pc := 106) hC (by assumption) (by omega) dX12_rule_106 ?_
          simp (disch := omega) only [sw_eq, up_ne, up_eq]
          refine x_ireturn hC hZ dX12_rule_107 (by decide) (by decide) ?_
          exact ⟨congrArg (fun z => some (Value.int (iI z))) (by rw [ruleA, if_neg (by omega), if_neg (by omega), if_neg (by omega), if_neg (by omega)]), by rw [ruleZ, if_neg (by omega), if_neg (by omega), if_neg (by omega), if_neg (by omega)], rfl, rfl⟩
        · refine x_bipush (pc := 54) hC dX12_rule_54 (by decide +kernel) ?_
          refine x_ireturn hC hZ dX12_rule_56 (by decide) (by decide) ?_
          exact ⟨congrArg (fun z => some (Value.int (iI z))) (by rw [ruleA, if_neg (by omega), if_neg (by omega), if_neg (by omega), if_pos (by omega)]), by rw [ruleZ, if_neg (by omega), if_neg (by omega), if_neg (by omega), if_pos (by omega), sw_id], rfl, rfl⟩
      · refine x_bipush (pc := 40) hC dX12_rule_40 (by decide +kernel) ?_
        refine x_ireturn hC hZ dX12_rule_42 (by decide) (by decide) ?_
        exact ⟨congrArg (fun z => some (Value.int (iI z))) (by rw [ruleA, if_neg (by omega), if_neg (by omega), if_pos (by omega)]), by rw [ruleZ, if_neg (by omega), if_neg (by omega), if_pos (by omega), sw_id], rfl, rfl⟩
    · refine x_aload_n (pc := 20) hC dX12_rule_20 rfl ?_
      refine x_iload_n (pc := 21) hC dX12_rule_21 rfl ?_
      refine x_callV1 (As := [_]) (Bs := [_]) (pc := 22) hC (s_isFan E hk hw (by omega) (by omega)) wX12_151_12 pX12_isFan (by assumption) rfl rfl (by exact Nat.le_of_ble_eq_true rfl) hR (by decide) (by decide) (by decide) rfl dX12_rule_22 ?_
      refine x_ifB_ne (tgt := 30) (pc := 25) hC  dX12_rule_25 (by decide) (fun c25 => ?_) (fun c25 => ?_)
      · refine x_iload_n (pc := 30) hC dX12_rule_30 rfl ?_
        refine x_iconst (pc := 31) hC dX12_rule_31 ?_
        refine x_bipush (pc := 32) hC dX12_rule_32 (by decide +kernel) ?_
        refine x_callS1 (As := [_, _, _]) (Bs := [_, _, _]) (pc := 34) hC (s_in E (by omega) (by omega) (by omega)) wX12_41 pX12_in rfl rfl (by exact Nat.le_of_ble_eq_true rfl) hR (by decide) (by decide) (by decide) rfl dX12_rule_34 ?_
        refine x_ifB_ne (tgt := 43) (pc := 37) hC  dX12_rule_37 (by decide) (fun c37 => ?_) (fun c37 => ?_)
        · refine x_aload_n (pc := 43) hC dX12_rule_43 rfl ?_
          refine x_getr (K := 1) (pc := 44) hC fX12_9_12 (by assumption) dX12_rule_44 rfl rfl (by assumption) ?_
          refine x_bipush (pc := 47) hC dX12_rule_47 (by decide +kernel) ?_
          refine x_iald (pc := 49) hC (by assumption) (by omega) dX12_rule_49 ?_
          refine x_iconst (pc := 50) hC dX12_rule_50 ?_
          refine x_icmp_ne (tgt := 57) (pc := 51) hC (by omega) (by omega) dX12_rule_51 (by decide) (fun c51 => ?_) (fun c51 => ?_)
          · refine x_aload_n (pc := 57) hC dX12_rule_57 rfl ?_
            refine x_getr (K := 1) (pc := 58) hC fX12_9_12 (by assumption) dX12_rule_58 rfl rfl (by assumption) ?_
            refine x_bipush (pc := 61) hC dX12_rule_61 (by decide +kernel) ?_
            refine x_aload_n (pc := 63) hC dX12_rule_63 rfl ?_
            refine x_getr (K := 1) (pc := 64) hC fX12_9_12 (by assumption) dX12_rule_64 rfl rfl (by assumption) ?_
            refine x_bipush (pc := 67) hC dX12_rule_67 (by decide +kernel) ?_
            refine x_iald (pc := 69) hC (by assumption) (by omega) dX12_rule_69 ?_
            refine x_iadd (pc := 70) hC dX12_rule_70 ?_
            refine x_iload_n (pc := 71) hC dX12_rule_71 rfl ?_
            refine x_iast (pc := 72) hC (by assumption) (by omega) dX12_rule_72 ?_
            refine X.mem (σ' := sw σ 47 _) (by exact wr_sw _ _ _ _) ?_
            refine x_aload_n (pc := 73) hC dX12_rule_73 rfl ?_
            refine x_getr (K := 1) (pc := 74) hC fX12_9_12 (by assumption) dX12_rule_74 rfl rfl (by assumption) ?_
            refine x_bipush (pc := 77) hC dX12_rule_77 (by decide +kernel) ?_
            refine x_aload_n (pc := 79) hC dX12_rule_79 rfl ?_
            refine x_getr (K := 1) (pc := 80) hC fX12_9_12 (by assumption) dX12_rule_80 rfl rfl (by assumption) ?_
            refine x_bipush (pc := 83) hC dX12_rule_83 (by decide +kernel) ?_
            refine x_iald (pc := 85) hC (by assumption) (by omega) dX12_rule_85 ?_
            simp (disch := omega) only [sw_eq, up_ne, up_eq]
            refine x_iadd (pc := 86) hC dX12_rule_86 ?_
            refine x_iload_n (pc := 87) hC dX12_rule_87 rfl ?_
            refine x_iast (pc := 88) hC (by assumption) (by omega) dX12_rule_88 ?_
            refine X.mem (σ' := sw σ 47 _) (by rw [wr_sw, sw_eq, sw_sw]) ?_
            refine x_aload_n (pc := 89) hC dX12_rule_89 rfl ?_
            refine x_getr (K := 1) (pc := 90) hC fX12_9_12 (by assumption) dX12_rule_90 rfl rfl (by assumption) ?_
            refine x_bipush (pc := 93) hC dX12_rule_93 (by decide +kernel) ?_
            refine x_dup2 (pc := 95) hC dX12_rule_95 rfl rfl ?_
            refine x_iald (pc := 96) hC (by assumption) (by omega) dX12_rule_96 ?_
            simp (disch := omega) only [sw_eq, up_ne, up_eq]
            refine x_iconst (pc := 97) hC dX12_rule_97 ?_
            refine x_iadd (pc := 98) hC dX12_rule_98 ?_
            refine x_iast (pc := 99) hC (by assumption) (by omega) dX12_rule_99 ?_
            refine X.mem (σ' := sw σ 47 _) (by rw [wr_sw, sw_eq, sw_sw]) ?_
            refine x_aload_n (pc := 100) hC dX12_rule_100 rfl ?_
            refine x_getr (K := 1) (pc := 101) hC fX12_9_12 (by assumption) dX12_rule_101 rfl rfl (by assumption) ?_
            refine x_bipush (pc := 104) hC dX12_rule_104 (by decide +kernel) ?_
            refine x_iald (pc := 106) hC (by assumption) (by omega) dX12_rule_106 ?_
            simp (disch := omega) only [sw_eq, up_ne, up_eq]
            refine x_ireturn hC hZ dX12_rule_107 (by decide) (by decide) ?_
            exact ⟨congrArg (fun z => some (Value.int (iI z))) (by rw [ruleA, if_neg (by omega), if_neg (by omega), if_neg (by omega), if_neg (by omega)]), by rw [ruleZ, if_neg (by omega), if_neg (by omega), if_neg (by omega), if_neg (by omega)], rfl, rfl⟩
          · refine x_bipush (pc := 54) hC dX12_rule_54 (by decide +kernel) ?_
            refine x_ireturn hC hZ dX12_rule_56 (by decide) (by decide) ?_
            exact ⟨congrArg (fun z => some (Value.int (iI z))) (by rw [ruleA, if_neg (by omega), if_neg (by omega), if_neg (by omega), if_pos (by omega)]), by rw [ruleZ, if_neg (by omega), if_neg (by omega), if_neg (by omega), if_pos (by omega), sw_id], rfl, rfl⟩
        · refine x_bipush (pc := 40) hC dX12_rule_40 (by decide +kernel) ?_
          refine x_ireturn hC hZ dX12_rule_42 (by decide) (by decide) ?_
          exact ⟨congrArg (fun z => some (Value.int (iI z))) (by rw [ruleA, if_neg (by omega), if_neg (by omega), if_pos (by omega)]), by rw [ruleZ, if_neg (by omega), if_neg (by omega), if_pos (by omega), sw_id], rfl, rfl⟩
      · refine x_iconst (pc := 28) hC dX12_rule_28 ?_
        refine x_ireturn hC hZ dX12_rule_29 (by decide) (by decide) ?_
        exact ⟨congrArg (fun z => some (Value.int (iI z))) (by rw [ruleA, if_neg (by omega), if_pos (by omega)]), by rw [ruleZ, if_neg (by omega), if_pos (by omega), sw_id], rfl, rfl⟩
  · refine x_aload_n (pc := 5) hC dX12_rule_5 rfl ?_
    refine x_getr (K := 1) (pc := 6) hC fX12_9_12 (by assumption) dX12_rule_6 rfl rfl (by assumption) ?_
    refine x_bipush (pc := 9) hC dX12_rule_9 (by decide +kernel) ?_
    refine x_iconst (pc := 11) hC dX12_rule_11 ?_
    refine x_iast (pc := 12) hC (by assumption) (by omega) dX12_rule_12 ?_
    refine X.mem (σ' := sw σ 47 _) (by exact wr_sw _ _ _ _) ?_
    refine x_iconst (pc := 13) hC dX12_rule_13 ?_
    refine x_ireturn hC hZ dX12_rule_14 (by decide) (by decide) ?_
    exact ⟨congrArg (fun z => some (Value.int (iI z))) (by rw [ruleA, if_pos (by omega)]), by rw [ruleZ, if_pos (by omega)], rfl, rfl⟩

set_option maxHeartbeats 4000000 in
set_option maxRecDepth 100000 in
theorem s_book (E : xE) {σ : xM} {ρ : xR} {ks : xKs} (hk : MK ks) (hw : MW ρ) {f x q : Int} (hf : rg f) (hx : rg x) (hq : rg q) (hfan : FansOk (σ 47)) (h18 : 0 ≤ σ 47 18 ∧ σ 47 18 ≤ 8) : Sp E yX12_book kX12_book 3 0 0 [.ref 46, .int (iI f), .int (iI x), .int (iI q)] σ ρ ks (Fn (some (.int (iI (bookA (σ 47) f x q)))) (sw σ 47 (bookZ (σ 47) f x q)) ρ ks) := by
  obtain ⟨k46, k47, k48, k49, k50, k51, k52, k53, k54⟩ := id hk
  obtain ⟨w1, w2, w3, w10, w11, w14, w15, w16⟩ := id hw
  have hf13 := hfan.1
  refine x_enter (own := RX12) (L := [_, _, _, _]) (by decide +kernel) rfl (by exact Nat.le_of_ble_eq_true rfl) rfl (fun p e R s m args below meth c Z hZ hC hR hin => ?_)
  refine x_iload_n (pc := 0) hC dX12_book_0 rfl ?_
  refine x_iconst (pc := 1) hC dX12_book_1 ?_
  refine x_icmp_ne (tgt := 15) (pc := 2) hC (by omega) (by omega) dX12_book_2 (by decide) (fun c2 => ?_) (fun c2 => ?_)
  · refine x_aload_n (pc := 15) hC dX12_book_15 rfl ?_
    refine x_iload_n (pc := 16) hC dX12_book_16 rfl ?_
    refine x_callV1 (As := [_]) (Bs := [_]) (pc := 17) hC (s_isFan E hk hw (by omega) (by omega)) wX12_151_12 pX12_isFan (by assumption) rfl rfl (by exact Nat.le_of_ble_eq_true rfl) hR (by decide) (by decide) (by decide) rfl dX12_book_17 ?_
    refine x_ifB_eq (tgt := 30) (pc := 20) hC  dX12_book_20 (by decide) (fun c20 => ?_) (fun c20 => ?_)
    · refine x_iconst (pc := 30) hC dX12_book_30 ?_
      refine x_ireturn hC hZ dX12_book_31 (by decide) (by decide) ?_
      exact ⟨congrArg (fun z => some (Value.int (iI z))) (by rw [bookA, if_neg (by omega), if_pos (by omega)]), by rw [bookZ, if_neg (by omega), if_pos (by omega), sw_id], rfl, rfl⟩
    · refine x_iload_n (pc := 23) hC dX12_book_23 rfl ?_
      refine x_callS1 (As := [_]) (Bs := [_]) (pc := 24) hC (s_isPlace E (by omega)) wX12_134 pX12_isPlace rfl rfl (by exact Nat.le_of_ble_eq_true rfl) hR (by decide) (by decide) (by decide) rfl dX12_book_24 ?_
      refine x_ifB_ne (tgt := 32) (pc := 27) hC  dX12_book_27 (by decide) (fun c27 => ?_) (fun c27 => ?_)
      · refine x_iload_n (pc := 32) hC dX12_book_32 rfl ?_
        refine x_iconst (pc := 33) hC dX12_book_33 ?_
        refine x_sipush (pc := 34) hC dX12_book_34 (by decide +kernel) ?_
        refine x_callS1 (As := [_, _, _]) (Bs := [_, _, _]) (pc := 37) hC (s_in E (by omega) (by omega) (by omega)) wX12_41 pX12_in rfl rfl (by exact Nat.le_of_ble_eq_true rfl) hR (by decide) (by decide) (by decide) rfl dX12_book_37 ?_
        refine x_ifB_ne (tgt := 46) (pc := 40) hC  dX12_book_40 (by decide) (fun c40 => ?_) (fun c40 => ?_)
        · refine x_aload_n (pc := 46) hC dX12_book_46 rfl ?_
          refine x_getr (K := 1) (pc := 47) hC fX12_9_12 (by assumption) dX12_book_47 rfl rfl (by assumption) ?_
          refine x_bipush (pc := 50) hC dX12_book_50 (by decide +kernel) ?_
          refine x_iald (pc := 52) hC (by assumption) (by omega) dX12_book_52 ?_
          refine x_bipush (pc := 53) hC dX12_book_53 (by decide +kernel) ?_
          refine x_icmp_ne (tgt := 61) (pc := 55) hC (by omega) (by omega) dX12_book_55 (by decide) (fun c55 => ?_) (fun c55 => ?_)
          · refine x_aload_n (pc := 61) hC dX12_book_61 rfl ?_
            refine x_getr (K := 1) (pc := 62) hC fX12_9_12 (by assumption) dX12_book_62 rfl rfl (by assumption) ?_
            refine x_bipush (pc := 65) hC dX12_book_65 (by decide +kernel) ?_
            refine x_aload_n (pc := 67) hC dX12_book_67 rfl ?_
            refine x_getr (K := 1) (pc := 68) hC fX12_9_12 (by assumption) dX12_book_68 rfl rfl (by assumption) ?_
            refine x_bipush (pc := 71) hC dX12_book_71 (by decide +kernel) ?_
            refine x_iald (pc := 73) hC (by assumption) (by omega) dX12_book_73 ?_
            refine x_iadd (pc := 74) hC dX12_book_74 ?_
            refine x_iload_n (pc := 75) hC dX12_book_75 rfl ?_
            refine x_iast (pc := 76) hC (by assumption) (by omega) dX12_book_76 ?_
            refine X.mem (σ' := sw σ 47 _) (by exact wr_sw _ _ _ _) ?_
            refine x_aload_n (pc := 77) hC dX12_book_77 rfl ?_
            refine x_getr (K := 1) (pc := 78) hC fX12_9_12 (by assumption) dX12_book_78 rfl rfl (by assumption) ?_
            refine x_bipush (pc := 81) hC dX12_book_81 (by decide +kernel) ?_
            refine x_aload_n (pc := 83) hC dX12_book_83 rfl ?_
            refine x_getr (K := 1) (pc := 84) hC fX12_9_12 (by assumption) dX12_book_84 rfl rfl (by assumption) ?_
            refine x_bipush (pc := 87) hC dX12_book_87 (by decide +kernel) ?_
            refine x_iald (pc := 89) hC (by assumption) (by omega) dX12_book_89 ?_
            simp (disch := omega) only [sw_eq, up_ne, up_eq]
            refine x_iadd (pc := 90) hC dX12_book_90 ?_
            refine x_iload_n (pc := 91) hC dX12_book_91 rfl ?_
            refine x_iast (pc := 92) hC (by assumption) (by omega) dX12_book_92 ?_
            refine X.mem (σ' := sw σ 47 _) (by rw [wr_sw, sw_eq, sw_sw]) ?_
            refine x_aload_n (pc := 93) hC dX12_book_93 rfl ?_
            refine x_getr (K := 1) (pc := 94) hC fX12_9_12 (by assumption) dX12_book_94 rfl rfl (by assumption) ?_
            refine x_bipush (pc := 97) hC dX12_book_97 (by decide +kernel) ?_
            refine x_aload_n (pc := 99) hC dX12_book_99 rfl ?_
            refine x_getr (K := 1) (pc := 100) hC fX12_9_12 (by assumption) dX12_book_100 rfl rfl (by assumption) ?_
            refine x_bipush (pc := 103) hC dX12_book_103 (by decide +kernel) ?_
            refine x_iald (pc := 105) hC (by assumption) (by omega) dX12_book_105 ?_
            simp (disch := omega) only [sw_eq, up_ne, up_eq]
            refine x_iadd (pc := 106) hC dX12_book_106 ?_
            refine x_iload_n (pc := 107) hC dX12_book_107 rfl ?_
            refine x_iast (pc := 108) hC (by assumption) (by omega) dX12_book_108 ?_
            refine X.mem (σ' := sw σ 47 _) (by rw [wr_sw, sw_eq, sw_sw]) ?_
            refine x_aload_n (pc := 109) hC dX12_book_109 rfl ?_
            refine x_getr (K := 1) (pc := 110) hC fX12_9_12 (by assumption) dX12_book_110 rfl rfl (by assumption) ?_
            refine x_bipush (pc := 113) hC dX12_book_113 (by decide +kernel) ?_
            refine x_dup2 (pc := 115) hC dX12_book_115 rfl rfl ?_
            refine x_iald (pc := 116) hC (by assumption) (by omega) dX12_book_116 ?_
            simp (disch := omega) only [sw_eq, up_ne, up_eq]
            refine x_iconst (pc := 117) hC dX12_book_117 ?_
            refine x_iadd (pc := 118) hC dX12_book_118 ?_
            refine x_iast (pc := 119) hC (by assumption) (by omega) dX12_book_119 ?_
            refine X.mem (σ' := sw σ 47 _) (by rw [wr_sw, sw_eq, sw_sw]) ?_
            refine x_aload_n (pc := 120) hC dX12_book_120 rfl ?_
            refine x_getr (K := 1) (pc := 121) hC fX12_9_12 (by assumption) dX12_book_121 rfl rfl (by assumption) ?_
            refine x_bipush (pc := 124) hC dX12_book_124 (by decide +kernel) ?_
            refine x_iald (pc := 126) hC (by assumption) (by omega) dX12_book_126 ?_
            simp (disch := omega) only [sw_eq, up_ne, up_eq]
            refine x_ireturn hC hZ dX12_book_127 (by decide) (by decide) ?_
            exact ⟨congrArg (fun z => some (Value.int (iI z))) (by rw [bookA, if_neg (by omega), if_neg (by omega), if_neg (by omega), if_neg (by omega)]), by rw [bookZ, if_neg (by omega), if_neg (by omega), if_neg (by omega), if_neg (by omega)], rfl, rfl⟩
          · refine x_bipush (pc := 58) hC dX12_book_58 (by decide +kernel) ?_
            refine x_ireturn hC hZ dX12_book_60 (by decide) (by decide) ?_
            exact ⟨congrArg (fun z => some (Value.int (iI z))) (by rw [bookA, if_neg (by omega), if_neg (by omega), if_neg (by omega), if_pos (by omega)]), by rw [bookZ, if_neg (by omega), if_neg (by omega), if_neg (by omega), if_pos (by omega), sw_id], rfl, rfl⟩
        · refine x_bipush (pc := 43) hC dX12_book_43 (by decide +kernel) ?_
          refine x_ireturn hC hZ dX12_book_45 (by decide) (by decide) ?_
          exact ⟨congrArg (fun z => some (Value.int (iI z))) (by rw [bookA, if_neg (by omega), if_neg (by omega), if_pos (by omega)]), by rw [bookZ, if_neg (by omega), if_neg (by omega), if_pos (by omega), sw_id], rfl, rfl⟩
      · refine x_iconst (pc := 30) hC dX12_book_30 ?_
        refine x_ireturn hC hZ dX12_book_31 (by decide) (by decide) ?_
        exact ⟨congrArg (fun z => some (Value.int (iI z))) (by rw [bookA, if_neg (by omega), if_pos (by omega)]), by rw [bookZ, if_neg (by omega), if_pos (by omega), sw_id], rfl, rfl⟩
  · refine x_aload_n (pc := 5) hC dX12_book_5 rfl ?_
    refine x_getr (K := 1) (pc := 6) hC fX12_9_12 (by assumption) dX12_book_6 rfl rfl (by assumption) ?_
    refine x_bipush (pc := 9) hC dX12_book_9 (by decide +kernel) ?_
    refine x_iconst (pc := 11) hC dX12_book_11 ?_
    refine x_iast (pc := 12) hC (by assumption) (by omega) dX12_book_12 ?_
    refine X.mem (σ' := sw σ 47 _) (by exact wr_sw _ _ _ _) ?_
    refine x_iconst (pc := 13) hC dX12_book_13 ?_
    refine x_ireturn hC hZ dX12_book_14 (by decide) (by decide) ?_
    exact ⟨congrArg (fun z => some (Value.int (iI z))) (by rw [bookA, if_pos (by omega)]), by rw [bookZ, if_pos (by omega)], rfl, rfl⟩

def ofA (z : zS) (f w : Int) : Int := if ¬ ((0 ≤ f ∧ f ≤ z 13 - 1) ∧ 0 ≤ w ∧ w ≤ 6) then -1 else if w = 6 then isAtF z f (z 0) else z (22 + 4 * w + f)
set_option maxHeartbeats 4000000 in
set_option maxRecDepth 100000 in
theorem s_of (E : xE) {σ : xM} {ρ : xR} {ks : xKs} (hk : MK ks) (hw : MW ρ) {f w : Int} (hf : rg f) (hw0 : rg w) (hfan : FansOk (σ 47)) (hsit : SitOk (σ 47)) (ht : 0 ≤ σ 47 0 ∧ σ 47 0 < 1000000) : Sp E yX12_of kX12_of 3 0 0 [.ref 46, .int (iI f), .int (iI w)] σ ρ ks (Fn (some (.int (iI (ofA (σ 47) f w)))) (σ) ρ ks) := by
  obtain ⟨k46, k47, k48, k49, k50, k51, k52, k53, k54⟩ := id hk
  obtain ⟨w1, w2, w3, w10, w11, w14, w15, w16⟩ := id hw
  have hf13 := hfan.1
  refine x_enter (own := RX12) (L := [_, _, _]) (by decide +kernel) rfl (by exact Nat.le_of_ble_eq_true rfl) rfl (fun p e R s m args below meth c Z hZ hC hR hin => ?_)
  refine x_aload_n (pc := 0) hC dX12_of_0 rfl ?_
  refine x_iload_n (pc := 1) hC dX12_of_1 rfl ?_
  refine x_callV1 (As := [_]) (Bs := [_]) (pc := 2) hC (s_isFan E hk hw (by omega) (by omega)) wX12_151_12 pX12_isFan (by assumption) rfl rfl (by exact Nat.le_of_ble_eq_true rfl) hR (by decide) (by decide) (by decide) rfl dX12_of_2 ?_
  refine x_ifB_eq (tgt := 18) (pc := 5) hC  dX12_of_5 (by decide) (fun c5 => ?_) (fun c5 => ?_)
  · refine x_iconst (pc := 18) hC dX12_of_18 ?_
    refine x_ireturn hC hZ dX12_of_19 (by decide) (by decide) ?_
    exact ⟨congrArg (fun z => some (Value.int (iI z))) (by rw [ofA, if_pos (by omega)]), rfl, rfl, rfl⟩
  · refine x_iload_n (pc := 8) hC dX12_of_8 rfl ?_
    refine x_iconst (pc := 9) hC dX12_of_9 ?_
    refine x_bipush (pc := 10) hC dX12_of_10 (by decide +kernel) ?_
    refine x_callS1 (As := [_, _, _]) (Bs := [_, _, _]) (pc := 12) hC (s_in E (by omega) (by omega) (by omega)) wX12_41 pX12_in rfl rfl (by exact Nat.le_of_ble_eq_true rfl) hR (by decide) (by decide) (by decide) rfl dX12_of_12 ?_
    refine x_ifB_ne (tgt := 20) (pc := 15) hC  dX12_of_15 (by decide) (fun c15 => ?_) (fun c15 => ?_)
    · refine x_iload_n (pc := 20) hC dX12_of_20 rfl ?_
      refine x_bipush (pc := 21) hC dX12_of_21 (by decide +kernel) ?_
      refine x_icmp_ne (tgt := 40) (pc := 23) hC (by omega) (by omega) dX12_of_23 (by decide) (fun c23 => ?_) (fun c23 => ?_)
      · refine x_aload_n (pc := 40) hC dX12_of_40 rfl ?_
        refine x_getr (K := 1) (pc := 41) hC fX12_9_12 (by assumption) dX12_of_41 rfl rfl (by assumption) ?_
        refine x_bipush (pc := 44) hC dX12_of_44 (by decide +kernel) ?_
        refine x_iconst (pc := 46) hC dX12_of_46 ?_
        refine x_iload_n (pc := 47) hC dX12_of_47 rfl ?_
        refine x_imul (pc := 48) hC dX12_of_48 ?_
        refine x_iadd (pc := 49) hC dX12_of_49 ?_
        refine x_iload_n (pc := 50) hC dX12_of_50 rfl ?_
        refine x_iadd (pc := 51) hC dX12_of_51 ?_
        refine x_iald (pc := 52) hC (by assumption) (by omega) dX12_of_52 ?_
        refine x_ireturn hC hZ dX12_of_53 (by decide) (by decide) ?_
        exact ⟨congrArg (fun z => some (Value.int (iI z))) (by rw [ofA, if_neg (by omega), if_neg (by omega)]), rfl, rfl, rfl⟩
      · refine x_aload_n (pc := 26) hC dX12_of_26 rfl ?_
        refine x_iload_n (pc := 27) hC dX12_of_27 rfl ?_
        refine x_aload_n (pc := 28) hC dX12_of_28 rfl ?_
        refine x_getr (K := 1) (pc := 29) hC fX12_9_12 (by assumption) dX12_of_29 rfl rfl (by assumption) ?_
        refine x_iconst (pc := 32) hC dX12_of_32 ?_
        refine x_iald (pc := 33) hC (by assumption) (by omega) dX12_of_33 ?_
        refine x_callV1 (As := [_, _]) (Bs := [_, _]) (pc := 34) hC (s_isAt E hk hw (hfan.2 f (by omega) (by omega)) hsit (by omega) (by omega)) wX12_144_12 pX12_isAt (by assumption) rfl rfl (by exact Nat.le_of_ble_eq_true rfl) hR (by decide) (by decide) (by decide) rfl dX12_of_34 ?_
        refine x_goto (tgt := 53) (pc := 37) hC dX12_of_37 (by decide) ?_
        refine x_ireturn hC hZ dX12_of_53 (by decide) (by decide) ?_
        exact ⟨congrArg (fun z => some (Value.int (iI z))) (by rw [ofA, if_neg (by omega), if_pos (by omega)]), rfl, rfl, rfl⟩
    · refine x_iconst (pc := 18) hC dX12_of_18 ?_
      refine x_ireturn hC hZ dX12_of_19 (by decide) (by decide) ?_
      exact ⟨congrArg (fun z => some (Value.int (iI z))) (by rw [ofA, if_pos (by omega)]), rfl, rfl, rfl⟩

def countA (z o : zS) (w : Int) : Int := if w = 7 then o 17 else if 0 ≤ w ∧ w ≤ 6 then z (13 + w) else -1
set_option maxHeartbeats 4000000 in
set_option maxRecDepth 100000 in
theorem s_count (E : xE) {σ : xM} {ρ : xR} {ks : xKs} (hk : MK ks) (hw : MW ρ) {w : Int} (hw0 : rg w) : Sp E yX12_count kX12_count 2 0 0 [.ref 46, .int (iI w)] σ ρ ks (Fn (some (.int (iI (countA (σ 47) (σ 46) w)))) (σ) ρ ks) := by
  obtain ⟨k46, k47, k48, k49, k50, k51, k52, k53, k54⟩ := id hk
  obtain ⟨w1, w2, w3, w10, w11, w14, w15, w16⟩ := id hw
  refine x_enter (own := RX12) (L := [_, _]) (by decide +kernel) rfl (by exact Nat.le_of_ble_eq_true rfl) rfl (fun p e R s m args below meth c Z hZ hC hR hin => ?_)
  refine x_iload_n (pc := 0) hC dX12_count_0 rfl ?_
  refine x_bipush (pc := 1) hC dX12_count_1 (by decide +kernel) ?_
  refine x_icmp_ne (tgt := 13) (pc := 3) hC (by omega) (by omega) dX12_count_3 (by decide) (fun c3 => ?_) (fun c3 => ?_)
  · refine x_iload_n (pc := 13) hC dX12_count_13 rfl ?_
    refine x_iconst (pc := 14) hC dX12_count_14 ?_
    refine x_bipush (pc := 15) hC dX12_count_15 (by decide +kernel) ?_
    refine x_callS1 (As := [_, _, _]) (Bs := [_, _, _]) (pc := 17) hC (s_in E (by omega) (by omega) (by omega)) wX12_41 pX12_in rfl rfl (by exact Nat.le_of_ble_eq_true rfl) hR (by decide) (by decide) (by decide) rfl dX12_count_17 ?_
    refine x_ifB_eq (tgt := 35) (pc := 20) hC  dX12_count_20 (by decide) (fun c20 => ?_) (fun c20 => ?_)
    · refine x_iconst (pc := 35) hC dX12_count_35 ?_
      refine x_ireturn hC hZ dX12_count_36 (by decide) (by decide) ?_
      exact ⟨congrArg (fun z => some (Value.int (iI z))) (by rw [countA, if_neg (by omega), if_neg (by omega)]), rfl, rfl, rfl⟩
    · refine x_aload_n (pc := 23) hC dX12_count_23 rfl ?_
      refine x_getr (K := 1) (pc := 24) hC fX12_9_12 (by assumption) dX12_count_24 rfl rfl (by assumption) ?_
      refine x_bipush (pc := 27) hC dX12_count_27 (by decide +kernel) ?_
      refine x_iload_n (pc := 29) hC dX12_count_29 rfl ?_
      refine x_iadd (pc := 30) hC dX12_count_30 ?_
      refine x_iald (pc := 31) hC (by assumption) (by omega) dX12_count_31 ?_
      refine x_goto (tgt := 36) (pc := 32) hC dX12_count_32 (by decide) ?_
      refine x_ireturn hC hZ dX12_count_36 (by decide) (by decide) ?_
      exact ⟨congrArg (fun z => some (Value.int (iI z))) (by rw [countA, if_neg (by omega), if_pos (by omega)]), rfl, rfl, rfl⟩
  · refine x_aload_n (pc := 6) hC dX12_count_6 rfl ?_
    refine x_geti (K := 17) (pc := 7) hC fX12_240_12 (by assumption) dX12_count_7 rfl rfl ?_
    refine x_goto (tgt := 36) (pc := 10) hC dX12_count_10 (by decide) ?_
    refine x_ireturn hC hZ dX12_count_36 (by decide) (by decide) ?_
    exact ⟨congrArg (fun z => some (Value.int (iI z))) (by rw [countA, if_pos (by omega)]), rfl, rfl, rfl⟩

def traceA (o b : zS) (x : Int) : Int := if 0 ≤ x ∧ x ≤ (if o 17 < 20 then o 17 else 20) - 1 then b x else -1
set_option maxHeartbeats 4000000 in
set_option maxRecDepth 100000 in
theorem s_trace (E : xE) {σ : xM} {ρ : xR} {ks : xKs} (hk : MK ks) (hw : MW ρ) {x : Int} (hx : rg x) (h17 : 0 ≤ σ 46 17 ∧ σ 46 17 < 1000000) : Sp E yX12_trace kX12_trace 2 0 0 [.ref 46, .int (iI x)] σ ρ ks (Fn (some (.int (iI (traceA (σ 46) (σ 54) x)))) (σ) ρ ks) := by
  obtain ⟨k46, k47, k48, k49, k50, k51, k52, k53, k54⟩ := id hk
  obtain ⟨w1, w2, w3, w10, w11, w14, w15, w16⟩ := id hw
  refine x_enter (own := RX12) (L := [_, _]) (by decide +kernel) rfl (by exact Nat.le_of_ble_eq_true rfl) rfl (fun p e R s m args below meth c Z hZ hC hR hin => ?_)
  refine x_iload_n (pc := 0) hC dX12_trace_0 rfl ?_
  refine x_iconst (pc := 1) hC dX12_trace_1 ?_
  refine x_aload_n (pc := 2) hC dX12_trace_2 rfl ?_
  refine x_geti (K := 17) (pc := 3) hC fX12_240_12 (by assumption) dX12_trace_3 rfl rfl ?_
  refine x_bipush (pc := 6) hC dX12_trace_6 (by decide +kernel) ?_
  refine x_icmp_ge (tgt := 18) (pc := 8) hC (by omega) (by omega) dX12_trace_8 (by decide) (fun c8 => ?_) (fun c8 => ?_)
  · refine x_bipush (pc := 18) hC dX12_trace_18 (by decide +kernel) ?_
    refine x_iconst (pc := 20) hC dX12_trace_20 ?_
    refine x_isub (pc := 21) hC dX12_trace_21 ?_
    refine x_callS1 (As := [_, _, _]) (Bs := [_, _, _]) (pc := 22) hC (s_in E (by omega) (by omega) (by omega)) wX12_41 pX12_in rfl rfl (by exact Nat.le_of_ble_eq_true rfl) hR (by decide) (by decide) (by decide) rfl dX12_trace_22 ?_
    refine x_ifB_eq (tgt := 37) (pc := 25) hC  dX12_trace_25 (by decide) (fun c25 => ?_) (fun c25 => ?_)
    · refine x_iconst (pc := 37) hC dX12_trace_37 ?_
      refine x_ireturn hC hZ dX12_trace_38 (by decide) (by decide) ?_
      exact ⟨congrArg (fun z => some (Value.int (iI z))) (by rw [traceA, if_neg (show ¬ σ 46 17 < 20 by omega), if_neg (by omega)]), rfl, rfl, rfl⟩
    · refine x_aload_n (pc := 28) hC dX12_trace_28 rfl ?_
      refine x_getr (K := 16) (pc := 29) hC fX12_34_12 (by assumption) dX12_trace_29 rfl rfl (by assumption) ?_
      refine x_iload_n (pc := 32) hC dX12_trace_32 rfl ?_
      refine x_iald (pc := 33) hC (by assumption) (by omega) dX12_trace_33 ?_
      refine x_goto (tgt := 38) (pc := 34) hC dX12_trace_34 (by decide) ?_
      refine x_ireturn hC hZ dX12_trace_38 (by decide) (by decide) ?_
      exact ⟨congrArg (fun z => some (Value.int (iI z))) (by rw [traceA, if_neg (show ¬ σ 46 17 < 20 by omega), if_pos (by omega)]), rfl, rfl, rfl⟩
  · refine x_aload_n (pc := 11) hC dX12_trace_11 rfl ?_
    refine x_geti (K := 17) (pc := 12) hC fX12_240_12 (by assumption) dX12_trace_12 rfl rfl ?_
    refine x_goto (tgt := 20) (pc := 15) hC dX12_trace_15 (by decide) ?_
    refine x_iconst (pc := 20) hC dX12_trace_20 ?_
    refine x_isub (pc := 21) hC dX12_trace_21 ?_
    refine x_callS1 (As := [_, _, _]) (Bs := [_, _, _]) (pc := 22) hC (s_in E (by omega) (by omega) (by omega)) wX12_41 pX12_in rfl rfl (by exact Nat.le_of_ble_eq_true rfl) hR (by decide) (by decide) (by decide) rfl dX12_trace_22 ?_
    refine x_ifB_eq (tgt := 37) (pc := 25) hC  dX12_trace_25 (by decide) (fun c25 => ?_) (fun c25 => ?_)
    · refine x_iconst (pc := 37) hC dX12_trace_37 ?_
      refine x_ireturn hC hZ dX12_trace_38 (by decide) (by decide) ?_
      exact ⟨congrArg (fun z => some (Value.int (iI z))) (by rw [traceA, if_pos (show σ 46 17 < 20 by omega), if_neg (by omega)]), rfl, rfl, rfl⟩
    · refine x_aload_n (pc := 28) hC dX12_trace_28 rfl ?_
      refine x_getr (K := 16) (pc := 29) hC fX12_34_12 (by assumption) dX12_trace_29 rfl rfl (by assumption) ?_
      refine x_iload_n (pc := 32) hC dX12_trace_32 rfl ?_
      refine x_iald (pc := 33) hC (by assumption) (by omega) dX12_trace_33 ?_
      refine x_goto (tgt := 38) (pc := 34) hC dX12_trace_34 (by decide) ?_
      refine x_ireturn hC hZ dX12_trace_38 (by decide) (by decide) ?_
      exact ⟨congrArg (fun z => some (Value.int (iI z))) (by rw [traceA, if_pos (show σ 46 17 < 20 by omega), if_pos (by omega)]), rfl, rfl, rfl⟩

set_option maxHeartbeats 4000000 in
set_option maxRecDepth 100000 in
theorem s_isUnder (E : xE) {σ : xM} {ρ : xR} {ks : xKs} {kd k : Int} (h1 : rg kd) (h2 : rg k) : Sp E yX12_isUnder kX12_isUnder 1 0 0 [.int (iI kd), .int (iI k)] σ ρ ks (Fn (some (.int (iI (bI (k = 0 ∨ k = kd ∨ (kd = 4 ∧ k = 1) ∨ (kd = 5 ∧ k = 3) ∨ (kd = 6 ∧ k = 2)))))) (σ) ρ ks) := by
  refine x_enter (own := RX12) (L := [_, _]) (by decide +kernel) rfl (by exact Nat.le_of_ble_eq_true rfl) rfl (fun p e R s m args below meth c Z hZ hC hR hin => ?_)
  refine x_iload_n (pc := 0) hC dX12_isUnder_0 rfl ?_
  refine x_if_eq (tgt := 40) (pc := 1) hC (by omega) dX12_isUnder_1 (by decide) (fun c1 => ?_) (fun c1 => ?_)
  · refine x_iconst (pc := 40) hC dX12_isUnder_40 ?_
    refine x_goto (tgt := 45) (pc := 41) hC dX12_isUnder_41 (by decide) ?_
    refine x_zreturn hC hZ (by omega) dX12_isUnder_45 (by decide) (by decide) ?_
    exact ⟨congrArg (fun z => some (Value.int (iI z))) (by unfold bI; split <;> omega), rfl, rfl, rfl⟩
  · refine x_iload_n (pc := 4) hC dX12_isUnder_4 rfl ?_
    refine x_iload_n (pc := 5) hC dX12_isUnder_5 rfl ?_
    refine x_icmp_eq (tgt := 40) (pc := 6) hC (by omega) (by omega) dX12_isUnder_6 (by decide) (fun c6 => ?_) (fun c6 => ?_)
    · refine x_iconst (pc := 40) hC dX12_isUnder_40 ?_
      refine x_goto (tgt := 45) (pc := 41) hC dX12_isUnder_41 (by decide) ?_
      refine x_zreturn hC hZ (by omega) dX12_isUnder_45 (by decide) (by decide) ?_
      exact ⟨congrArg (fun z => some (Value.int (iI z))) (by unfold bI; split <;> omega), rfl, rfl, rfl⟩
    · refine x_iload_n (pc := 9) hC dX12_isUnder_9 rfl ?_
      refine x_iconst (pc := 10) hC dX12_isUnder_10 ?_
      refine x_icmp_ne (tgt := 19) (pc := 11) hC (by omega) (by omega) dX12_isUnder_11 (by decide) (fun c11 => ?_) (fun c11 => ?_)
      · refine x_iload_n (pc := 19) hC dX12_isUnder_19 rfl ?_
        refine x_iconst (pc := 20) hC dX12_isUnder_20 ?_
        refine x_icmp_ne (tgt := 29) (pc := 21) hC (by omega) (by omega) dX12_isUnder_21 (by decide) (fun c21 => ?_) (fun c21 => ?_)
        · refine x_iload_n (pc := 29) hC dX12_isUnder_29 rfl ?_
          refine x_bipush (pc := 30) hC dX12_isUnder_30 (by decide +kernel) ?_
          refine x_icmp_ne (tgt := 44) (pc := 32) hC (by omega) (by omega) dX12_isUnder_32 (by decide) (fun c32 => ?_) (fun c32 => ?_)
          · refine x_iconst (pc := 44) hC dX12_isUnder_44 ?_
            refine x_zreturn hC hZ (by omega) dX12_isUnder_45 (by decide) (by decide) ?_
            exact ⟨congrArg (fun z => some (Value.int (iI z))) (by unfold bI; split <;> omega), rfl, rfl, rfl⟩
          · refine x_iload_n (pc := 35) hC dX12_isUnder_35 rfl ?_
            refine x_iconst (pc := 36) hC dX12_isUnder_36 ?_
            refine x_icmp_ne (tgt := 44) (pc := 37) hC (by omega) (by omega) dX12_isUnder_37 (by decide) (fun c37 => ?_) (fun c37 => ?_)
            · refine x_iconst (pc := 44) hC dX12_isUnder_44 ?_
              refine x_zreturn hC hZ (by omega) dX12_isUnder_45 (by decide) (by decide) ?_
              exact ⟨congrArg (fun z => some (Value.int (iI z))) (by unfold bI; split <;> omega), rfl, rfl, rfl⟩
            · refine x_iconst (pc := 40) hC dX12_isUnder_40 ?_
              refine x_goto (tgt := 45) (pc := 41) hC dX12_isUnder_41 (by decide) ?_
              refine x_zreturn hC hZ (by omega) dX12_isUnder_45 (by decide) (by decide) ?_
              exact ⟨congrArg (fun z => some (Value.int (iI z))) (by unfold bI; split <;> omega), rfl, rfl, rfl⟩
        · refine x_iload_n (pc := 24) hC dX12_isUnder_24 rfl ?_
          refine x_iconst (pc := 25) hC dX12_isUnder_25 ?_
          refine x_icmp_eq (tgt := 40) (pc := 26) hC (by omega) (by omega) dX12_isUnder_26 (by decide) (fun c26 => ?_) (fun c26 => ?_)
          · refine x_iconst (pc := 40) hC dX12_isUnder_40 ?_
            refine x_goto (tgt := 45) (pc := 41) hC dX12_isUnder_41 (by decide) ?_
            refine x_zreturn hC hZ (by omega) dX12_isUnder_45 (by decide) (by decide) ?_
            exact ⟨congrArg (fun z => some (Value.int (iI z))) (by unfold bI; split <;> omega), rfl, rfl, rfl⟩
          · refine x_iload_n (pc := 29) hC dX12_isUnder_29 rfl ?_
            refine x_bipush (pc := 30) hC dX12_isUnder_30 (by decide +kernel) ?_
            refine x_icmp_ne (tgt := 44) (pc := 32) hC (by omega) (by omega) dX12_isUnder_32 (by decide) (fun c32 => ?_) (fun c32 => ?_)
            · refine x_iconst (pc := 44) hC dX12_isUnder_44 ?_
              refine x_zreturn hC hZ (by omega) dX12_isUnder_45 (by decide) (by decide) ?_
              exact ⟨congrArg (fun z => some (Value.int (iI z))) (by unfold bI; split <;> omega), rfl, rfl, rfl⟩
            · refine x_iload_n (pc := 35) hC dX12_isUnder_35 rfl ?_
              refine x_iconst (pc := 36) hC dX12_isUnder_36 ?_
              refine x_icmp_ne (tgt := 44) (pc := 37) hC (by omega) (by omega) dX12_isUnder_37 (by decide) (fun c37 => ?_) (fun c37 => ?_)
              · refine x_iconst (pc := 44) hC dX12_isUnder_44 ?_
                refine x_zreturn hC hZ (by omega) dX12_isUnder_45 (by decide) (by decide) ?_
                exact ⟨congrArg (fun z => some (Value.int (iI z))) (by unfold bI; split <;> omega), rfl, rfl, rfl⟩
              · refine x_iconst (pc := 40) hC dX12_isUnder_40 ?_
                refine x_goto (tgt := 45) (pc := 41) hC dX12_isUnder_41 (by decide) ?_
                refine x_zreturn hC hZ (by omega) dX12_isUnder_45 (by decide) (by decide) ?_
                exact ⟨congrArg (fun z => some (Value.int (iI z))) (by unfold bI; split <;> omega), rfl, rfl, rfl⟩
      · refine x_iload_n (pc := 14) hC dX12_isUnder_14 rfl ?_
        refine x_iconst (pc := 15) hC dX12_isUnder_15 ?_
        refine x_icmp_eq (tgt := 40) (pc := 16) hC (by omega) (by omega) dX12_isUnder_16 (by decide) (fun c16 => ?_) (fun c16 => ?_)
        · refine x_iconst (pc := 40) hC dX12_isUnder_40 ?_
          refine x_goto (tgt := 45) (pc := 41) hC dX12_isUnder_41 (by decide) ?_
          refine x_zreturn hC hZ (by omega) dX12_isUnder_45 (by decide) (by decide) ?_
          exact ⟨congrArg (fun z => some (Value.int (iI z))) (by unfold bI; split <;> omega), rfl, rfl, rfl⟩
        · refine x_iload_n (pc := 19) hC dX12_isUnder_19 rfl ?_
          refine x_iconst (pc := 20) hC dX12_isUnder_20 ?_
          refine x_icmp_ne (tgt := 29) (pc := 21) hC (by omega) (by omega) dX12_isUnder_21 (by decide) (fun c21 => ?_) (fun c21 => ?_)
          · refine x_iload_n (pc := 29) hC dX12_isUnder_29 rfl ?_
            refine x_bipush (pc := 30) hC dX12_isUnder_30 (by decide +kernel) ?_
            refine x_icmp_ne (tgt := 44) (pc := 32) hC (by omega) (by omega) dX12_isUnder_32 (by decide) (fun c32 => ?_) (fun c32 => ?_)
            · refine x_iconst (pc := 44) hC dX12_isUnder_44 ?_
              refine x_zreturn hC hZ (by omega) dX12_isUnder_45 (by decide) (by decide) ?_
              exact ⟨congrArg (fun z => some (Value.int (iI z))) (by unfold bI; split <;> omega), rfl, rfl, rfl⟩
            · refine x_iload_n (pc := 35) hC dX12_isUnder_35 rfl ?_
              refine x_iconst (pc := 36) hC dX12_isUnder_36 ?_
              refine x_icmp_ne (tgt := 44) (pc := 37) hC (by omega) (by omega) dX12_isUnder_37 (by decide) (fun c37 => ?_) (fun c37 => ?_)
              · refine x_iconst (pc := 44) hC dX12_isUnder_44 ?_
                refine x_zreturn hC hZ (by omega) dX12_isUnder_45 (by decide) (by decide) ?_
                exact ⟨congrArg (fun z => some (Value.int (iI z))) (by unfold bI; split <;> omega), rfl, rfl, rfl⟩
              · refine x_iconst (pc := 40) hC dX12_isUnder_40 ?_
                refine x_goto (tgt := 45) (pc := 41) hC dX12_isUnder_41 (by decide) ?_
                refine x_zreturn hC hZ (by omega) dX12_isUnder_45 (by decide) (by decide) ?_
                exact ⟨congrArg (fun z => some (Value.int (iI z))) (by unfold bI; split <;> omega), rfl, rfl, rfl⟩
          · refine x_iload_n (pc := 24) hC dX12_isUnder_24 rfl ?_
            refine x_iconst (pc := 25) hC dX12_isUnder_25 ?_
            refine x_icmp_eq (tgt := 40) (pc := 26) hC (by omega) (by omega) dX12_isUnder_26 (by decide) (fun c26 => ?_) (fun c26 => ?_)
            · refine x_iconst (pc := 40) hC dX12_isUnder_40 ?_
              refine x_goto (tgt := 45) (pc := 41) hC dX12_isUnder_41 (by decide) ?_
              refine x_zreturn hC hZ (by omega) dX12_isUnder_45 (by decide) (by decide) ?_
              exact ⟨congrArg (fun z => some (Value.int (iI z))) (by unfold bI; split <;> omega), rfl, rfl, rfl⟩
            · refine x_iload_n (pc := 29) hC dX12_isUnder_29 rfl ?_
              refine x_bipush (pc := 30) hC dX12_isUnder_30 (by decide +kernel) ?_
              refine x_icmp_ne (tgt := 44) (pc := 32) hC (by omega) (by omega) dX12_isUnder_32 (by decide) (fun c32 => ?_) (fun c32 => ?_)
              · refine x_iconst (pc := 44) hC dX12_isUnder_44 ?_
                refine x_zreturn hC hZ (by omega) dX12_isUnder_45 (by decide) (by decide) ?_
                exact ⟨congrArg (fun z => some (Value.int (iI z))) (by unfold bI; split <;> omega), rfl, rfl, rfl⟩
              · refine x_iload_n (pc := 35) hC dX12_isUnder_35 rfl ?_
                refine x_iconst (pc := 36) hC dX12_isUnder_36 ?_
                refine x_icmp_ne (tgt := 44) (pc := 37) hC (by omega) (by omega) dX12_isUnder_37 (by decide) (fun c37 => ?_) (fun c37 => ?_)
                · refine x_iconst (pc := 44) hC dX12_isUnder_44 ?_
                  refine x_zreturn hC hZ (by omega) dX12_isUnder_45 (by decide) (by decide) ?_
                  exact ⟨congrArg (fun z => some (Value.int (iI z))) (by unfold bI; split <;> omega), rfl, rfl, rfl⟩
                · refine x_iconst (pc := 40) hC dX12_isUnder_40 ?_
                  refine x_goto (tgt := 45) (pc := 41) hC dX12_isUnder_41 (by decide) ?_
                  refine x_zreturn hC hZ (by omega) dX12_isUnder_45 (by decide) (by decide) ?_
                  exact ⟨congrArg (fun z => some (Value.int (iI z))) (by unfold bI; split <;> omega), rfl, rfl, rfl⟩

def asA (z : zS) (f k : Int) : Int := if ¬ ((0 ≤ f ∧ f ≤ z 13 - 1) ∧ 0 ≤ k ∧ k ≤ 6) then -1 else if k = 0 ∨ k = z (22 + f) ∨ (z (22 + f) = 4 ∧ k = 1) ∨ (z (22 + f) = 5 ∧ k = 3) ∨ (z (22 + f) = 6 ∧ k = 2) then z (26 + f) else -6
set_option maxHeartbeats 4000000 in
set_option maxRecDepth 100000 in
theorem s_as (E : xE) {σ : xM} {ρ : xR} {ks : xKs} (hk : MK ks) (hw : MW ρ) {f k : Int} (hf : rg f) (hk0 : rg k) (hfan : FansOk (σ 47)) : Sp E yX12_as kX12_as 3 0 0 [.ref 46, .int (iI f), .int (iI k)] σ ρ ks (Fn (some (.int (iI (asA (σ 47) f k)))) (σ) ρ ks) := by
  obtain ⟨k46, k47, k48, k49, k50, k51, k52, k53, k54⟩ := id hk
  obtain ⟨w1, w2, w3, w10, w11, w14, w15, w16⟩ := id hw
  have hf13 := hfan.1
  refine x_enter (own := RX12) (L := [_, _, _]) (by decide +kernel) rfl (by exact Nat.le_of_ble_eq_true rfl) rfl (fun p e R s m args below meth c Z hZ hC hR hin => ?_)
  refine x_aload_n (pc := 0) hC dX12_as_0 rfl ?_
  refine x_iload_n (pc := 1) hC dX12_as_1 rfl ?_
  refine x_callV1 (As := [_]) (Bs := [_]) (pc := 2) hC (s_isFan E hk hw (by omega) (by omega)) wX12_151_12 pX12_isFan (by assumption) rfl rfl (by exact Nat.le_of_ble_eq_true rfl) hR (by decide) (by decide) (by decide) rfl dX12_as_2 ?_
  refine x_ifB_eq (tgt := 18) (pc := 5) hC  dX12_as_5 (by decide) (fun c5 => ?_) (fun c5 => ?_)
  · refine x_iconst (pc := 18) hC dX12_as_18 ?_
    refine x_ireturn hC hZ dX12_as_19 (by decide) (by decide) ?_
    exact ⟨congrArg (fun z => some (Value.int (iI z))) (by rw [asA, if_pos (by omega)]), rfl, rfl, rfl⟩
  · refine x_iload_n (pc := 8) hC dX12_as_8 rfl ?_
    refine x_iconst (pc := 9) hC dX12_as_9 ?_
    refine x_bipush (pc := 10) hC dX12_as_10 (by decide +kernel) ?_
    refine x_callS1 (As := [_, _, _]) (Bs := [_, _, _]) (pc := 12) hC (s_in E (by omega) (by omega) (by omega)) wX12_41 pX12_in rfl rfl (by exact Nat.le_of_ble_eq_true rfl) hR (by decide) (by decide) (by decide) rfl dX12_as_12 ?_
    refine x_ifB_ne (tgt := 20) (pc := 15) hC  dX12_as_15 (by decide) (fun c15 => ?_) (fun c15 => ?_)
    · obtain ⟨g1, -⟩ := hfan.2 f (by omega) (by omega)
      refine x_aload_n (pc := 20) hC dX12_as_20 rfl ?_
      refine x_getr (K := 1) (pc := 21) hC fX12_9_12 (by assumption) dX12_as_21 rfl rfl (by assumption) ?_
      refine x_bipush (pc := 24) hC dX12_as_24 (by decide +kernel) ?_
      refine x_iload_n (pc := 26) hC dX12_as_26 rfl ?_
      refine x_iadd (pc := 27) hC dX12_as_27 ?_
      refine x_iald (pc := 28) hC (by assumption) (by omega) dX12_as_28 ?_
      refine x_iload_n (pc := 29) hC dX12_as_29 rfl ?_
      refine x_callS1 (As := [_, _]) (Bs := [_, _]) (pc := 30) hC (s_isUnder E (by omega) (by omega)) wX12_252 pX12_isUnder rfl rfl (by exact Nat.le_of_ble_eq_true rfl) hR (by decide) (by decide) (by decide) rfl dX12_as_30 ?_
      refine x_ifB_eq (tgt := 48) (pc := 33) hC  dX12_as_33 (by decide) (fun c33 => ?_) (fun c33 => ?_)
      · refine x_bipush (pc := 48) hC dX12_as_48 (by decide +kernel) ?_
        refine x_ireturn hC hZ dX12_as_50 (by decide) (by decide) ?_
        exact ⟨congrArg (fun z => some (Value.int (iI z))) (by rw [asA, if_neg (by omega), if_neg (by omega)]), rfl, rfl, rfl⟩
      · refine x_aload_n (pc := 36) hC dX12_as_36 rfl ?_
        refine x_getr (K := 1) (pc := 37) hC fX12_9_12 (by assumption) dX12_as_37 rfl rfl (by assumption) ?_
        refine x_bipush (pc := 40) hC dX12_as_40 (by decide +kernel) ?_
        refine x_iload_n (pc := 42) hC dX12_as_42 rfl ?_
        refine x_iadd (pc := 43) hC dX12_as_43 ?_
        refine x_iald (pc := 44) hC (by assumption) (by omega) dX12_as_44 ?_
        refine x_goto (tgt := 50) (pc := 45) hC dX12_as_45 (by decide) ?_
        refine x_ireturn hC hZ dX12_as_50 (by decide) (by decide) ?_
        exact ⟨congrArg (fun z => some (Value.int (iI z))) (by rw [asA, if_neg (by omega), if_pos (by omega)]), rfl, rfl, rfl⟩
    · refine x_iconst (pc := 18) hC dX12_as_18 ?_
      refine x_ireturn hC hZ dX12_as_19 (by decide) (by decide) ?_
      exact ⟨congrArg (fun z => some (Value.int (iI z))) (by rw [asA, if_pos (by omega)]), rfl, rfl, rfl⟩
