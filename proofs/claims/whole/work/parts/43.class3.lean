theorem far_in {a p : Int} (ha : 0 ≤ a) (ha2 : a ≤ 9) (hp : 1 ≤ p) (hp2 : p ≤ 4) : 0 ≤ a * p ∧ a * p ≤ 36 ∧ (a * p ≤ 0 → a = 0) ∧ (a - 1) * p = a * p - p ∧ (1 ≤ a → p ≤ a * p) := by
  rcases (show p = 1 ∨ p = 2 ∨ p = 3 ∨ p = 4 by omega) with h | h | h | h <;> subst h <;> omega
theorem div_back {r v p : Int} (hp : 1 ≤ p) : (r - v) / p = (r - (p + v)) / p + 1 := by
  have := Int.add_mul_ediv_right (r - (p + v)) 1 (show p ≠ 0 by omega)
  rw [← this]; congr 1; omega
theorem swing_val {z : zS} {f t : Int} (hfo : FanOk z f) (ht : 0 ≤ t) (hf : ¬ (z (34 + f) - z (30 + f)) * z (38 + f) ≤ 0) :
    swingF z f t = if t / ((z (34 + f) - z (30 + f)) * z (38 + f) + z (26 + f)) % 2 = 0 then z (30 + f) + (if t % ((z (34 + f) - z (30 + f)) * z (38 + f) + z (26 + f)) < z (26 + f) then 0 else (t % ((z (34 + f) - z (30 + f)) * z (38 + f) + z (26 + f)) - z (26 + f)) / z (38 + f))
      else z (34 + f) - (if t % ((z (34 + f) - z (30 + f)) * z (38 + f) + z (26 + f)) < z (26 + f) then 0 else (t % ((z (34 + f) - z (30 + f)) * z (38 + f) + z (26 + f)) - z (26 + f)) / z (38 + f)) := by
  obtain ⟨-, b2, b3, b4, -, -⟩ := hfo
  obtain ⟨h1, h2, h3, h4, h5⟩ := far_in (a := z (34 + f) - z (30 + f)) (p := z (38 + f)) (by omega) (by omega) b4.1 b4.2
  unfold swingF
  dsimp only
  have e2 : 2 * (z (34 + f) - z (30 + f) - 1) * z (38 + f) = 2 * ((z (34 + f) - z (30 + f) - 1) * z (38 + f)) := Int.mul_assoc _ _ _
  rw [e2, h4]
  generalize hW : (z (34 + f) - z (30 + f)) * z (38 + f) = W at *
  have hfar : ¬ z (34 + f) - z (30 + f) = 0 := fun h => by rw [h, Int.zero_mul] at hW; omega
  rw [if_neg hfar]
  have h6 := h5 (by omega)
  generalize z (38 + f) = p at *
  generalize z (26 + f) = v at *
  have eH : 2 * (p + v) + 2 * (W - p) = 2 * (W + v) := by omega
  rw [eH, swing_eq ht (show 0 < W + v by omega)]
  have hr := emod_in (t := t) (d := W + v) (by omega)
  have hk := emod_in (t := t / (W + v)) (d := 2) (by decide)
  generalize t % (W + v) = r at *
  generalize t / (W + v) % 2 = k at *
  have hdb := div_back (r := r) (v := v) (p := p) b4.1
  rcases (show k = 0 ∨ k = 1 by omega) with e | e
  · subst e
    rw [if_pos rfl, Int.mul_zero, Int.add_zero]
    by_cases c1 : r < p + v
    · rw [if_pos c1]
      by_cases c2 : r < v
      · rw [if_pos c2]; omega
      · rw [if_neg c2, Int.ediv_eq_zero_of_lt (by omega) (by omega)]; omega
    · rw [if_neg c1, if_pos (by omega), if_neg (by omega), hdb]; omega
  · subst e
    rw [Int.mul_one, if_neg (show ¬ r + (W + v) < p + v by omega), if_neg (show ¬ r + (W + v) - (p + v) < W - p by omega), if_neg (show ¬ (1 : Int) = 0 by decide)]
    rw [show r + (W + v) - (p + v) - (W - p) = r by omega]
    by_cases c1 : r < p + v
    · rw [if_pos c1]
      by_cases c2 : r < v
      · rw [if_pos c2]; omega
      · rw [if_neg c2, Int.ediv_eq_zero_of_lt (by omega) (by omega)]; omega
    · rw [if_neg c1, if_neg (by omega), hdb]; omega
set_option maxHeartbeats 4000000 in
set_option maxRecDepth 100000 in
theorem c_spot6 (E : xE) {σ : xM} {ρ : xR} {ks : xKs} {q : Nat} {f : Int} {z : zS} (hfz : FZ σ q f z) (hfo : FanOk z f) (hff : 0 ≤ f ∧ f < 4) (hq : ks[q]? = some (0, 6)) (hkd : z (22 + f) = 1) {r b : Nat} (hsk : SK ks ρ r b) (hsz : SZ σ r b z) (hsit : SitOk z) {t : Int} (ht : 0 ≤ t ∧ t < 1000000) : Sp E yX6_spot kX6_spot 1 0 0 [.ref q, .int (iI t), .ref r] σ ρ ks (Fn (some (.int (iI (isAtF z f t)))) σ ρ ks) := by
  refine x_enter (own := RX6) (L := [_, _, _, _, _, _, _]) (by decide +kernel) rfl (by exact Nat.le_of_ble_eq_true rfl) rfl (fun p e R s m args below meth c Z hZ hC hR hin => ?_)
  obtain ⟨a0, a1, a2, a3, a4, a5, a6⟩ := id hfz
  obtain ⟨b1, b2, b3, b4, b5, b6⟩ := id hfo
  obtain ⟨h1, h2, h3, h4, h5⟩ := far_in (a := z (34 + f) - z (30 + f)) (p := z (38 + f)) (by omega) (by omega) b4.1 b4.2
  have hval : isAtF z f t = swingF z f t := by unfold isAtF; rw [if_pos (by omega)]
  refine x_aload_n (pc := 0) hC dX6_spot_0 rfl ?_
  refine x_geti (K := 4) (pc := 1) hC fX6_11_6 (by assumption) dX6_spot_1 rfl rfl ?_
  refine x_aload_n (pc := 4) hC dX6_spot_4 rfl ?_
  refine x_geti (K := 3) (pc := 5) hC fX6_17_6 (by assumption) dX6_spot_5 rfl rfl ?_
  refine x_isub (pc := 8) hC dX6_spot_8 ?_
  refine x_aload_n (pc := 9) hC dX6_spot_9 rfl ?_
  refine x_geti (K := 5) (pc := 10) hC fX6_20_6 (by assumption) dX6_spot_10 rfl rfl ?_
  refine x_imul (pc := 13) hC dX6_spot_13 ?_
  rw [a4, a3, a5]
  refine x_istore_n (L' := [_, _, _, _, _, _, _]) (pc := 14) hC dX6_spot_14 rfl rfl ?_
  refine x_iload_n (pc := 15) hC dX6_spot_15 rfl ?_
  refine x_aload_n (pc := 16) hC dX6_spot_16 rfl ?_
  refine x_geti (K := 2) (pc := 17) hC fX6_23_6 (by assumption) dX6_spot_17 rfl rfl ?_
  refine x_iadd (pc := 20) hC dX6_spot_20 ?_
  rw [a2]
  refine x_istore (L' := [_, _, _, _, _, _, _]) (pc := 21) hC dX6_spot_21 rfl rfl ?_
  refine x_iload_n (pc := 23) hC dX6_spot_23 rfl ?_
  refine x_if_gt (tgt := 32) (pc := 24) hC (by omega) dX6_spot_24 (by decide) (fun c24 => ?_) (fun c24 => ?_)
  · refine x_iload_n (pc := 32) hC dX6_spot_32 rfl ?_
    refine x_iload (pc := 33) hC dX6_spot_33 rfl ?_
    refine x_irem (pc := 35) hC (by omega) dX6_spot_35 ?_
    have hr := emod_in (t := t) (d := ((z (34 + f) - z (30 + f)) * z (38 + f)) + z (26 + f)) (by omega)
    have hd := tdiv_lt (t := t) (d := ((z (34 + f) - z (30 + f)) * z (38 + f)) + z (26 + f)) (by omega) (by omega)
    refine x_istore (L' := [_, _, _, _, _, _, _]) (pc := 36) hC dX6_spot_36 rfl rfl ?_
    refine x_iload (pc := 38) hC dX6_spot_38 rfl ?_
    refine x_aload_n (pc := 40) hC dX6_spot_40 rfl ?_
    refine x_geti (K := 2) (pc := 41) hC fX6_23_6 (by assumption) dX6_spot_41 rfl rfl ?_
    rw [a2]
    refine x_icmp_ge (tgt := 51) (pc := 44) hC (by omega) (by omega) dX6_spot_44 (by decide) (fun c44 => ?_) (fun c44 => ?_)
    · refine x_aload_n (pc := 51) hC dX6_spot_51 rfl ?_
      refine x_iload (pc := 52) hC dX6_spot_52 rfl ?_
      refine x_aload_n (pc := 54) hC dX6_spot_54 rfl ?_
      refine x_geti (K := 2) (pc := 55) hC fX6_23_6 (by assumption) dX6_spot_55 rfl rfl ?_
      rw [a2]
      refine x_isub (pc := 58) hC dX6_spot_58 ?_
      refine x_callU1 (As := [_]) (Bs := [_]) (pc := 59) hC (c_paces6 E hfz hfo hff hq (by omega)) wX6_26_6 pX6_26_6 (by assumption) rfl rfl (by exact Nat.le_of_ble_eq_true rfl) hR (by decide) (by decide) (by decide) rfl dX6_spot_59 ?_
      refine x_istore (L' := [_, _, _, _, _, _, _]) (pc := 62) hC dX6_spot_62 rfl rfl ?_
      refine x_iload_n (pc := 64) hC dX6_spot_64 rfl ?_
      refine x_iload (pc := 65) hC dX6_spot_65 rfl ?_
      refine x_idiv (pc := 67) hC (by omega) dX6_spot_67 ?_
      refine x_iconst (pc := 68) hC dX6_spot_68 ?_
      refine x_irem (pc := 69) hC (by omega) dX6_spot_69 ?_
      refine x_if_ne (tgt := 83) (pc := 70) hC (by omega) dX6_spot_70 (by decide) (fun c70 => ?_) (fun c70 => ?_)
      · refine x_aload_n (pc := 83) hC dX6_spot_83 rfl ?_
        refine x_geti (K := 4) (pc := 84) hC fX6_11_6 (by assumption) dX6_spot_84 rfl rfl ?_
        refine x_iload (pc := 87) hC dX6_spot_87 rfl ?_
        refine x_isub (pc := 89) hC dX6_spot_89 ?_
        rw [a4]
        refine x_ireturn hC hZ dX6_spot_90 (by decide) (by decide) ?_
        exact ⟨congrArg (fun z => some (Value.int (iI z))) (by rw [hval, swing_val hfo ht.1 (by omega), if_neg (by omega), if_neg (by omega)]), rfl, rfl, rfl⟩
      · refine x_aload_n (pc := 73) hC dX6_spot_73 rfl ?_
        refine x_geti (K := 3) (pc := 74) hC fX6_17_6 (by assumption) dX6_spot_74 rfl rfl ?_
        refine x_iload (pc := 77) hC dX6_spot_77 rfl ?_
        refine x_iadd (pc := 79) hC dX6_spot_79 ?_
        refine x_goto (tgt := 90) (pc := 80) hC dX6_spot_80 (by decide) ?_
        rw [a3]
        refine x_ireturn hC hZ dX6_spot_90 (by decide) (by decide) ?_
        exact ⟨congrArg (fun z => some (Value.int (iI z))) (by rw [hval, swing_val hfo ht.1 (by omega), if_pos (by omega), if_neg (by omega)]), rfl, rfl, rfl⟩
    · refine x_iconst (pc := 47) hC dX6_spot_47 ?_
      refine x_goto (tgt := 62) (pc := 48) hC dX6_spot_48 (by decide) ?_
      refine x_istore (L' := [_, _, _, _, _, _, _]) (pc := 62) hC dX6_spot_62 rfl rfl ?_
      refine x_iload_n (pc := 64) hC dX6_spot_64 rfl ?_
      refine x_iload (pc := 65) hC dX6_spot_65 rfl ?_
      refine x_idiv (pc := 67) hC (by omega) dX6_spot_67 ?_
      refine x_iconst (pc := 68) hC dX6_spot_68 ?_
      refine x_irem (pc := 69) hC (by omega) dX6_spot_69 ?_
      refine x_if_ne (tgt := 83) (pc := 70) hC (by omega) dX6_spot_70 (by decide) (fun c70 => ?_) (fun c70 => ?_)
      · refine x_aload_n (pc := 83) hC dX6_spot_83 rfl ?_
        refine x_geti (K := 4) (pc := 84) hC fX6_11_6 (by assumption) dX6_spot_84 rfl rfl ?_
        refine x_iload (pc := 87) hC dX6_spot_87 rfl ?_
        refine x_isub (pc := 89) hC dX6_spot_89 ?_
        rw [a4]
        refine x_ireturn hC hZ dX6_spot_90 (by decide) (by decide) ?_
        exact ⟨congrArg (fun z => some (Value.int (iI z))) (by rw [hval, swing_val hfo ht.1 (by omega), if_neg (by omega), if_pos (by omega)]), rfl, rfl, rfl⟩
      · refine x_aload_n (pc := 73) hC dX6_spot_73 rfl ?_
        refine x_geti (K := 3) (pc := 74) hC fX6_17_6 (by assumption) dX6_spot_74 rfl rfl ?_
        refine x_iload (pc := 77) hC dX6_spot_77 rfl ?_
        refine x_iadd (pc := 79) hC dX6_spot_79 ?_
        refine x_goto (tgt := 90) (pc := 80) hC dX6_spot_80 (by decide) ?_
        rw [a3]
        refine x_ireturn hC hZ dX6_spot_90 (by decide) (by decide) ?_
        exact ⟨congrArg (fun z => some (Value.int (iI z))) (by rw [hval, swing_val hfo ht.1 (by omega), if_pos (by omega), if_pos (by omega)]), rfl, rfl, rfl⟩
  · refine x_aload_n (pc := 27) hC dX6_spot_27 rfl ?_
    refine x_geti (K := 3) (pc := 28) hC fX6_17_6 (by assumption) dX6_spot_28 rfl rfl ?_
    rw [a3]
    refine x_ireturn hC hZ dX6_spot_31 (by decide) (by decide) ?_
    exact ⟨congrArg (fun z => some (Value.int (iI z))) (by rw [hval]; unfold swingF; dsimp only; rw [if_pos (h3 (by omega))]), rfl, rfl, rfl⟩

set_option maxHeartbeats 4000000 in
set_option maxRecDepth 100000 in
theorem c_spot10 (E : xE) {σ : xM} {ρ : xR} {ks : xKs} {q : Nat} {f : Int} {z : zS} (hfz : FZ σ q f z) (hfo : FanOk z f) (hff : 0 ≤ f ∧ f < 4) (hq : ks[q]? = some (0, 10)) (hkd : z (22 + f) = 4) {r b : Nat} (hsk : SK ks ρ r b) (hsz : SZ σ r b z) (hsit : SitOk z) {t : Int} (ht : 0 ≤ t ∧ t < 1000000) : Sp E yX6_spot kX6_spot 1 0 0 [.ref q, .int (iI t), .ref r] σ ρ ks (Fn (some (.int (iI (isAtF z f t)))) σ ρ ks) := by
  refine x_enter (own := RX6) (L := [_, _, _, _, _, _, _]) (by decide +kernel) rfl (by exact Nat.le_of_ble_eq_true rfl) rfl (fun p e R s m args below meth c Z hZ hC hR hin => ?_)
  obtain ⟨a0, a1, a2, a3, a4, a5, a6⟩ := id hfz
  obtain ⟨b1, b2, b3, b4, b5, b6⟩ := id hfo
  obtain ⟨h1, h2, h3, h4, h5⟩ := far_in (a := z (34 + f) - z (30 + f)) (p := z (38 + f)) (by omega) (by omega) b4.1 b4.2
  have hval : isAtF z f t = swingF z f t := by unfold isAtF; rw [if_pos (by omega)]
  refine x_aload_n (pc := 0) hC dX6_spot_0 rfl ?_
  refine x_geti (K := 4) (pc := 1) hC fX6_11_10 (by assumption) dX6_spot_1 rfl rfl ?_
  refine x_aload_n (pc := 4) hC dX6_spot_4 rfl ?_
  refine x_geti (K := 3) (pc := 5) hC fX6_17_10 (by assumption) dX6_spot_5 rfl rfl ?_
  refine x_isub (pc := 8) hC dX6_spot_8 ?_
  refine x_aload_n (pc := 9) hC dX6_spot_9 rfl ?_
  refine x_geti (K := 5) (pc := 10) hC fX6_20_10 (by assumption) dX6_spot_10 rfl rfl ?_
  refine x_imul (pc := 13) hC dX6_spot_13 ?_
  rw [a4, a3, a5]
  refine x_istore_n (L' := [_, _, _, _, _, _, _]) (pc := 14) hC dX6_spot_14 rfl rfl ?_
  refine x_iload_n (pc := 15) hC dX6_spot_15 rfl ?_
  refine x_aload_n (pc := 16) hC dX6_spot_16 rfl ?_
  refine x_geti (K := 2) (pc := 17) hC fX6_23_10 (by assumption) dX6_spot_17 rfl rfl ?_
  refine x_iadd (pc := 20) hC dX6_spot_20 ?_
  rw [a2]
  refine x_istore (L' := [_, _, _, _, _, _, _]) (pc := 21) hC dX6_spot_21 rfl rfl ?_
  refine x_iload_n (pc := 23) hC dX6_spot_23 rfl ?_
  refine x_if_gt (tgt := 32) (pc := 24) hC (by omega) dX6_spot_24 (by decide) (fun c24 => ?_) (fun c24 => ?_)
  · refine x_iload_n (pc := 32) hC dX6_spot_32 rfl ?_
    refine x_iload (pc := 33) hC dX6_spot_33 rfl ?_
    refine x_irem (pc := 35) hC (by omega) dX6_spot_35 ?_
    have hr := emod_in (t := t) (d := ((z (34 + f) - z (30 + f)) * z (38 + f)) + z (26 + f)) (by omega)
    have hd := tdiv_lt (t := t) (d := ((z (34 + f) - z (30 + f)) * z (38 + f)) + z (26 + f)) (by omega) (by omega)
    refine x_istore (L' := [_, _, _, _, _, _, _]) (pc := 36) hC dX6_spot_36 rfl rfl ?_
    refine x_iload (pc := 38) hC dX6_spot_38 rfl ?_
    refine x_aload_n (pc := 40) hC dX6_spot_40 rfl ?_
    refine x_geti (K := 2) (pc := 41) hC fX6_23_10 (by assumption) dX6_spot_41 rfl rfl ?_
    rw [a2]
    refine x_icmp_ge (tgt := 51) (pc := 44) hC (by omega) (by omega) dX6_spot_44 (by decide) (fun c44 => ?_) (fun c44 => ?_)
    · refine x_aload_n (pc := 51) hC dX6_spot_51 rfl ?_
      refine x_iload (pc := 52) hC dX6_spot_52 rfl ?_
      refine x_aload_n (pc := 54) hC dX6_spot_54 rfl ?_
      refine x_geti (K := 2) (pc := 55) hC fX6_23_10 (by assumption) dX6_spot_55 rfl rfl ?_
      rw [a2]
      refine x_isub (pc := 58) hC dX6_spot_58 ?_
      refine x_callU1 (As := [_]) (Bs := [_]) (pc := 59) hC (c_paces10 E hfz hfo hff hq (by omega)) wX6_26_10 pX6_26_10 (by assumption) rfl rfl (by exact Nat.le_of_ble_eq_true rfl) hR (by decide) (by decide) (by decide) rfl dX6_spot_59 ?_
      refine x_istore (L' := [_, _, _, _, _, _, _]) (pc := 62) hC dX6_spot_62 rfl rfl ?_
      refine x_iload_n (pc := 64) hC dX6_spot_64 rfl ?_
      refine x_iload (pc := 65) hC dX6_spot_65 rfl ?_
      refine x_idiv (pc := 67) hC (by omega) dX6_spot_67 ?_
      refine x_iconst (pc := 68) hC dX6_spot_68 ?_
      refine x_irem (pc := 69) hC (by omega) dX6_spot_69 ?_
      refine x_if_ne (tgt := 83) (pc := 70) hC (by omega) dX6_spot_70 (by decide) (fun c70 => ?_) (fun c70 => ?_)
      · refine x_aload_n (pc := 83) hC dX6_spot_83 rfl ?_
        refine x_geti (K := 4) (pc := 84) hC fX6_11_10 (by assumption) dX6_spot_84 rfl rfl ?_
        refine x_iload (pc := 87) hC dX6_spot_87 rfl ?_
        refine x_isub (pc := 89) hC dX6_spot_89 ?_
        rw [a4]
        refine x_ireturn hC hZ dX6_spot_90 (by decide) (by decide) ?_
        exact ⟨congrArg (fun z => some (Value.int (iI z))) (by rw [hval, swing_val hfo ht.1 (by omega), if_neg (by omega), if_neg (by omega)]), rfl, rfl, rfl⟩
      · refine x_aload_n (pc := 73) hC dX6_spot_73 rfl ?_
        refine x_geti (K := 3) (pc := 74) hC fX6_17_10 (by assumption) dX6_spot_74 rfl rfl ?_
        refine x_iload (pc := 77) hC dX6_spot_77 rfl ?_
        refine x_iadd (pc := 79) hC dX6_spot_79 ?_
        refine x_goto (tgt := 90) (pc := 80) hC dX6_spot_80 (by decide) ?_
        rw [a3]
        refine x_ireturn hC hZ dX6_spot_90 (by decide) (by decide) ?_
        exact ⟨congrArg (fun z => some (Value.int (iI z))) (by rw [hval, swing_val hfo ht.1 (by omega), if_pos (by omega), if_neg (by omega)]), rfl, rfl, rfl⟩
    · refine x_iconst (pc := 47) hC dX6_spot_47 ?_
      refine x_goto (tgt := 62) (pc := 48) hC dX6_spot_48 (by decide) ?_
      refine x_istore (L' := [_, _, _, _, _, _, _]) (pc := 62) hC dX6_spot_62 rfl rfl ?_
      refine x_iload_n (pc := 64) hC dX6_spot_64 rfl ?_
      refine x_iload (pc := 65) hC dX6_spot_65 rfl ?_
      refine x_idiv (pc := 67) hC (by omega) dX6_spot_67 ?_
      refine x_iconst (pc := 68) hC dX6_spot_68 ?_
      refine x_irem (pc := 69) hC (by omega) dX6_spot_69 ?_
      refine x_if_ne (tgt := 83) (pc := 70) hC (by omega) dX6_spot_70 (by decide) (fun c70 => ?_) (fun c70 => ?_)
      · refine x_aload_n (pc := 83) hC dX6_spot_83 rfl ?_
        refine x_geti (K := 4) (pc := 84) hC fX6_11_10 (by assumption) dX6_spot_84 rfl rfl ?_
        refine x_iload (pc := 87) hC dX6_spot_87 rfl ?_
        refine x_isub (pc := 89) hC dX6_spot_89 ?_
        rw [a4]
        refine x_ireturn hC hZ dX6_spot_90 (by decide) (by decide) ?_
        exact ⟨congrArg (fun z => some (Value.int (iI z))) (by rw [hval, swing_val hfo ht.1 (by omega), if_neg (by omega), if_pos (by omega)]), rfl, rfl, rfl⟩
      · refine x_aload_n (pc := 73) hC dX6_spot_73 rfl ?_
        refine x_geti (K := 3) (pc := 74) hC fX6_17_10 (by assumption) dX6_spot_74 rfl rfl ?_
        refine x_iload (pc := 77) hC dX6_spot_77 rfl ?_
        refine x_iadd (pc := 79) hC dX6_spot_79 ?_
        refine x_goto (tgt := 90) (pc := 80) hC dX6_spot_80 (by decide) ?_
        rw [a3]
        refine x_ireturn hC hZ dX6_spot_90 (by decide) (by decide) ?_
        exact ⟨congrArg (fun z => some (Value.int (iI z))) (by rw [hval, swing_val hfo ht.1 (by omega), if_pos (by omega), if_pos (by omega)]), rfl, rfl, rfl⟩
  · refine x_aload_n (pc := 27) hC dX6_spot_27 rfl ?_
    refine x_geti (K := 3) (pc := 28) hC fX6_17_10 (by assumption) dX6_spot_28 rfl rfl ?_
    rw [a3]
    refine x_ireturn hC hZ dX6_spot_31 (by decide) (by decide) ?_
    exact ⟨congrArg (fun z => some (Value.int (iI z))) (by rw [hval]; unfold swingF; dsimp only; rw [if_pos (h3 (by omega))]), rfl, rfl, rfl⟩
