/-! the word of a clause -/
def wdF (h : Int) : Int := if h = 104 then 0 else if h = 102 then 1 else if h = 119 then 2 else if h = 99 then 3 else -1
theorem spell_ok {en : Int} {u : Nat} {sp op : Int} {z : zS} : ∀ k : Nat, (spellF en u (sp, 0, op, z) k).2.1 = 0 → spellF en u (sp, 0, op, z) k = (sp + k, 0, op, z)
  | 0, _ => by show (sp, (0 : Int), op, z) = _; rw [show sp + ((0 : Nat) : Int) = sp by omega]
  | k + 1, h => by
    have h1 : (spellF en u (sp, 0, op, z) k).2.1 = 0 := (must_z en (sB u k) _).2 h
    have e := spell_ok k h1
    revert h
    show (mustF en (sB u k) (spellF en u (sp, 0, op, z) k)).2.1 = 0 → mustF en (sB u k) (spellF en u (sp, 0, op, z) k) = _
    rw [e]
    unfold mustF
    split
    · intro _; show (sp + k + 1, (0 : Int), op, z) = _; rw [show sp + (k : Int) + 1 = sp + ((k + 1 : Nat) : Int) by omega]
    · intro h; exact absurd h (show ¬ ((1 : Int) = 0) by decide)
theorem spell_w {en : Int} {u : Nat} {sp op : Int} {z : zS} {k : Nat} (h : spellF en u (sp, 0, op, z) k = (sp + k, 0, op, z)) (hn : ¬ hereF z (sp + k) en = sB u k) : ∀ m : Nat, spellF en u (sp, 0, op, z) (k + 1 + m) = (sp + k, 1, op, z)
  | 0 => by
    show mustF en (sB u k) (spellF en u (sp, 0, op, z) k) = _
    rw [h]
    exact if_neg (fun x => hn x.2)
  | m + 1 => by
    show mustF en _ (spellF en u (sp, 0, op, z) (k + 1 + m)) = _
    rw [spell_w h hn m]
    exact mustF_w (show (1 : Int) ≠ 0 by decide)
set_option maxHeartbeats 4000000 in
set_option maxRecDepth 100000 in
theorem c_wordAhead (E : xE) {σ : xM} {ρ : xR} {ks : xKs} {q : Nat} (hk : RdK ks ρ q) {z : zS} {sp en : Int} (hh : RdH σ q z sp en)  : Sp E yX4_wordAhead kX4_wordAhead 1 0 0 [.ref q] σ ρ ks (Fn (some (.int (iI (wdF (hereF z sp en))))) σ ρ ks) := by
  refine x_enter (own := RX4) (L := [_]) (by decide +kernel) rfl (by exact Nat.le_of_ble_eq_true rfl) rfl (fun p e R s m args below meth c Z hZ hC hR hin => ?_)
  obtain ⟨⟨g0, ⟨g1, g2, g3, g4, g5⟩, s0, s1, s2, s3, s4⟩, g15, s7, hq55⟩ := id hk
  obtain ⟨h10, h8, htp, hen, hsp, htk⟩ := id hh
  have hhr := here_in htk hsp.1 hen.2
  refine x_aload_n (pc := 0) hC dX4_wordAhead_0 rfl ?_
  refine x_callV1 (As := []) (Bs := []) (pc := 1) hC (c_ahead E hk hh) wX4_65_4 pX4_ahead (by assumption) rfl rfl (by exact Nat.le_of_ble_eq_true rfl) hR (by decide) (by decide) (by decide) rfl dX4_wordAhead_1 ?_
  have csw : hereF z sp en = 99 ∨ hereF z sp en = 102 ∨ hereF z sp en = 104 ∨ hereF z sp en = 119 ∨ (hereF z sp en ≠ 99 ∧ hereF z sp en ≠ 102 ∧ hereF z sp en ≠ 104 ∧ hereF z sp en ≠ 119) := by omega
  rcases csw with c4 | c4 | c4 | c4 | c4
  · refine x_look (tgt := 54) (off := 50) (pc := 4) hC (by omega) dX4_wordAhead_4 (by decide) (by rw [c4]; rfl) (by decide) ?_
    refine x_iconst (pc := 54) hC dX4_wordAhead_54 ?_
    refine x_ireturn hC hZ dX4_wordAhead_55 (by decide) (by decide) ?_
    exact ⟨congrArg (fun z => some (Value.int (iI z))) (by unfold wdF; rw [c4]; rfl), rfl, rfl, rfl⟩
  · refine x_look (tgt := 50) (off := 46) (pc := 4) hC (by omega) dX4_wordAhead_4 (by decide) (by rw [c4]; rfl) (by decide) ?_
    refine x_iconst (pc := 50) hC dX4_wordAhead_50 ?_
    refine x_ireturn hC hZ dX4_wordAhead_51 (by decide) (by decide) ?_
    exact ⟨congrArg (fun z => some (Value.int (iI z))) (by unfold wdF; rw [c4]; rfl), rfl, rfl, rfl⟩
  · refine x_look (tgt := 48) (off := 44) (pc := 4) hC (by omega) dX4_wordAhead_4 (by decide) (by rw [c4]; rfl) (by decide) ?_
    refine x_iconst (pc := 48) hC dX4_wordAhead_48 ?_
    refine x_ireturn hC hZ dX4_wordAhead_49 (by decide) (by decide) ?_
    exact ⟨congrArg (fun z => some (Value.int (iI z))) (by unfold wdF; rw [c4]; rfl), rfl, rfl, rfl⟩
  · refine x_look (tgt := 52) (off := 48) (pc := 4) hC (by omega) dX4_wordAhead_4 (by decide) (by rw [c4]; rfl) (by decide) ?_
    refine x_iconst (pc := 52) hC dX4_wordAhead_52 ?_
    refine x_ireturn hC hZ dX4_wordAhead_53 (by decide) (by decide) ?_
    exact ⟨congrArg (fun z => some (Value.int (iI z))) (by unfold wdF; rw [c4]; rfl), rfl, rfl, rfl⟩
  · refine x_look (tgt := 56) (off := 52) (pc := 4) hC (by omega) dX4_wordAhead_4 (by decide) (by simp [Op.lookupswitch.offset]; omega) (by decide) ?_
    refine x_iconst (pc := 56) hC dX4_wordAhead_56 ?_
    refine x_ireturn hC hZ dX4_wordAhead_57 (by decide) (by decide) ?_
    exact ⟨congrArg (fun z => some (Value.int (iI z))) (by unfold wdF; rw [if_neg (by omega), if_neg (by omega), if_neg (by omega), if_neg (by omega)]), rfl, rfl, rfl⟩

set_option maxHeartbeats 4000000 in
set_option maxRecDepth 100000 in
theorem c_readWord (E : xE) {σ : xM} {ρ : xR} {ks : xKs} {q : Nat} (hk : RdK ks ρ q) {g : xM} {D K0 en ac sp op : Int} {z : zS} (hS : RdS σ g q D K0 en ac (sp, 0, op, z)) {u : Nat} (hu : u < 4) : Sp E yX4_readWord kX4_readWord 4 0 0 [.ref q, .int (iI u)] σ ρ ks (fun r σ' ρ' ks' => r = some (.int (iI (bI ((spellF en u (sp, 0, op, z) (sLn u).toNat).2.1 = 0)))) ∧ ρ' = ρ ∧ ks' = ks ∧ RdW σ' g q (spellF en u (sp, 0, op, z) (sLn u).toNat) ∧ ((spellF en u (sp, 0, op, z) (sLn u).toNat).2.1 = 0 → RdS σ' g q D K0 en ac (spellF en u (sp, 0, op, z) (sLn u).toNat))) := by
  refine x_enter (own := RX4) (L := [_, _, _, _]) (by decide +kernel) rfl (by exact Nat.le_of_ble_eq_true rfl) rfl (fun p e R s m args below meth c Z hZ hC hR hin => ?_)
  obtain ⟨⟨g0, ⟨g1, g2, g3, g4, g5⟩, s0, s1, s2, s3, s4⟩, g15, s7, hq55⟩ := id hk
  have hlu := sLn_in (u := u) (by omega)
  have loop : ∀ (i k : Nat) (j : Int) (σ' : xM), j = k → (k : Int) + i = sLn u → spellF en u (sp, 0, op, z) k = (sp + k, 0, op, z) → RdS σ' g q D K0 en ac (sp + k, 0, op, z) → X E p e R s m args below meth c Z 0 0 σ' ρ ks 34 [some (.ref q), some (.int (iI u)), some (.float (UInt32.ofNat u)), some (.int (iI j))] [] := by
    intro i
    induction i with
    | zero =>
      intro k j σ' hj hki hsp hS'
      refine x_iload_n (pc := 34) hC dX4_readWord_34 rfl ?_
      refine x_aloadS_n (pc := 35) hC dX4_readWord_35 rfl ?_
      refine x_callK1 (As := []) (Bs := []) (pc := 36) hC (s_length E (by omega)) wX4_93 pJ0_length_8abf5 (by omega) rfl rfl (by exact Nat.le_of_ble_eq_true rfl) hR (by decide) (by decide) (by decide) rfl dX4_readWord_36 ?_
      refine x_icmp_ge (tgt := 62) (pc := 39) hC (by omega) (by omega) dX4_readWord_39 (by decide) (fun c39 => ?_) (fun c39 => by (exfalso; omega))
      refine x_iconst (pc := 62) hC dX4_readWord_62 ?_
      refine x_zreturn hC hZ (by omega) dX4_readWord_63 (by decide) (by decide) ?_
      have hT : spellF en u (sp, 0, op, z) (sLn u).toNat = (sp + k, 0, op, z) := by rw [show (sLn u).toNat = k by omega]; exact hsp
      rw [hT]
      exact ⟨by rw [bI_t rfl], rfl, rfl, hS'.w, fun _ => hS'⟩
    | succ i ih =>
      intro k j σ' hj hki hsp hS'
      have hh := hS'.2.1
      simp only at hh
      obtain ⟨h10, h8, htp, hen, hsp2, htk⟩ := id hh
      have hhr := here_in htk hsp2.1 hen.2
      have hb := sB_k (u := u) (k := k) (by omega) ⟨by omega, by omega⟩
      refine x_iload_n (pc := 34) hC dX4_readWord_34 rfl ?_
      refine x_aloadS_n (pc := 35) hC dX4_readWord_35 rfl ?_
      refine x_callK1 (As := []) (Bs := []) (pc := 36) hC (s_length E (by omega)) wX4_93 pJ0_length_8abf5 (by omega) rfl rfl (by exact Nat.le_of_ble_eq_true rfl) hR (by decide) (by decide) (by decide) rfl dX4_readWord_36 ?_
      refine x_icmp_ge (tgt := 62) (pc := 39) hC (by omega) (by omega) dX4_readWord_39 (by decide) (fun c39 => by (exfalso; omega)) (fun c39 => ?_)
      refine x_aload_n (pc := 42) hC dX4_readWord_42 rfl ?_
      refine x_aloadS_n (pc := 43) hC dX4_readWord_43 rfl ?_
      refine x_iload_n (pc := 44) hC dX4_readWord_44 rfl ?_
      rw [hj]
      refine x_callK1 (As := [_]) (Bs := [_]) (pc := 45) hC (s_charAt E (u := u) (by omega) (k := (k : Int)) ⟨by omega, by omega⟩) wX4_98 pJ0_charAt_5068e (by omega) rfl rfl (by exact Nat.le_of_ble_eq_true rfl) hR (by decide) (by decide) (by decide) rfl dX4_readWord_45 ?_
      refine x_callV1 (As := [_]) (Bs := [_]) (pc := 48) hC (c_hasTaken E hk hh (a := sB u k) ⟨by omega, by omega⟩) wX4_58_4 pX4_hasTaken (by assumption) rfl rfl (by exact Nat.le_of_ble_eq_true rfl) hR (by decide) (by decide) (by decide) rfl dX4_readWord_48 ?_
      refine x_ifB_ne (tgt := 56) (pc := 51) hC  dX4_readWord_51 (by decide) (fun c51 => ?_) (fun c51 => ?_)
      · refine X.mem (if_pos c51) ?_
        have hlt : sp + k < en := by omega
        refine x_iinc (L' := [_, _, _, _]) (pc := 56) hC dX4_readWord_56 rfl rfl rfl ?_
        refine x_goto (tgt := 34) (pc := 59) hC dX4_readWord_59 (by decide) ?_
        refine ih (k + 1) ((k : Int) + 1) _ (by omega) (by omega) ?_ ?_
        · show mustF en (sB u k) (spellF en u (sp, 0, op, z) k) = _
          rw [hsp, show sp + ((k + 1 : Nat) : Int) = sp + k + 1 by omega]
          exact if_pos ⟨rfl, c51⟩
        · rw [show sp + ((k + 1 : Nat) : Int) = sp + k + 1 by omega]
          exact hS'.adv hq55 (by omega)
      · refine x_iconst (pc := 54) hC dX4_readWord_54 ?_
        refine x_zreturn hC hZ (by omega) dX4_readWord_55 (by decide) (by decide) ?_
        rw [if_neg c51]
        have hT : spellF en u (sp, 0, op, z) (sLn u).toNat = (sp + k, 1, op, z) := by
          obtain ⟨mm, hm⟩ : ∃ mm, (sLn u).toNat = k + 1 + mm := ⟨(sLn u).toNat - (k + 1), by omega⟩
          rw [hm]; exact spell_w hsp c51 mm
        rw [hT]
        exact ⟨by rw [bI_f (show ¬ ((1 : Int) = 0) by decide)], rfl, rfl, hS'.w, fun h => absurd h (show ¬ ((1 : Int) = 0) by decide)⟩
  rcases (show u = 0 ∨ u = 1 ∨ u = 2 ∨ u = 3 by omega) with rfl | rfl | rfl | rfl
  · refine x_iload_n (pc := 0) hC dX4_readWord_0 rfl ?_
    refine x_if_ne (tgt := 9) (pc := 1) hC (by decide) dX4_readWord_1 (by decide) (fun c1 => by (exfalso; omega)) (fun c1 => ?_)
    refine x_ldcS (n := 0) (pc := 4) hC 0 rfl (by decide +kernel) dX4_readWord_4 ?_
    refine x_goto (tgt := 31) (pc := 6) hC dX4_readWord_6 (by decide) ?_
    refine x_astoreS_n (L' := [_, _, _, _]) (pc := 31) hC dX4_readWord_31 rfl rfl ?_
    refine x_iconst (pc := 32) hC dX4_readWord_32 ?_
    refine x_istore_n (L' := [_, _, _, _]) (pc := 33) hC dX4_readWord_33 rfl rfl ?_
    exact loop (sLn 0).toNat 0 0 σ rfl (by decide) (by show (sp, (0 : Int), op, z) = _; rw [show sp + ((0 : Nat) : Int) = sp by omega]) (by rw [show sp + ((0 : Nat) : Int) = sp by omega]; exact hS)
  · refine x_iload_n (pc := 0) hC dX4_readWord_0 rfl ?_
    refine x_if_ne (tgt := 9) (pc := 1) hC (by decide) dX4_readWord_1 (by decide) (fun c1 => ?_) (fun c1 => by (exfalso; omega))
    refine x_iload_n (pc := 9) hC dX4_readWord_9 rfl ?_
    refine x_iconst (pc := 10) hC dX4_readWord_10 ?_
    refine x_icmp_ne (tgt := 19) (pc := 11) hC (by decide) (by decide) dX4_readWord_11 (by decide) (fun c11 => by (exfalso; omega)) (fun c11 => ?_)
    refine x_ldcS (n := 1) (pc := 14) hC 1 rfl (by decide +kernel) dX4_readWord_14 ?_
    refine x_goto (tgt := 31) (pc := 16) hC dX4_readWord_16 (by decide) ?_
    refine x_astoreS_n (L' := [_, _, _, _]) (pc := 31) hC dX4_readWord_31 rfl rfl ?_
    refine x_iconst (pc := 32) hC dX4_readWord_32 ?_
    refine x_istore_n (L' := [_, _, _, _]) (pc := 33) hC dX4_readWord_33 rfl rfl ?_
    exact loop (sLn 1).toNat 0 0 σ rfl (by decide) (by show (sp, (0 : Int), op, z) = _; rw [show sp + ((0 : Nat) : Int) = sp by omega]) (by rw [show sp + ((0 : Nat) : Int) = sp by omega]; exact hS)
  · refine x_iload_n (pc := 0) hC dX4_readWord_0 rfl ?_
    refine x_if_ne (tgt := 9) (pc := 1) hC (by decide) dX4_readWord_1 (by decide) (fun c1 => ?_) (fun c1 => by (exfalso; omega))
    refine x_iload_n (pc := 9) hC dX4_readWord_9 rfl ?_
    refine x_iconst (pc := 10) hC dX4_readWord_10 ?_
    refine x_icmp_ne (tgt := 19) (pc := 11) hC (by decide) (by decide) dX4_readWord_11 (by decide) (fun c11 => ?_) (fun c11 => by (exfalso; omega))
    refine x_iload_n (pc := 19) hC dX4_readWord_19 rfl ?_
    refine x_iconst (pc := 20) hC dX4_readWord_20 ?_
    refine x_icmp_ne (tgt := 29) (pc := 21) hC (by decide) (by decide) dX4_readWord_21 (by decide) (fun c21 => by (exfalso; omega)) (fun c21 => ?_)
    refine x_ldcS (n := 2) (pc := 24) hC 2 rfl (by decide +kernel) dX4_readWord_24 ?_
    refine x_goto (tgt := 31) (pc := 26) hC dX4_readWord_26 (by decide) ?_
    refine x_astoreS_n (L' := [_, _, _, _]) (pc := 31) hC dX4_readWord_31 rfl rfl ?_
    refine x_iconst (pc := 32) hC dX4_readWord_32 ?_
    refine x_istore_n (L' := [_, _, _, _]) (pc := 33) hC dX4_readWord_33 rfl rfl ?_
    exact loop (sLn 2).toNat 0 0 σ rfl (by decide) (by show (sp, (0 : Int), op, z) = _; rw [show sp + ((0 : Nat) : Int) = sp by omega]) (by rw [show sp + ((0 : Nat) : Int) = sp by omega]; exact hS)
  · refine x_iload_n (pc := 0) hC dX4_readWord_0 rfl ?_
    refine x_if_ne (tgt := 9) (pc := 1) hC (by decide) dX4_readWord_1 (by decide) (fun c1 => ?_) (fun c1 => by (exfalso; omega))
    refine x_iload_n (pc := 9) hC dX4_readWord_9 rfl ?_
    refine x_iconst (pc := 10) hC dX4_readWord_10 ?_
    refine x_icmp_ne (tgt := 19) (pc := 11) hC (by decide) (by decide) dX4_readWord_11 (by decide) (fun c11 => ?_) (fun c11 => by (exfalso; omega))
    refine x_iload_n (pc := 19) hC dX4_readWord_19 rfl ?_
    refine x_iconst (pc := 20) hC dX4_readWord_20 ?_
    refine x_icmp_ne (tgt := 29) (pc := 21) hC (by decide) (by decide) dX4_readWord_21 (by decide) (fun c21 => ?_) (fun c21 => by (exfalso; omega))
    refine x_ldcS (n := 3) (pc := 29) hC 3 rfl (by decide +kernel) dX4_readWord_29 ?_
    refine x_astoreS_n (L' := [_, _, _, _]) (pc := 31) hC dX4_readWord_31 rfl rfl ?_
    refine x_iconst (pc := 32) hC dX4_readWord_32 ?_
    refine x_istore_n (L' := [_, _, _, _]) (pc := 33) hC dX4_readWord_33 rfl rfl ?_
    exact loop (sLn 3).toNat 0 0 σ rfl (by decide) (by show (sp, (0 : Int), op, z) = _; rw [show sp + ((0 : Nat) : Int) = sp by omega]) (by rw [show sp + ((0 : Nat) : Int) = sp by omega]; exact hS)
