/-! reading a clause: the walk -/
theorem RdH.oth {σ σ' : xM} {q : Nat} {z : zS} {sp en : Int} (h : RdH σ q z sp en) (h1 : σ' q = σ q) (h2 : σ' 15 = σ 15) : RdH σ' q z sp en := by
  unfold RdH at *; rw [h1, h2]; exact h
theorem emF_2 {ac v : Int} {t : pT} : (emF ac v t).2.1 = t.2.1 := by
  unfold emF; split
  · next h => exact h.symm
  · rfl
set_option maxHeartbeats 4000000 in
set_option maxRecDepth 100000 in
theorem c_readClause (E : xE) {σ : xM} {ρ : xR} {ks : xKs} {q : Nat} (hk : RdK ks ρ q) {en ac sp : Int} {z : zS} {i : Nat} {P : Nat → Nat} (hac : 0 ≤ ac ∧ ac ≤ 4) (he : 0 ≤ en ∧ en ≤ 100) (hi : i < 10) (hC1 : RdC σ q en ac sp z i P) : Sp E yX4_readClause kX4_readClause 19 0 0 [.ref q, .int (iI i)] σ ρ ks (fun r σ' ρ' ks' => r = some (.int (iI (bI ((clauseF en ac (sp, 0, 0, z)).2.1 = 0)))) ∧ ρ' = ρ ∧ ks' = ks ∧ (∀ p, (p < q ∨ q + 5 < p) → σ' p = σ p) ∧ σ' q 10 = (clauseF en ac (sp, 0, 0, z)).1 ∧ ((clauseF en ac (sp, 0, 0, z)).2.1 = 0 → ∃ P', RdC σ' q en ac (clauseF en ac (sp, 0, 0, z)).1 (clauseF en ac (sp, 0, 0, z)).2.2.2 (i + 1) P')) := by
  refine x_enter (own := RX4) (L := [_, _, _]) (by decide +kernel) rfl (by exact Nat.le_of_ble_eq_true rfl) rfl (fun p e R s m args below meth c Z hZ hC hR hin => ?_)
  obtain ⟨⟨g0, ⟨g1, g2, g3, g4, g5⟩, s0, s1, s2', s3, s4⟩, g15, s7, hq55⟩ := id hk
  have hh : RdH σ q z sp en := hC1.1
  obtain ⟨h10, h8, htp, hen, hsp, htk⟩ := id hh
  have hhr := here_in htk hsp.1 hen.2
  obtain ⟨-, ⟨u6, u6a, u6b, u6c⟩, ⟨-, hPi, -⟩, -⟩ := id hC1
  have hS0 : RdS σ σ q (z (228 + ac) - σ q 6) (z (228 + ac)) en ac (sp, 0, 0, z) := RdS.start hh (by omega)
  have hK0 : 0 ≤ z (228 + ac) := by omega
  have hD : 0 ≤ z (228 + ac) - σ q 6 ∧ z (228 + ac) - σ q 6 ≤ z (228 + ac) := by omega
  obtain ⟨j0, j1, j2, j3, j4⟩ := clause_h (en := en) (ac := ac) (sp := sp) (op := 0) (z := z)
  by_cases k104 : hereF z sp en = 104
  · have hwd : wdF (hereF z sp en) = 0 := by
      unfold wdF; rw [if_pos k104]
    refine x_aload_n (pc := 0) hC dX4_readClause_0 rfl ?_
    refine x_callV1 (As := []) (Bs := []) (pc := 1) hC (c_wordAhead E hk hh) wX4_69_4 pX4_wordAhead (by assumption) rfl rfl (by exact Nat.le_of_ble_eq_true rfl) hR (by decide) (by decide) (by decide) rfl dX4_readClause_1 ?_
    rw [hwd]
    refine x_istore_n (L' := [_, _, _]) (pc := 4) hC dX4_readClause_4 rfl rfl ?_
    refine x_iload_n (pc := 5) hC dX4_readClause_5 rfl ?_
    refine x_if_lt (tgt := 24) (pc := 6) hC (by omega) dX4_readClause_6 (by decide) (fun c6 => by (exfalso; omega)) (fun c6 => ?_)
    refine x_aload_n (pc := 9) hC dX4_readClause_9 rfl ?_
    refine x_iload_n (pc := 10) hC dX4_readClause_10 rfl ?_
    refine x_callV (As := [_]) (Bs := [_]) (pc := 11) hC (c_readWord E hk hS0 (u := 0) (by decide)) wX4_72_4 pX4_readWord (by assumption) rfl rfl (by exact Nat.le_of_ble_eq_true rfl) hR (by decide) (by decide) (by decide) rfl dX4_readClause_11 (fun r11 σ11 ρ11 ks11 q11 => ?_)
    obtain ⟨rfl, e11, f11, w11, v11⟩ := q11
    obtain rfl := e11.symm
    obtain rfl := f11.symm
    refine x_ifB_eq (tgt := 24) (pc := 14) hC  dX4_readClause_14 (by decide) (fun c14 => ?_) (fun c14 => ?_)
    · refine x_iconst (pc := 24) hC dX4_readClause_24 ?_
      refine x_zreturn hC hZ (by omega) dX4_readClause_25 (by decide) (by decide) ?_
      rw [j0 k104]
      obtain ⟨tw1, tw2⟩ := tell_w1 (ac := ac) (wh := 218) c14
      exact ⟨by rw [bI_f tw2], rfl, rfl, fun p hp => w11.1 p (by omega) (by omega), by rw [tw1]; exact w11.2, fun h => absurd h tw2⟩
    · obtain ⟨l, hsp1, hl⟩ : ∃ l, spellF en 0 (sp, 0, 0, z) (sLn 0).toNat = (l, 0, 0, z) ∧ sp ≤ l := ⟨_, spell_ok _ c14, by omega⟩
      have hS1 := v11 c14
      rw [hsp1] at hS1
      have hh1 : RdH σ11 q z l en := hS1.2.1
      have hl2 := hh1.2.2.2.2.1
      refine x_aload_n (pc := 17) hC dX4_readClause_17 rfl ?_
      refine x_callV1 (As := []) (Bs := []) (pc := 18) hC (c_readNumber E hk hh1 (op := 0)) wX4_75_4 pX4_readNumber (by assumption) rfl rfl (by exact Nat.le_of_ble_eq_true rfl) hR (by decide) (by decide) (by decide) rfl dX4_readClause_18 ?_
      refine x_ifB_ne (tgt := 26) (pc := 21) hC  dX4_readClause_21 (by decide) (fun c21 => ?_) (fun c21 => ?_)
      · obtain ⟨s2, n, hf, hs2, hs2e, hn0⟩ : ∃ s2 n, figF en (l, 0, 0, z) = ((s2, 0, 0, z), n) ∧ l + 1 ≤ s2 ∧ s2 ≤ en ∧ (0 ≤ n ∧ n ≤ 99) := by
          obtain ⟨e1, e2, e3, e4, e5⟩ := fig_sp c21 htk (by omega) he.2
          exact ⟨_, _, Prod.ext e1 rfl, e2, e3, e4, e5⟩
        refine X.mem (σ' := wr (wr σ11 q 9 n) q 10 s2) (by rw [if_pos c21, hf]) ?_
        have hS2 : RdS (wr (wr σ11 q 9 n) q 10 s2) σ q (z (228 + ac) - σ q 6) (z (228 + ac)) en ac (s2, 0, 0, z) := (hS1.num hq55).adv hq55 (by omega)
        refine x_aload_n (pc := 26) hC dX4_readClause_26 rfl ?_
        refine x_getr (K := 0) (pc := 27) hC fX4_11_4 (by assumption) dX4_readClause_27 rfl rfl (by assumption) ?_
        refine x_iload_n (pc := 30) hC dX4_readClause_30 rfl ?_
        refine x_iload_n (pc := 31) hC dX4_readClause_31 rfl ?_
        refine x_iast (pc := 32) hC (by assumption) (by omega) dX4_readClause_32 ?_
        refine x_aload_n (pc := 33) hC dX4_readClause_33 rfl ?_
        refine x_getr (K := 1) (pc := 34) hC fX4_15_4 (by assumption) dX4_readClause_34 rfl rfl (by assumption) ?_
        refine x_iload_n (pc := 37) hC dX4_readClause_37 rfl ?_
        refine x_aload_n (pc := 38) hC dX4_readClause_38 rfl ?_
        refine x_geti (K := 9) (pc := 39) hC fX4_40_4 (by assumption) dX4_readClause_39 rfl rfl ?_
        simp (disch := omega) only [wr_p, wr_k, wr_eq]
        refine x_iast (pc := 42) hC (by assumption) (by omega) dX4_readClause_42 ?_
        refine x_iload_n (pc := 43) hC dX4_readClause_43 rfl ?_
        refine x_if_ne (tgt := 58) (pc := 44) hC (by omega) dX4_readClause_44 (by decide) (fun c44 => by (exfalso; omega)) (fun c44 => ?_)
        refine x_aload_n (pc := 47) hC dX4_readClause_47 rfl ?_
        refine x_aload_n (pc := 48) hC dX4_readClause_48 rfl ?_
        refine x_geti (K := 9) (pc := 49) hC fX4_40_4 (by assumption) dX4_readClause_49 rfl rfl ?_
        simp (disch := omega) only [wr_p, wr_k, wr_eq]
        refine x_puti (K := 11) (pc := 52) hC rfl fX4_46_4 rfl (by assumption) dX4_readClause_52 rfl ?_
        refine x_goto (tgt := 97) (pc := 55) hC dX4_readClause_55 (by decide) ?_
        refine x_aload_n (pc := 97) hC dX4_readClause_97 rfl ?_
        refine x_getr (K := 4) (pc := 98) hC fX4_24_4 (by assumption) dX4_readClause_98 rfl rfl (by assumption) ?_
        refine x_iload_n (pc := 101) hC dX4_readClause_101 rfl ?_
        refine x_dup2 (pc := 102) hC dX4_readClause_102 rfl rfl ?_
        refine x_iald (pc := 103) hC (by assumption) (by omega) dX4_readClause_103 ?_
        refine x_iconst (pc := 104) hC dX4_readClause_104 ?_
        refine x_iadd (pc := 105) hC dX4_readClause_105 ?_
        refine x_iast (pc := 106) hC (by assumption) (by omega) dX4_readClause_106 ?_
        refine x_aload_n (pc := 107) hC dX4_readClause_107 rfl ?_
        refine x_getr (K := 2) (pc := 108) hC fX4_18_4 (by assumption) dX4_readClause_108 rfl rfl (by assumption) ?_
        refine x_iload_n (pc := 111) hC dX4_readClause_111 rfl ?_
        refine x_aload_n (pc := 112) hC dX4_readClause_112 rfl ?_
        refine x_geti (K := 6) (pc := 113) hC fX4_31_4 (by assumption) dX4_readClause_113 rfl rfl ?_
        refine x_iast (pc := 116) hC (by assumption) (by omega) dX4_readClause_116 ?_
        refine x_iconst (pc := 117) hC dX4_readClause_117 ?_
        refine x_zreturn hC hZ (by omega) dX4_readClause_118 (by decide) (by decide) ?_
        rw [j0 k104]
        rw [clause_tell (ac := ac) (wh := 218) hsp1 hf]
        exact ⟨by rw [bI_t rfl], rfl, rfl, fun p hp => by simp (disch := omega) only [wr_of]; exact w11.1 p (by omega) (by omega), by simp (disch := omega) only [wr_p, wr_k, wr_eq], fun _ => cl_tell0 hq55 hac he hC1 hS2 (by omega) hn0 (by simp (disch := omega) only [wr_p, wr_k, wr_eq])⟩
      · refine x_iconst (pc := 24) hC dX4_readClause_24 ?_
        refine x_zreturn hC hZ (by omega) dX4_readClause_25 (by decide) (by decide) ?_
        rw [j0 k104]
        obtain ⟨tw1, tw2⟩ := tell_w2 (ac := ac) (wh := 218) hsp1 c21
        rw [if_neg c21]
        exact ⟨by rw [bI_f tw2], rfl, rfl, fun p hp => w11.1 p (by omega) (by omega), by rw [tw1]; exact hh1.1, fun h => absurd h tw2⟩
  by_cases k102 : hereF z sp en = 102
  · have hwd : wdF (hereF z sp en) = 1 := by
      unfold wdF; rw [if_neg (by omega), if_pos k102]
    refine x_aload_n (pc := 0) hC dX4_readClause_0 rfl ?_
    refine x_callV1 (As := []) (Bs := []) (pc := 1) hC (c_wordAhead E hk hh) wX4_69_4 pX4_wordAhead (by assumption) rfl rfl (by exact Nat.le_of_ble_eq_true rfl) hR (by decide) (by decide) (by decide) rfl dX4_readClause_1 ?_
    rw [hwd]
    refine x_istore_n (L' := [_, _, _]) (pc := 4) hC dX4_readClause_4 rfl rfl ?_
    refine x_iload_n (pc := 5) hC dX4_readClause_5 rfl ?_
    refine x_if_lt (tgt := 24) (pc := 6) hC (by omega) dX4_readClause_6 (by decide) (fun c6 => by (exfalso; omega)) (fun c6 => ?_)
    refine x_aload_n (pc := 9) hC dX4_readClause_9 rfl ?_
    refine x_iload_n (pc := 10) hC dX4_readClause_10 rfl ?_
    refine x_callV (As := [_]) (Bs := [_]) (pc := 11) hC (c_readWord E hk hS0 (u := 1) (by decide)) wX4_72_4 pX4_readWord (by assumption) rfl rfl (by exact Nat.le_of_ble_eq_true rfl) hR (by decide) (by decide) (by decide) rfl dX4_readClause_11 (fun r11 σ11 ρ11 ks11 q11 => ?_)
    obtain ⟨rfl, e11, f11, w11, v11⟩ := q11
    obtain rfl := e11.symm
    obtain rfl := f11.symm
    refine x_ifB_eq (tgt := 24) (pc := 14) hC  dX4_readClause_14 (by decide) (fun c14 => ?_) (fun c14 => ?_)
    · refine x_iconst (pc := 24) hC dX4_readClause_24 ?_
      refine x_zreturn hC hZ (by omega) dX4_readClause_25 (by decide) (by decide) ?_
      rw [j1 k102]
      obtain ⟨tw1, tw2⟩ := tell_w1 (ac := ac) (wh := 223) c14
      exact ⟨by rw [bI_f tw2], rfl, rfl, fun p hp => w11.1 p (by omega) (by omega), by rw [tw1]; exact w11.2, fun h => absurd h tw2⟩
    · obtain ⟨l, hsp1, hl⟩ : ∃ l, spellF en 1 (sp, 0, 0, z) (sLn 1).toNat = (l, 0, 0, z) ∧ sp ≤ l := ⟨_, spell_ok _ c14, by omega⟩
      have hS1 := v11 c14
      rw [hsp1] at hS1
      have hh1 : RdH σ11 q z l en := hS1.2.1
      have hl2 := hh1.2.2.2.2.1
      refine x_aload_n (pc := 17) hC dX4_readClause_17 rfl ?_
      refine x_callV1 (As := []) (Bs := []) (pc := 18) hC (c_readNumber E hk hh1 (op := 0)) wX4_75_4 pX4_readNumber (by assumption) rfl rfl (by exact Nat.le_of_ble_eq_true rfl) hR (by decide) (by decide) (by decide) rfl dX4_readClause_18 ?_
      refine x_ifB_ne (tgt := 26) (pc := 21) hC  dX4_readClause_21 (by decide) (fun c21 => ?_) (fun c21 => ?_)
      · obtain ⟨s2, n, hf, hs2, hs2e, hn0⟩ : ∃ s2 n, figF en (l, 0, 0, z) = ((s2, 0, 0, z), n) ∧ l + 1 ≤ s2 ∧ s2 ≤ en ∧ (0 ≤ n ∧ n ≤ 99) := by
          obtain ⟨e1, e2, e3, e4, e5⟩ := fig_sp c21 htk (by omega) he.2
          exact ⟨_, _, Prod.ext e1 rfl, e2, e3, e4, e5⟩
        refine X.mem (σ' := wr (wr σ11 q 9 n) q 10 s2) (by rw [if_pos c21, hf]) ?_
        have hS2 : RdS (wr (wr σ11 q 9 n) q 10 s2) σ q (z (228 + ac) - σ q 6) (z (228 + ac)) en ac (s2, 0, 0, z) := (hS1.num hq55).adv hq55 (by omega)
        refine x_aload_n (pc := 26) hC dX4_readClause_26 rfl ?_
        refine x_getr (K := 0) (pc := 27) hC fX4_11_4 (by assumption) dX4_readClause_27 rfl rfl (by assumption) ?_
        refine x_iload_n (pc := 30) hC dX4_readClause_30 rfl ?_
        refine x_iload_n (pc := 31) hC dX4_readClause_31 rfl ?_
        refine x_iast (pc := 32) hC (by assumption) (by omega) dX4_readClause_32 ?_
        refine x_aload_n (pc := 33) hC dX4_readClause_33 rfl ?_
        refine x_getr (K := 1) (pc := 34) hC fX4_15_4 (by assumption) dX4_readClause_34 rfl rfl (by assumption) ?_
        refine x_iload_n (pc := 37) hC dX4_readClause_37 rfl ?_
        refine x_aload_n (pc := 38) hC dX4_readClause_38 rfl ?_
        refine x_geti (K := 9) (pc := 39) hC fX4_40_4 (by assumption) dX4_readClause_39 rfl rfl ?_
        simp (disch := omega) only [wr_p, wr_k, wr_eq]
        refine x_iast (pc := 42) hC (by assumption) (by omega) dX4_readClause_42 ?_
        refine x_iload_n (pc := 43) hC dX4_readClause_43 rfl ?_
        refine x_if_ne (tgt := 58) (pc := 44) hC (by omega) dX4_readClause_44 (by decide) (fun c44 => ?_) (fun c44 => by (exfalso; omega))
        refine x_iload_n (pc := 58) hC dX4_readClause_58 rfl ?_
        refine x_iconst (pc := 59) hC dX4_readClause_59 ?_
        refine x_icmp_ne (tgt := 78) (pc := 60) hC (by omega) (by omega) dX4_readClause_60 (by decide) (fun c60 => by (exfalso; omega)) (fun c60 => ?_)
        refine x_aload_n (pc := 63) hC dX4_readClause_63 rfl ?_
        refine x_iconst (pc := 64) hC dX4_readClause_64 ?_
        refine x_aload_n (pc := 65) hC dX4_readClause_65 rfl ?_
        refine x_geti (K := 9) (pc := 66) hC fX4_40_4 (by assumption) dX4_readClause_66 rfl rfl ?_
        simp (disch := omega) only [wr_p, wr_k, wr_eq]
        refine x_max (pc := 69) hC wX4_79 hR (by decide) (by decide) rfl (by exact Nat.le_of_ble_eq_true rfl) (by omega) (by omega) dX4_readClause_69 ?_
        refine x_puti (K := 12) (pc := 72) hC rfl fX4_49_4 rfl (by assumption) dX4_readClause_72 rfl ?_
        refine x_goto (tgt := 97) (pc := 75) hC dX4_readClause_75 (by decide) ?_
        refine x_aload_n (pc := 97) hC dX4_readClause_97 rfl ?_
        refine x_getr (K := 4) (pc := 98) hC fX4_24_4 (by assumption) dX4_readClause_98 rfl rfl (by assumption) ?_
        refine x_iload_n (pc := 101) hC dX4_readClause_101 rfl ?_
        refine x_dup2 (pc := 102) hC dX4_readClause_102 rfl rfl ?_
        refine x_iald (pc := 103) hC (by assumption) (by omega) dX4_readClause_103 ?_
        refine x_iconst (pc := 104) hC dX4_readClause_104 ?_
        refine x_iadd (pc := 105) hC dX4_readClause_105 ?_
        refine x_iast (pc := 106) hC (by assumption) (by omega) dX4_readClause_106 ?_
        refine x_aload_n (pc := 107) hC dX4_readClause_107 rfl ?_
        refine x_getr (K := 2) (pc := 108) hC fX4_18_4 (by assumption) dX4_readClause_108 rfl rfl (by assumption) ?_
        refine x_iload_n (pc := 111) hC dX4_readClause_111 rfl ?_
        refine x_aload_n (pc := 112) hC dX4_readClause_112 rfl ?_
        refine x_geti (K := 6) (pc := 113) hC fX4_31_4 (by assumption) dX4_readClause_113 rfl rfl ?_
        refine x_iast (pc := 116) hC (by assumption) (by omega) dX4_readClause_116 ?_
        refine x_iconst (pc := 117) hC dX4_readClause_117 ?_
        refine x_zreturn hC hZ (by omega) dX4_readClause_118 (by decide) (by decide) ?_
        rw [j1 k102]
        rw [clause_tell (ac := ac) (wh := 223) hsp1 hf]
        exact ⟨by rw [bI_t rfl], rfl, rfl, fun p hp => by simp (disch := omega) only [wr_of]; exact w11.1 p (by omega) (by omega), by simp (disch := omega) only [wr_p, wr_k, wr_eq], fun _ => cl_tell1 hq55 hac he hC1 hS2 (by omega) hn0 (by simp (disch := omega) only [wr_p, wr_k, wr_eq])⟩
      · refine x_iconst (pc := 24) hC dX4_readClause_24 ?_
        refine x_zreturn hC hZ (by omega) dX4_readClause_25 (by decide) (by decide) ?_
        rw [j1 k102]
        obtain ⟨tw1, tw2⟩ := tell_w2 (ac := ac) (wh := 223) hsp1 c21
        rw [if_neg c21]
        exact ⟨by rw [bI_f tw2], rfl, rfl, fun p hp => w11.1 p (by omega) (by omega), by rw [tw1]; exact hh1.1, fun h => absurd h tw2⟩
  by_cases k119 : hereF z sp en = 119
  · have hwd : wdF (hereF z sp en) = 2 := by
      unfold wdF; rw [if_neg (by omega), if_neg (by omega), if_pos k119]
    refine x_aload_n (pc := 0) hC dX4_readClause_0 rfl ?_
    refine x_callV1 (As := []) (Bs := []) (pc := 1) hC (c_wordAhead E hk hh) wX4_69_4 pX4_wordAhead (by assumption) rfl rfl (by exact Nat.le_of_ble_eq_true rfl) hR (by decide) (by decide) (by decide) rfl dX4_readClause_1 ?_
    rw [hwd]
    refine x_istore_n (L' := [_, _, _]) (pc := 4) hC dX4_readClause_4 rfl rfl ?_
    refine x_iload_n (pc := 5) hC dX4_readClause_5 rfl ?_
    refine x_if_lt (tgt := 24) (pc := 6) hC (by omega) dX4_readClause_6 (by decide) (fun c6 => by (exfalso; omega)) (fun c6 => ?_)
    refine x_aload_n (pc := 9) hC dX4_readClause_9 rfl ?_
    refine x_iload_n (pc := 10) hC dX4_readClause_10 rfl ?_
    refine x_callV (As := [_]) (Bs := [_]) (pc := 11) hC (c_readWord E hk hS0 (u := 2) (by decide)) wX4_72_4 pX4_readWord (by assumption) rfl rfl (by exact Nat.le_of_ble_eq_true rfl) hR (by decide) (by decide) (by decide) rfl dX4_readClause_11 (fun r11 σ11 ρ11 ks11 q11 => ?_)
    obtain ⟨rfl, e11, f11, w11, v11⟩ := q11
    obtain rfl := e11.symm
    obtain rfl := f11.symm
    refine x_ifB_eq (tgt := 24) (pc := 14) hC  dX4_readClause_14 (by decide) (fun c14 => ?_) (fun c14 => ?_)
    · refine x_iconst (pc := 24) hC dX4_readClause_24 ?_
      refine x_zreturn hC hZ (by omega) dX4_readClause_25 (by decide) (by decide) ?_
      rw [j2 k119]
      obtain ⟨tw1, tw2⟩ := much_w1 (ac := ac) (neg := -10) (wh := 233) c14
      exact ⟨by rw [bI_f tw2], rfl, rfl, fun p hp => w11.1 p (by omega) (by omega), by rw [tw1]; exact w11.2, fun h => absurd h tw2⟩
    · obtain ⟨l, hsp1, hl⟩ : ∃ l, spellF en 2 (sp, 0, 0, z) (sLn 2).toNat = (l, 0, 0, z) ∧ sp ≤ l := ⟨_, spell_ok _ c14, by omega⟩
      have hS1 := v11 c14
      rw [hsp1] at hS1
      have hh1 : RdH σ11 q z l en := hS1.2.1
      have hl2 := hh1.2.2.2.2.1
      refine x_aload_n (pc := 17) hC dX4_readClause_17 rfl ?_
      refine x_callV1 (As := []) (Bs := []) (pc := 18) hC (c_readNumber E hk hh1 (op := 0)) wX4_75_4 pX4_readNumber (by assumption) rfl rfl (by exact Nat.le_of_ble_eq_true rfl) hR (by decide) (by decide) (by decide) rfl dX4_readClause_18 ?_
      refine x_ifB_ne (tgt := 26) (pc := 21) hC  dX4_readClause_21 (by decide) (fun c21 => ?_) (fun c21 => ?_)
      · obtain ⟨s2, n, hf, hs2, hs2e, hn0⟩ : ∃ s2 n, figF en (l, 0, 0, z) = ((s2, 0, 0, z), n) ∧ l + 1 ≤ s2 ∧ s2 ≤ en ∧ (0 ≤ n ∧ n ≤ 99) := by
          obtain ⟨e1, e2, e3, e4, e5⟩ := fig_sp c21 htk (by omega) he.2
          exact ⟨_, _, Prod.ext e1 rfl, e2, e3, e4, e5⟩
        refine X.mem (σ' := wr (wr σ11 q 9 n) q 10 s2) (by rw [if_pos c21, hf]) ?_
        have hS2 : RdS (wr (wr σ11 q 9 n) q 10 s2) σ q (z (228 + ac) - σ q 6) (z (228 + ac)) en ac (s2, 0, 0, z) := (hS1.num hq55).adv hq55 (by omega)
        refine x_aload_n (pc := 26) hC dX4_readClause_26 rfl ?_
        refine x_getr (K := 0) (pc := 27) hC fX4_11_4 (by assumption) dX4_readClause_27 rfl rfl (by assumption) ?_
        refine x_iload_n (pc := 30) hC dX4_readClause_30 rfl ?_
        refine x_iload_n (pc := 31) hC dX4_readClause_31 rfl ?_
        refine x_iast (pc := 32) hC (by assumption) (by omega) dX4_readClause_32 ?_
        refine x_aload_n (pc := 33) hC dX4_readClause_33 rfl ?_
        refine x_getr (K := 1) (pc := 34) hC fX4_15_4 (by assumption) dX4_readClause_34 rfl rfl (by assumption) ?_
        refine x_iload_n (pc := 37) hC dX4_readClause_37 rfl ?_
        refine x_aload_n (pc := 38) hC dX4_readClause_38 rfl ?_
        refine x_geti (K := 9) (pc := 39) hC fX4_40_4 (by assumption) dX4_readClause_39 rfl rfl ?_
        simp (disch := omega) only [wr_p, wr_k, wr_eq]
        refine x_iast (pc := 42) hC (by assumption) (by omega) dX4_readClause_42 ?_
        refine x_iload_n (pc := 43) hC dX4_readClause_43 rfl ?_
        refine x_if_ne (tgt := 58) (pc := 44) hC (by omega) dX4_readClause_44 (by decide) (fun c44 => ?_) (fun c44 => by (exfalso; omega))
        refine x_iload_n (pc := 58) hC dX4_readClause_58 rfl ?_
        refine x_iconst (pc := 59) hC dX4_readClause_59 ?_
        refine x_icmp_ne (tgt := 78) (pc := 60) hC (by omega) (by omega) dX4_readClause_60 (by decide) (fun c60 => ?_) (fun c60 => by (exfalso; omega))
        have hh3 : RdH (wr (wr (wr (wr σ11 q 9 n) q 10 s2) (q + 1) i 2) (q + 2) i n) q z s2 en := hS2.2.1.oth (by simp (disch := omega) only [wr_of]) (by simp (disch := omega) only [wr_of])
        have hS3 := RdS.start (D := z (228 + ac) - σ q 6) (ac := ac) (op := 0) hh3 (by simp (disch := omega) only [wr_p]; exact hS2.2.2.1)
        have hhr3 := here_in htk (sp := s2) (by omega) he.2
        refine x_aload_n (pc := 78) hC dX4_readClause_78 rfl ?_
        refine x_bipush (pc := 79) hC dX4_readClause_79 (by decide +kernel) ?_
        refine x_callV1 (As := [_]) (Bs := [_]) (pc := 81) hC (c_hasTaken E hk hh3 (a := 32) ⟨by decide, by decide⟩) wX4_58_4 pX4_hasTaken (by assumption) rfl rfl (by exact Nat.le_of_ble_eq_true rfl) hR (by decide) (by decide) (by decide) rfl dX4_readClause_81 ?_
        refine x_ifB_eq (tgt := 95) (pc := 84) hC  dX4_readClause_84 (by decide) (fun c84 => ?_) (fun c84 => ?_)
        · refine x_iconst (pc := 95) hC dX4_readClause_95 ?_
          refine x_zreturn hC hZ (by omega) dX4_readClause_96 (by decide) (by decide) ?_
          rw [j2 k119]
          have hm : mustF en 32 (s2, 0, 0, z) = (s2, 1, 0, z) := if_neg (fun h => c84 h.2)
          have hw1 : ((s2, 1, 0, z) : pT).2.1 ≠ 0 := (show (1 : Int) ≠ 0 by decide)
          rw [if_neg c84, much_e (ac := ac) (neg := -10) (wh := 233) hsp1 hf, hm, soF_w hw1 (facF_w hw1 6), emF_w hw1]
          exact ⟨by rw [bI_f (show ¬ ((1 : Int) = 0) by decide)], rfl, rfl, fun p hp => by simp (disch := omega) only [wr_of]; exact w11.1 p (by omega) (by omega), by simp (disch := omega) only [wr_p, wr_k, wr_eq], fun h => absurd h (show ¬ ((1 : Int) = 0) by decide)⟩
        · refine X.mem (if_pos c84) ?_
          have hlt : s2 < en := by omega
          have hm : mustF en 32 (s2, 0, 0, z) = (s2 + 1, 0, 0, z) := if_pos ⟨rfl, c84⟩
          have hS4 := hS3.adv hq55 (sp' := s2 + 1) (by omega)
          have hpi4 : PIn en ac (s2 + 1, 0, 0, z) := ⟨(show 0 ≤ s2 + 1 ∧ s2 + 1 ≤ en by omega), Or.inl rfl, (show (0 : Int) ≤ 0 ∧ (0 : Int) ≤ 6 ∧ ((0 : Int) = 0 → (0 : Int) ≤ 5) by decide), (show 0 ≤ z (228 + ac) ∧ z (228 + ac) ≤ s2 + 1 by omega), htk⟩
          refine x_aload_n (pc := 87) hC dX4_readClause_87 rfl ?_
          refine x_iconst (pc := 88) hC dX4_readClause_88 ?_
          refine x_callV (As := [_]) (Bs := [_]) (pc := 89) hC (c_readAny E hk hac hD he (c_readOne E hk hac hD he hK0 6) hS4 hpi4 ⟨hK0, Int.le_refl _⟩ (by decide)) wX4_82_4 pX4_readAny (by assumption) rfl rfl (by exact Nat.le_of_ble_eq_true rfl) hR (by decide) (by decide) (by decide) rfl dX4_readClause_89 (fun r89 σ89 ρ89 ks89 q89 => ?_)
          obtain ⟨rfl, e89, f89, w89, v89⟩ := q89
          obtain rfl := e89.symm
          obtain rfl := f89.symm
          refine x_ifB_ne (tgt := 97) (pc := 92) hC  dX4_readClause_92 (by decide) (fun c92 => ?_) (fun c92 => ?_)
          · refine x_aload_n (pc := 97) hC dX4_readClause_97 rfl ?_
            refine x_getr (K := 4) (pc := 98) hC fX4_24_4 (by assumption) dX4_readClause_98 rfl rfl (by assumption) ?_
            refine x_iload_n (pc := 101) hC dX4_readClause_101 rfl ?_
            refine x_dup2 (pc := 102) hC dX4_readClause_102 rfl rfl ?_
            refine x_iald (pc := 103) hC (by assumption) (by omega) dX4_readClause_103 ?_
            have hc5 : σ89 (q + 5) = σ (q + 5) := by
              rw [w89.1 _ (by omega) (by omega)]; simp (disch := omega) only [wr_of]; exact w11.1 _ (by omega) (by omega)
            rw [hc5]
            refine x_iconst (pc := 104) hC dX4_readClause_104 ?_
            refine x_iadd (pc := 105) hC dX4_readClause_105 ?_
            refine x_iast (pc := 106) hC (by assumption) (by omega) dX4_readClause_106 ?_
            refine x_aload_n (pc := 107) hC dX4_readClause_107 rfl ?_
            refine x_getr (K := 2) (pc := 108) hC fX4_18_4 (by assumption) dX4_readClause_108 rfl rfl (by assumption) ?_
            refine x_iload_n (pc := 111) hC dX4_readClause_111 rfl ?_
            refine x_aload_n (pc := 112) hC dX4_readClause_112 rfl ?_
            refine x_geti (K := 6) (pc := 113) hC fX4_31_4 (by assumption) dX4_readClause_113 rfl rfl ?_
            refine x_iast (pc := 116) hC (by assumption) (by omega) dX4_readClause_116 ?_
            refine x_iconst (pc := 117) hC dX4_readClause_117 ?_
            refine x_zreturn hC hZ (by omega) dX4_readClause_118 (by decide) (by decide) ?_
            rw [j2 k119]
            have hS5 := v89 c92
            have hg5 := soF_go hac he.2 (fac_go hac he.2 6) _ hpi4
            obtain ⟨-, hg5b⟩ := hg5.2.2.2 c92
            simp only at hg5b
            have hE5 : EmG ac 14 (s2, 0, 0, z) (soF en ac (facF en ac 6) (s2 + 1, 0, 0, z)) := ((soF_em hac he.2 (H := 2 * 6) (by decide) (fac_go hac he.2 6) (fun u hu hwu hou => fac_em hac he.2 6 u hu hwu (by rw [hou]; show (5 : Int) - 0 < (6 : Nat); decide)) hpi4 rfl).wide (by decide)).src rfl
            rw [much_e (ac := ac) (neg := -10) (wh := 233) hsp1 hf, hm]
            dsimp only
            rw [emF_1, emF_2]
            exact ⟨by rw [bI_t c92], rfl, rfl, fun p hp => by simp (disch := omega) only [wr_of]; rw [w89.1 p (by omega) (by omega)]; simp (disch := omega) only [wr_of]; exact w11.1 p (by omega) (by omega), by simp (disch := omega) only [wr_p]; exact w89.2, fun _ => cl_much hq55 hac he hC1 hS2 hn0 (by decide) hS5 c92 hE5 hg5.1 (by omega) (by simp (disch := omega) only [wr_p, wr_k, wr_eq])⟩
          · refine x_iconst (pc := 95) hC dX4_readClause_95 ?_
            refine x_zreturn hC hZ (by omega) dX4_readClause_96 (by decide) (by decide) ?_
            rw [j2 k119]
            rw [much_e (ac := ac) (neg := -10) (wh := 233) hsp1 hf, hm]
            dsimp only
            rw [emF_1, emF_2]
            exact ⟨by rw [bI_f c92], rfl, rfl, fun p hp => by rw [w89.1 p (by omega) (by omega)]; simp (disch := omega) only [wr_of]; exact w11.1 p (by omega) (by omega), w89.2, fun h => absurd h c92⟩
      · refine x_iconst (pc := 24) hC dX4_readClause_24 ?_
        refine x_zreturn hC hZ (by omega) dX4_readClause_25 (by decide) (by decide) ?_
        rw [j2 k119]
        obtain ⟨tw1, tw2⟩ := much_w2 (ac := ac) (neg := -10) (wh := 233) hsp1 c21
        rw [if_neg c21]
        exact ⟨by rw [bI_f tw2], rfl, rfl, fun p hp => w11.1 p (by omega) (by omega), by rw [tw1]; exact hh1.1, fun h => absurd h tw2⟩
  by_cases k99 : hereF z sp en = 99
  · have hwd : wdF (hereF z sp en) = 3 := by
      unfold wdF; rw [if_neg (by omega), if_neg (by omega), if_neg (by omega), if_pos k99]
    refine x_aload_n (pc := 0) hC dX4_readClause_0 rfl ?_
    refine x_callV1 (As := []) (Bs := []) (pc := 1) hC (c_wordAhead E hk hh) wX4_69_4 pX4_wordAhead (by assumption) rfl rfl (by exact Nat.le_of_ble_eq_true rfl) hR (by decide) (by decide) (by decide) rfl dX4_readClause_1 ?_
    rw [hwd]
    refine x_istore_n (L' := [_, _, _]) (pc := 4) hC dX4_readClause_4 rfl rfl ?_
    refine x_iload_n (pc := 5) hC dX4_readClause_5 rfl ?_
    refine x_if_lt (tgt := 24) (pc := 6) hC (by omega) dX4_readClause_6 (by decide) (fun c6 => by (exfalso; omega)) (fun c6 => ?_)
    refine x_aload_n (pc := 9) hC dX4_readClause_9 rfl ?_
    refine x_iload_n (pc := 10) hC dX4_readClause_10 rfl ?_
    refine x_callV (As := [_]) (Bs := [_]) (pc := 11) hC (c_readWord E hk hS0 (u := 3) (by decide)) wX4_72_4 pX4_readWord (by assumption) rfl rfl (by exact Nat.le_of_ble_eq_true rfl) hR (by decide) (by decide) (by decide) rfl dX4_readClause_11 (fun r11 σ11 ρ11 ks11 q11 => ?_)
    obtain ⟨rfl, e11, f11, w11, v11⟩ := q11
    obtain rfl := e11.symm
    obtain rfl := f11.symm
    refine x_ifB_eq (tgt := 24) (pc := 14) hC  dX4_readClause_14 (by decide) (fun c14 => ?_) (fun c14 => ?_)
    · refine x_iconst (pc := 24) hC dX4_readClause_24 ?_
      refine x_zreturn hC hZ (by omega) dX4_readClause_25 (by decide) (by decide) ?_
      rw [j3 k99]
      obtain ⟨tw1, tw2⟩ := much_w1 (ac := ac) (neg := -200) (wh := 238) c14
      exact ⟨by rw [bI_f tw2], rfl, rfl, fun p hp => w11.1 p (by omega) (by omega), by rw [tw1]; exact w11.2, fun h => absurd h tw2⟩
    · obtain ⟨l, hsp1, hl⟩ : ∃ l, spellF en 3 (sp, 0, 0, z) (sLn 3).toNat = (l, 0, 0, z) ∧ sp ≤ l := ⟨_, spell_ok _ c14, by omega⟩
      have hS1 := v11 c14
      rw [hsp1] at hS1
      have hh1 : RdH σ11 q z l en := hS1.2.1
      have hl2 := hh1.2.2.2.2.1
      refine x_aload_n (pc := 17) hC dX4_readClause_17 rfl ?_
      refine x_callV1 (As := []) (Bs := []) (pc := 18) hC (c_readNumber E hk hh1 (op := 0)) wX4_75_4 pX4_readNumber (by assumption) rfl rfl (by exact Nat.le_of_ble_eq_true rfl) hR (by decide) (by decide) (by decide) rfl dX4_readClause_18 ?_
      refine x_ifB_ne (tgt := 26) (pc := 21) hC  dX4_readClause_21 (by decide) (fun c21 => ?_) (fun c21 => ?_)
      · obtain ⟨s2, n, hf, hs2, hs2e, hn0⟩ : ∃ s2 n, figF en (l, 0, 0, z) = ((s2, 0, 0, z), n) ∧ l + 1 ≤ s2 ∧ s2 ≤ en ∧ (0 ≤ n ∧ n ≤ 99) := by
          obtain ⟨e1, e2, e3, e4, e5⟩ := fig_sp c21 htk (by omega) he.2
          exact ⟨_, _, Prod.ext e1 rfl, e2, e3, e4, e5⟩
        refine X.mem (σ' := wr (wr σ11 q 9 n) q 10 s2) (by rw [if_pos c21, hf]) ?_
        have hS2 : RdS (wr (wr σ11 q 9 n) q 10 s2) σ q (z (228 + ac) - σ q 6) (z (228 + ac)) en ac (s2, 0, 0, z) := (hS1.num hq55).adv hq55 (by omega)
        refine x_aload_n (pc := 26) hC dX4_readClause_26 rfl ?_
        refine x_getr (K := 0) (pc := 27) hC fX4_11_4 (by assumption) dX4_readClause_27 rfl rfl (by assumption) ?_
        refine x_iload_n (pc := 30) hC dX4_readClause_30 rfl ?_
        refine x_iload_n (pc := 31) hC dX4_readClause_31 rfl ?_
        refine x_iast (pc := 32) hC (by assumption) (by omega) dX4_readClause_32 ?_
        refine x_aload_n (pc := 33) hC dX4_readClause_33 rfl ?_
        refine x_getr (K := 1) (pc := 34) hC fX4_15_4 (by assumption) dX4_readClause_34 rfl rfl (by assumption) ?_
        refine x_iload_n (pc := 37) hC dX4_readClause_37 rfl ?_
        refine x_aload_n (pc := 38) hC dX4_readClause_38 rfl ?_
        refine x_geti (K := 9) (pc := 39) hC fX4_40_4 (by assumption) dX4_readClause_39 rfl rfl ?_
        simp (disch := omega) only [wr_p, wr_k, wr_eq]
        refine x_iast (pc := 42) hC (by assumption) (by omega) dX4_readClause_42 ?_
        refine x_iload_n (pc := 43) hC dX4_readClause_43 rfl ?_
        refine x_if_ne (tgt := 58) (pc := 44) hC (by omega) dX4_readClause_44 (by decide) (fun c44 => ?_) (fun c44 => by (exfalso; omega))
        refine x_iload_n (pc := 58) hC dX4_readClause_58 rfl ?_
        refine x_iconst (pc := 59) hC dX4_readClause_59 ?_
        refine x_icmp_ne (tgt := 78) (pc := 60) hC (by omega) (by omega) dX4_readClause_60 (by decide) (fun c60 => ?_) (fun c60 => by (exfalso; omega))
        have hh3 : RdH (wr (wr (wr (wr σ11 q 9 n) q 10 s2) (q + 1) i 3) (q + 2) i n) q z s2 en := hS2.2.1.oth (by simp (disch := omega) only [wr_of]) (by simp (disch := omega) only [wr_of])
        have hS3 := RdS.start (D := z (228 + ac) - σ q 6) (ac := ac) (op := 0) hh3 (by simp (disch := omega) only [wr_p]; exact hS2.2.2.1)
        have hhr3 := here_in htk (sp := s2) (by omega) he.2
        refine x_aload_n (pc := 78) hC dX4_readClause_78 rfl ?_
        refine x_bipush (pc := 79) hC dX4_readClause_79 (by decide +kernel) ?_
        refine x_callV1 (As := [_]) (Bs := [_]) (pc := 81) hC (c_hasTaken E hk hh3 (a := 32) ⟨by decide, by decide⟩) wX4_58_4 pX4_hasTaken (by assumption) rfl rfl (by exact Nat.le_of_ble_eq_true rfl) hR (by decide) (by decide) (by decide) rfl dX4_readClause_81 ?_
        refine x_ifB_eq (tgt := 95) (pc := 84) hC  dX4_readClause_84 (by decide) (fun c84 => ?_) (fun c84 => ?_)
        · refine x_iconst (pc := 95) hC dX4_readClause_95 ?_
          refine x_zreturn hC hZ (by omega) dX4_readClause_96 (by decide) (by decide) ?_
          rw [j3 k99]
          have hm : mustF en 32 (s2, 0, 0, z) = (s2, 1, 0, z) := if_neg (fun h => c84 h.2)
          have hw1 : ((s2, 1, 0, z) : pT).2.1 ≠ 0 := (show (1 : Int) ≠ 0 by decide)
          rw [if_neg c84, much_e (ac := ac) (neg := -200) (wh := 238) hsp1 hf, hm, soF_w hw1 (facF_w hw1 6), emF_w hw1]
          exact ⟨by rw [bI_f (show ¬ ((1 : Int) = 0) by decide)], rfl, rfl, fun p hp => by simp (disch := omega) only [wr_of]; exact w11.1 p (by omega) (by omega), by simp (disch := omega) only [wr_p, wr_k, wr_eq], fun h => absurd h (show ¬ ((1 : Int) = 0) by decide)⟩
        · refine X.mem (if_pos c84) ?_
          have hlt : s2 < en := by omega
          have hm : mustF en 32 (s2, 0, 0, z) = (s2 + 1, 0, 0, z) := if_pos ⟨rfl, c84⟩
          have hS4 := hS3.adv hq55 (sp' := s2 + 1) (by omega)
          have hpi4 : PIn en ac (s2 + 1, 0, 0, z) := ⟨(show 0 ≤ s2 + 1 ∧ s2 + 1 ≤ en by omega), Or.inl rfl, (show (0 : Int) ≤ 0 ∧ (0 : Int) ≤ 6 ∧ ((0 : Int) = 0 → (0 : Int) ≤ 5) by decide), (show 0 ≤ z (228 + ac) ∧ z (228 + ac) ≤ s2 + 1 by omega), htk⟩
          refine x_aload_n (pc := 87) hC dX4_readClause_87 rfl ?_
          refine x_iconst (pc := 88) hC dX4_readClause_88 ?_
          refine x_callV (As := [_]) (Bs := [_]) (pc := 89) hC (c_readAny E hk hac hD he (c_readOne E hk hac hD he hK0 6) hS4 hpi4 ⟨hK0, Int.le_refl _⟩ (by decide)) wX4_82_4 pX4_readAny (by assumption) rfl rfl (by exact Nat.le_of_ble_eq_true rfl) hR (by decide) (by decide) (by decide) rfl dX4_readClause_89 (fun r89 σ89 ρ89 ks89 q89 => ?_)
          obtain ⟨rfl, e89, f89, w89, v89⟩ := q89
          obtain rfl := e89.symm
          obtain rfl := f89.symm
          refine x_ifB_ne (tgt := 97) (pc := 92) hC  dX4_readClause_92 (by decide) (fun c92 => ?_) (fun c92 => ?_)
          · refine x_aload_n (pc := 97) hC dX4_readClause_97 rfl ?_
            refine x_getr (K := 4) (pc := 98) hC fX4_24_4 (by assumption) dX4_readClause_98 rfl rfl (by assumption) ?_
            refine x_iload_n (pc := 101) hC dX4_readClause_101 rfl ?_
            refine x_dup2 (pc := 102) hC dX4_readClause_102 rfl rfl ?_
            refine x_iald (pc := 103) hC (by assumption) (by omega) dX4_readClause_103 ?_
            have hc5 : σ89 (q + 5) = σ (q + 5) := by
              rw [w89.1 _ (by omega) (by omega)]; simp (disch := omega) only [wr_of]; exact w11.1 _ (by omega) (by omega)
            rw [hc5]
            refine x_iconst (pc := 104) hC dX4_readClause_104 ?_
            refine x_iadd (pc := 105) hC dX4_readClause_105 ?_
            refine x_iast (pc := 106) hC (by assumption) (by omega) dX4_readClause_106 ?_
            refine x_aload_n (pc := 107) hC dX4_readClause_107 rfl ?_
            refine x_getr (K := 2) (pc := 108) hC fX4_18_4 (by assumption) dX4_readClause_108 rfl rfl (by assumption) ?_
            refine x_iload_n (pc := 111) hC dX4_readClause_111 rfl ?_
            refine x_aload_n (pc := 112) hC dX4_readClause_112 rfl ?_
            refine x_geti (K := 6) (pc := 113) hC fX4_31_4 (by assumption) dX4_readClause_113 rfl rfl ?_
            refine x_iast (pc := 116) hC (by assumption) (by omega) dX4_readClause_116 ?_
            refine x_iconst (pc := 117) hC dX4_readClause_117 ?_
            refine x_zreturn hC hZ (by omega) dX4_readClause_118 (by decide) (by decide) ?_
            rw [j3 k99]
            have hS5 := v89 c92
            have hg5 := soF_go hac he.2 (fac_go hac he.2 6) _ hpi4
            obtain ⟨-, hg5b⟩ := hg5.2.2.2 c92
            simp only at hg5b
            have hE5 : EmG ac 14 (s2, 0, 0, z) (soF en ac (facF en ac 6) (s2 + 1, 0, 0, z)) := ((soF_em hac he.2 (H := 2 * 6) (by decide) (fac_go hac he.2 6) (fun u hu hwu hou => fac_em hac he.2 6 u hu hwu (by rw [hou]; show (5 : Int) - 0 < (6 : Nat); decide)) hpi4 rfl).wide (by decide)).src rfl
            rw [much_e (ac := ac) (neg := -200) (wh := 238) hsp1 hf, hm]
            dsimp only
            rw [emF_1, emF_2]
            exact ⟨by rw [bI_t c92], rfl, rfl, fun p hp => by simp (disch := omega) only [wr_of]; rw [w89.1 p (by omega) (by omega)]; simp (disch := omega) only [wr_of]; exact w11.1 p (by omega) (by omega), by simp (disch := omega) only [wr_p]; exact w89.2, fun _ => cl_much hq55 hac he hC1 hS2 hn0 (by decide) hS5 c92 hE5 hg5.1 (by omega) (by simp (disch := omega) only [wr_p, wr_k, wr_eq])⟩
          · refine x_iconst (pc := 95) hC dX4_readClause_95 ?_
            refine x_zreturn hC hZ (by omega) dX4_readClause_96 (by decide) (by decide) ?_
            rw [j3 k99]
            rw [much_e (ac := ac) (neg := -200) (wh := 238) hsp1 hf, hm]
            dsimp only
            rw [emF_1, emF_2]
            exact ⟨by rw [bI_f c92], rfl, rfl, fun p hp => by rw [w89.1 p (by omega) (by omega)]; simp (disch := omega) only [wr_of]; exact w11.1 p (by omega) (by omega), w89.2, fun h => absurd h c92⟩
      · refine x_iconst (pc := 24) hC dX4_readClause_24 ?_
        refine x_zreturn hC hZ (by omega) dX4_readClause_25 (by decide) (by decide) ?_
        rw [j3 k99]
        obtain ⟨tw1, tw2⟩ := much_w2 (ac := ac) (neg := -200) (wh := 238) hsp1 c21
        rw [if_neg c21]
        exact ⟨by rw [bI_f tw2], rfl, rfl, fun p hp => w11.1 p (by omega) (by omega), by rw [tw1]; exact hh1.1, fun h => absurd h tw2⟩
  have hwd : wdF (hereF z sp en) = -1 := by
    unfold wdF; rw [if_neg k104, if_neg k102, if_neg k119, if_neg k99]
  refine x_aload_n (pc := 0) hC dX4_readClause_0 rfl ?_
  refine x_callV1 (As := []) (Bs := []) (pc := 1) hC (c_wordAhead E hk hh) wX4_69_4 pX4_wordAhead (by assumption) rfl rfl (by exact Nat.le_of_ble_eq_true rfl) hR (by decide) (by decide) (by decide) rfl dX4_readClause_1 ?_
  rw [hwd]
  refine x_istore_n (L' := [_, _, _]) (pc := 4) hC dX4_readClause_4 rfl rfl ?_
  refine x_iload_n (pc := 5) hC dX4_readClause_5 rfl ?_
  refine x_if_lt (tgt := 24) (pc := 6) hC (by omega) dX4_readClause_6 (by decide) (fun c6 => ?_) (fun c6 => by (exfalso; omega))
  refine x_iconst (pc := 24) hC dX4_readClause_24 ?_
  refine x_zreturn hC hZ (by omega) dX4_readClause_25 (by decide) (by decide) ?_
  rw [j4 k104 k102 k119 k99]
  exact ⟨by rw [bI_f (show ¬ ((1 : Int) = 0) by decide)], rfl, rfl, fun _ _ => rfl, h10, fun h => absurd h (show ¬ ((1 : Int) = 0) by decide)⟩
