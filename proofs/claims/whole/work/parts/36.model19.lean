set_option maxHeartbeats 4000000 in
set_option maxRecDepth 100000 in
theorem s_every (E : xE) {σ : xM} {ρ : xR} {ks : xKs} (hk : MK ks) (hw : MW ρ) (hac : 0 ≤ σ 46 5 ∧ σ 46 5 ≤ 4) (hen : 0 ≤ σ 46 7 ∧ σ 46 7 ≤ 100) {n : Nat} (HF : ∀ (sp wg op : Int) (z : zS), PIn (σ 46 7) (σ 46 5) (sp, wg, op, z) → (wg = 1 ∨ 5 - op < (n : Int)) → Sp E yX12_factor kX12_factor (5 + 3 * n) 0 0 [.ref 46] (pu σ sp wg op z) ρ ks (Fn none (pu σ (facF (σ 46 7) (σ 46 5) n (sp, wg, op, z)).1 (facF (σ 46 7) (σ 46 5) n (sp, wg, op, z)).2.1 (facF (σ 46 7) (σ 46 5) n (sp, wg, op, z)).2.2.1 (facF (σ 46 7) (σ 46 5) n (sp, wg, op, z)).2.2.2) ρ ks)) (sp wg op : Int) (z : zS) (hpi : PIn (σ 46 7) (σ 46 5) (sp, wg, op, z)) (hn : wg = 1 ∨ 5 - op < (n : Int)) : Sp E yX12_every kX12_every (5 + 3 * n + 1) 0 0 [.ref 46] (pu σ sp wg op z) ρ ks (Fn none (pu σ (evF (σ 46 7) (σ 46 5) 38 (-2) (facF (σ 46 7) (σ 46 5) n) (sp, wg, op, z)).1 (evF (σ 46 7) (σ 46 5) 38 (-2) (facF (σ 46 7) (σ 46 5) n) (sp, wg, op, z)).2.1 (evF (σ 46 7) (σ 46 5) 38 (-2) (facF (σ 46 7) (σ 46 5) n) (sp, wg, op, z)).2.2.1 (evF (σ 46 7) (σ 46 5) 38 (-2) (facF (σ 46 7) (σ 46 5) n) (sp, wg, op, z)).2.2.2) ρ ks) := by
  refine x_enter (own := RX12) (L := [_]) (by decide +kernel) rfl (by exact Nat.le_of_ble_eq_true rfl) rfl (fun p e R s m args below meth c Z hZ hC hR hin => ?_)
  obtain ⟨k46, k47, k48, k49, k50, k51, k52, k53, k54⟩ := id hk
  obtain ⟨w1, w2, w3, w10, w11, w14, w15, w16⟩ := id hw
  have hgo : ∀ t, PIn (σ 46 7) (σ 46 5) t → PGo (σ 46 7) (σ 46 5) t ((facF (σ 46 7) (σ 46 5) n) t) := fac_go hac hen.2 n
  have loop : ∀ (i : Nat) (sp1 wg1 op1 : Int) (z1 : zS), PIn (σ 46 7) (σ 46 5) (sp1, wg1, op1, z1) → (wg1 = 1 ∨ 5 - op1 < (n : Int)) → σ 46 7 - sp1 < (i : Int) → evL (σ 46 7) (σ 46 5) 38 (-2) (facF (σ 46 7) (σ 46 5) n) i (sp1, wg1, op1, z1) = evF (σ 46 7) (σ 46 5) 38 (-2) (facF (σ 46 7) (σ 46 5) n) (sp, wg, op, z) → X E p e R s m args below meth c Z 0 0 (pu σ sp1 wg1 op1 z1) ρ ks 4 [some (.ref 46)] [] := by
    intro i
    induction i with
    | zero =>
      intro sp1 wg1 op1 z1 hpi hn hi he
      have := hpi.1
      simp only at this
      exfalso; omega
    | succ i ih =>
      intro sp1 wg1 op1 z1 hpi hn hi he
      obtain ⟨hsp, hwg, hop, hct, htp⟩ := id hpi
      simp only at hsp hwg hop hct htp
      have hh := here_in (sp := sp1) (en := σ 46 7) htp hsp.1 hen.2
      refine x_aload_n (pc := 4) hC dX12_every_4 rfl ?_
      refine x_geti (K := 8) (pc := 5) hC fX12_51_12 (by assumption) dX12_every_5 rfl rfl ?_
      rw [pu_8]
      refine x_if_ne (tgt := 43) (pc := 8) hC (by omega) dX12_every_8 (by decide) (fun c8 => ?_) (fun c8 => ?_)
      · refine x_return hC hZ dX12_every_43 (by decide) (by decide) ?_
        refine ⟨rfl, ?_, rfl, rfl⟩
        rw [← he, show evL (σ 46 7) (σ 46 5) 38 (-2) (facF (σ 46 7) (σ 46 5) n) (i + 1) (sp1, wg1, op1, z1) = (sp1, wg1, op1, z1) from if_neg (fun h => by have h1 := h.1; have h2 := h.2; simp only at h1 h2; omega)]
      · refine x_aload_n (pc := 11) hC dX12_every_11 rfl ?_
        refine x_callV1 (As := []) (Bs := []) (pc := 12) hC (s_hereP E hk hw hen (by omega)) wX12_55_12 pX12_here (by assumption) rfl rfl (by exact Nat.le_of_ble_eq_true rfl) hR (by omega) (by decide) (by decide) rfl dX12_every_12 ?_
        refine x_bipush (pc := 15) hC dX12_every_15 (by decide +kernel) ?_
        refine x_icmp_ne (tgt := 43) (pc := 17) hC (by omega) (by omega) dX12_every_17 (by decide) (fun c17 => ?_) (fun c17 => ?_)
        · refine x_return hC hZ dX12_every_43 (by decide) (by decide) ?_
          refine ⟨rfl, ?_, rfl, rfl⟩
          rw [← he, show evL (σ 46 7) (σ 46 5) 38 (-2) (facF (σ 46 7) (σ 46 5) n) (i + 1) (sp1, wg1, op1, z1) = (sp1, wg1, op1, z1) from if_neg (fun h => by have h1 := h.1; have h2 := h.2; simp only at h1 h2; omega)]
        · refine x_aload_n (pc := 20) hC dX12_every_20 rfl ?_
          refine x_dup (pc := 21) hC dX12_every_21 rfl ?_
          refine x_geti (K := 6) (pc := 22) hC fX12_45_12 (by assumption) dX12_every_22 rfl rfl ?_
          rw [pu_6]
          refine x_iconst (pc := 25) hC dX12_every_25 ?_
          refine x_iadd (pc := 26) hC dX12_every_26 ?_
          refine x_puti (K := 6) (pc := 27) hC rfl fX12_45_12 rfl (by assumption) dX12_every_27 rfl ?_
          refine X.mem (pu_w6 _ _ _ _ _ _) ?_
          have hA : PIn (σ 46 7) (σ 46 5) (sp1 + 1, wg1, op1, z1) := hpi.adv (show sp1 < σ 46 7 by omega)
          have hg := hgo _ hA
          refine x_aload_n (pc := 30) hC dX12_every_30 rfl ?_
          refine x_callV0 (As := []) (Bs := []) (pc := 31) hC (HF (sp1 + 1) wg1 op1 z1 hA hn) wX12_78_12 pX12_factor (by assumption) rfl rfl (by exact Nat.le_of_ble_eq_true rfl) hR (by omega) (by decide) (by decide) rfl dX12_every_31 ?_
          refine x_aload_n (pc := 34) hC dX12_every_34 rfl ?_
          refine x_bipush (pc := 35) hC dX12_every_35 (by decide +kernel) ?_
          refine x_callV0 (As := [_]) (Bs := [_]) (pc := 37) hC (s_emits E hk hw hac hen (sp := ((facF (σ 46 7) (σ 46 5) n) (sp1 + 1, wg1, op1, z1)).1) (wg := ((facF (σ 46 7) (σ 46 5) n) (sp1 + 1, wg1, op1, z1)).2.1) (op := ((facF (σ 46 7) (σ 46 5) n) (sp1 + 1, wg1, op1, z1)).2.2.1) (z := ((facF (σ 46 7) (σ 46 5) n) (sp1 + 1, wg1, op1, z1)).2.2.2) hg.1) wX12_81_12 pX12_emits (by assumption) rfl rfl (by exact Nat.le_of_ble_eq_true rfl) hR (by omega) (by decide) (by decide) rfl dX12_every_37 ?_
          refine x_goto (tgt := 4) (pc := 40) hC dX12_every_40 (by decide) ?_
          have hnn : n = n := rfl
          have he2 : evL (σ 46 7) (σ 46 5) 38 (-2) (facF (σ 46 7) (σ 46 5) n) i (emF (σ 46 5) (-2) ((facF (σ 46 7) (σ 46 5) n) (sp1 + 1, wg1, op1, z1))) = evF (σ 46 7) (σ 46 5) 38 (-2) (facF (σ 46 7) (σ 46 5) n) (sp, wg, op, z) := by
            rw [← he]
            exact (if_pos ⟨show wg1 = 0 by omega, show hereF z1 sp1 (σ 46 7) = 38 by omega⟩).symm
          have hE : PGo (σ 46 7) (σ 46 5) (sp1, wg1, op1, z1) (emF (σ 46 5) (-2) ((facF (σ 46 7) (σ 46 5) n) (sp1 + 1, wg1, op1, z1))) := em_go hg.1 hac (by have := hg.2.1; simp only at this ⊢; omega) hg.2.2.1 hpi (fun w => by have := hg.2.2.2 w; simp only at this ⊢; omega)
          refine ih (emF (σ 46 5) (-2) ((facF (σ 46 7) (σ 46 5) n) (sp1 + 1, wg1, op1, z1))).1 (emF (σ 46 5) (-2) ((facF (σ 46 7) (σ 46 5) n) (sp1 + 1, wg1, op1, z1))).2.1 (emF (σ 46 5) (-2) ((facF (σ 46 7) (σ 46 5) n) (sp1 + 1, wg1, op1, z1))).2.2.1 (emF (σ 46 5) (-2) ((facF (σ 46 7) (σ 46 5) n) (sp1 + 1, wg1, op1, z1))).2.2.2 hE.1 ?_ ?_ he2
          · have e3 := hE.2.2.1
            have e4 := hg.2.2.1
            simp only at e3 e4
            rcases hn with h | h
            · exfalso; omega
            · right; rw [e3]; exact h
          · have e1 := hg.2.1
            rw [emF_1]
            simp only at e1
            omega
  have hg0 := hgo _ hpi
  refine x_aload_n (pc := 0) hC dX12_every_0 rfl ?_
  refine x_callV0 (As := []) (Bs := []) (pc := 1) hC (HF sp wg op z hpi hn) wX12_78_12 pX12_factor (by assumption) rfl rfl (by exact Nat.le_of_ble_eq_true rfl) hR (by omega) (by decide) (by decide) rfl dX12_every_1 ?_
  refine loop 101 ((facF (σ 46 7) (σ 46 5) n) (sp, wg, op, z)).1 ((facF (σ 46 7) (σ 46 5) n) (sp, wg, op, z)).2.1 ((facF (σ 46 7) (σ 46 5) n) (sp, wg, op, z)).2.2.1 ((facF (σ 46 7) (σ 46 5) n) (sp, wg, op, z)).2.2.2 hg0.1 ?_ (by have := hg0.1.1; omega) rfl
  have e3 := hg0.2.2.1
  simp only at e3
  by_cases w : ((facF (σ 46 7) (σ 46 5) n) (sp, wg, op, z)).2.1 = 1
  · exact Or.inl w
  · right
    have w0 : ((facF (σ 46 7) (σ 46 5) n) (sp, wg, op, z)).2.1 = 0 := by have := hg0.1.2.1; omega
    have w1 := (hg0.2.2.2 w0).1
    simp only at w1
    rw [e3]
    omega

set_option maxHeartbeats 4000000 in
set_option maxRecDepth 100000 in
theorem s_some (E : xE) {σ : xM} {ρ : xR} {ks : xKs} (hk : MK ks) (hw : MW ρ) (hac : 0 ≤ σ 46 5 ∧ σ 46 5 ≤ 4) (hen : 0 ≤ σ 46 7 ∧ σ 46 7 ≤ 100) {n : Nat} (HF : ∀ (sp wg op : Int) (z : zS), PIn (σ 46 7) (σ 46 5) (sp, wg, op, z) → (wg = 1 ∨ 5 - op < (n : Int)) → Sp E yX12_factor kX12_factor (5 + 3 * n) 0 0 [.ref 46] (pu σ sp wg op z) ρ ks (Fn none (pu σ (facF (σ 46 7) (σ 46 5) n (sp, wg, op, z)).1 (facF (σ 46 7) (σ 46 5) n (sp, wg, op, z)).2.1 (facF (σ 46 7) (σ 46 5) n (sp, wg, op, z)).2.2.1 (facF (σ 46 7) (σ 46 5) n (sp, wg, op, z)).2.2.2) ρ ks)) (sp wg op : Int) (z : zS) (hpi : PIn (σ 46 7) (σ 46 5) (sp, wg, op, z)) (hn : wg = 1 ∨ 5 - op < (n : Int)) : Sp E yX12_some kX12_some (5 + 3 * n + 2) 0 0 [.ref 46] (pu σ sp wg op z) ρ ks (Fn none (pu σ (evF (σ 46 7) (σ 46 5) 124 (-3) (evF (σ 46 7) (σ 46 5) 38 (-2) (facF (σ 46 7) (σ 46 5) n)) (sp, wg, op, z)).1 (evF (σ 46 7) (σ 46 5) 124 (-3) (evF (σ 46 7) (σ 46 5) 38 (-2) (facF (σ 46 7) (σ 46 5) n)) (sp, wg, op, z)).2.1 (evF (σ 46 7) (σ 46 5) 124 (-3) (evF (σ 46 7) (σ 46 5) 38 (-2) (facF (σ 46 7) (σ 46 5) n)) (sp, wg, op, z)).2.2.1 (evF (σ 46 7) (σ 46 5) 124 (-3) (evF (σ 46 7) (σ 46 5) 38 (-2) (facF (σ 46 7) (σ 46 5) n)) (sp, wg, op, z)).2.2.2) ρ ks) := by
  refine x_enter (own := RX12) (L := [_]) (by decide +kernel) rfl (by exact Nat.le_of_ble_eq_true rfl) rfl (fun p e R s m args below meth c Z hZ hC hR hin => ?_)
  obtain ⟨k46, k47, k48, k49, k50, k51, k52, k53, k54⟩ := id hk
  obtain ⟨w1, w2, w3, w10, w11, w14, w15, w16⟩ := id hw
  have hgo : ∀ t, PIn (σ 46 7) (σ 46 5) t → PGo (σ 46 7) (σ 46 5) t ((evF (σ 46 7) (σ 46 5) 38 (-2) (facF (σ 46 7) (σ 46 5) n)) t) := fun t h => evF_go hac hen.2 (by decide) (fac_go hac hen.2 n) t h
  have loop : ∀ (i : Nat) (sp1 wg1 op1 : Int) (z1 : zS), PIn (σ 46 7) (σ 46 5) (sp1, wg1, op1, z1) → (wg1 = 1 ∨ 5 - op1 < (n : Int)) → σ 46 7 - sp1 < (i : Int) → evL (σ 46 7) (σ 46 5) 124 (-3) (evF (σ 46 7) (σ 46 5) 38 (-2) (facF (σ 46 7) (σ 46 5) n)) i (sp1, wg1, op1, z1) = evF (σ 46 7) (σ 46 5) 124 (-3) (evF (σ 46 7) (σ 46 5) 38 (-2) (facF (σ 46 7) (σ 46 5) n)) (sp, wg, op, z) → X E p e R s m args below meth c Z 0 0 (pu σ sp1 wg1 op1 z1) ρ ks 4 [some (.ref 46)] [] := by
    intro i
    induction i with
    | zero =>
      intro sp1 wg1 op1 z1 hpi hn hi he
      have := hpi.1
      simp only at this
      exfalso; omega
    | succ i ih =>
      intro sp1 wg1 op1 z1 hpi hn hi he
      obtain ⟨hsp, hwg, hop, hct, htp⟩ := id hpi
      simp only at hsp hwg hop hct htp
      have hh := here_in (sp := sp1) (en := σ 46 7) htp hsp.1 hen.2
      refine x_aload_n (pc := 4) hC dX12_some_4 rfl ?_
      refine x_geti (K := 8) (pc := 5) hC fX12_51_12 (by assumption) dX12_some_5 rfl rfl ?_
      rw [pu_8]
      refine x_if_ne (tgt := 43) (pc := 8) hC (by omega) dX12_some_8 (by decide) (fun c8 => ?_) (fun c8 => ?_)
      · refine x_return hC hZ dX12_some_43 (by decide) (by decide) ?_
        refine ⟨rfl, ?_, rfl, rfl⟩
        rw [← he, show evL (σ 46 7) (σ 46 5) 124 (-3) (evF (σ 46 7) (σ 46 5) 38 (-2) (facF (σ 46 7) (σ 46 5) n)) (i + 1) (sp1, wg1, op1, z1) = (sp1, wg1, op1, z1) from if_neg (fun h => by have h1 := h.1; have h2 := h.2; simp only at h1 h2; omega)]
      · refine x_aload_n (pc := 11) hC dX12_some_11 rfl ?_
        refine x_callV1 (As := []) (Bs := []) (pc := 12) hC (s_hereP E hk hw hen (by omega)) wX12_55_12 pX12_here (by assumption) rfl rfl (by exact Nat.le_of_ble_eq_true rfl) hR (by omega) (by decide) (by decide) rfl dX12_some_12 ?_
        refine x_bipush (pc := 15) hC dX12_some_15 (by decide +kernel) ?_
        refine x_icmp_ne (tgt := 43) (pc := 17) hC (by omega) (by omega) dX12_some_17 (by decide) (fun c17 => ?_) (fun c17 => ?_)
        · refine x_return hC hZ dX12_some_43 (by decide) (by decide) ?_
          refine ⟨rfl, ?_, rfl, rfl⟩
          rw [← he, show evL (σ 46 7) (σ 46 5) 124 (-3) (evF (σ 46 7) (σ 46 5) 38 (-2) (facF (σ 46 7) (σ 46 5) n)) (i + 1) (sp1, wg1, op1, z1) = (sp1, wg1, op1, z1) from if_neg (fun h => by have h1 := h.1; have h2 := h.2; simp only at h1 h2; omega)]
        · refine x_aload_n (pc := 20) hC dX12_some_20 rfl ?_
          refine x_dup (pc := 21) hC dX12_some_21 rfl ?_
          refine x_geti (K := 6) (pc := 22) hC fX12_45_12 (by assumption) dX12_some_22 rfl rfl ?_
          rw [pu_6]
          refine x_iconst (pc := 25) hC dX12_some_25 ?_
          refine x_iadd (pc := 26) hC dX12_some_26 ?_
          refine x_puti (K := 6) (pc := 27) hC rfl fX12_45_12 rfl (by assumption) dX12_some_27 rfl ?_
          refine X.mem (pu_w6 _ _ _ _ _ _) ?_
          have hA : PIn (σ 46 7) (σ 46 5) (sp1 + 1, wg1, op1, z1) := hpi.adv (show sp1 < σ 46 7 by omega)
          have hg := hgo _ hA
          refine x_aload_n (pc := 30) hC dX12_some_30 rfl ?_
          refine x_callV0 (As := []) (Bs := []) (pc := 31) hC (s_every E hk hw hac hen HF (sp1 + 1) wg1 op1 z1 hA hn) wX12_98_12 pX12_every (by assumption) rfl rfl (by exact Nat.le_of_ble_eq_true rfl) hR (by omega) (by decide) (by decide) rfl dX12_some_31 ?_
          refine x_aload_n (pc := 34) hC dX12_some_34 rfl ?_
          refine x_bipush (pc := 35) hC dX12_some_35 (by decide +kernel) ?_
          refine x_callV0 (As := [_]) (Bs := [_]) (pc := 37) hC (s_emits E hk hw hac hen (sp := ((evF (σ 46 7) (σ 46 5) 38 (-2) (facF (σ 46 7) (σ 46 5) n)) (sp1 + 1, wg1, op1, z1)).1) (wg := ((evF (σ 46 7) (σ 46 5) 38 (-2) (facF (σ 46 7) (σ 46 5) n)) (sp1 + 1, wg1, op1, z1)).2.1) (op := ((evF (σ 46 7) (σ 46 5) 38 (-2) (facF (σ 46 7) (σ 46 5) n)) (sp1 + 1, wg1, op1, z1)).2.2.1) (z := ((evF (σ 46 7) (σ 46 5) 38 (-2) (facF (σ 46 7) (σ 46 5) n)) (sp1 + 1, wg1, op1, z1)).2.2.2) hg.1) wX12_81_12 pX12_emits (by assumption) rfl rfl (by exact Nat.le_of_ble_eq_true rfl) hR (by omega) (by decide) (by decide) rfl dX12_some_37 ?_
          refine x_goto (tgt := 4) (pc := 40) hC dX12_some_40 (by decide) ?_
          have hnn : n = n := rfl
          have he2 : evL (σ 46 7) (σ 46 5) 124 (-3) (evF (σ 46 7) (σ 46 5) 38 (-2) (facF (σ 46 7) (σ 46 5) n)) i (emF (σ 46 5) (-3) ((evF (σ 46 7) (σ 46 5) 38 (-2) (facF (σ 46 7) (σ 46 5) n)) (sp1 + 1, wg1, op1, z1))) = evF (σ 46 7) (σ 46 5) 124 (-3) (evF (σ 46 7) (σ 46 5) 38 (-2) (facF (σ 46 7) (σ 46 5) n)) (sp, wg, op, z) := by
            rw [← he]
            exact (if_pos ⟨show wg1 = 0 by omega, show hereF z1 sp1 (σ 46 7) = 124 by omega⟩).symm
          have hE : PGo (σ 46 7) (σ 46 5) (sp1, wg1, op1, z1) (emF (σ 46 5) (-3) ((evF (σ 46 7) (σ 46 5) 38 (-2) (facF (σ 46 7) (σ 46 5) n)) (sp1 + 1, wg1, op1, z1))) := em_go hg.1 hac (by have := hg.2.1; simp only at this ⊢; omega) hg.2.2.1 hpi (fun w => by have := hg.2.2.2 w; simp only at this ⊢; omega)
          refine ih (emF (σ 46 5) (-3) ((evF (σ 46 7) (σ 46 5) 38 (-2) (facF (σ 46 7) (σ 46 5) n)) (sp1 + 1, wg1, op1, z1))).1 (emF (σ 46 5) (-3) ((evF (σ 46 7) (σ 46 5) 38 (-2) (facF (σ 46 7) (σ 46 5) n)) (sp1 + 1, wg1, op1, z1))).2.1 (emF (σ 46 5) (-3) ((evF (σ 46 7) (σ 46 5) 38 (-2) (facF (σ 46 7) (σ 46 5) n)) (sp1 + 1, wg1, op1, z1))).2.2.1 (emF (σ 46 5) (-3) ((evF (σ 46 7) (σ 46 5) 38 (-2) (facF (σ 46 7) (σ 46 5) n)) (sp1 + 1, wg1, op1, z1))).2.2.2 hE.1 ?_ ?_ he2
          · have e3 := hE.2.2.1
            have e4 := hg.2.2.1
            simp only at e3 e4
            rcases hn with h | h
            · exfalso; omega
            · right; rw [e3]; exact h
          · have e1 := hg.2.1
            rw [emF_1]
            simp only at e1
            omega
  have hg0 := hgo _ hpi
  refine x_aload_n (pc := 0) hC dX12_some_0 rfl ?_
  refine x_callV0 (As := []) (Bs := []) (pc := 1) hC (s_every E hk hw hac hen HF sp wg op z hpi hn) wX12_98_12 pX12_every (by assumption) rfl rfl (by exact Nat.le_of_ble_eq_true rfl) hR (by omega) (by decide) (by decide) rfl dX12_some_1 ?_
  refine loop 101 ((evF (σ 46 7) (σ 46 5) 38 (-2) (facF (σ 46 7) (σ 46 5) n)) (sp, wg, op, z)).1 ((evF (σ 46 7) (σ 46 5) 38 (-2) (facF (σ 46 7) (σ 46 5) n)) (sp, wg, op, z)).2.1 ((evF (σ 46 7) (σ 46 5) 38 (-2) (facF (σ 46 7) (σ 46 5) n)) (sp, wg, op, z)).2.2.1 ((evF (σ 46 7) (σ 46 5) 38 (-2) (facF (σ 46 7) (σ 46 5) n)) (sp, wg, op, z)).2.2.2 hg0.1 ?_ (by have := hg0.1.1; omega) rfl
  have e3 := hg0.2.2.1
  simp only at e3
  by_cases w : ((evF (σ 46 7) (σ 46 5) 38 (-2) (facF (σ 46 7) (σ 46 5) n)) (sp, wg, op, z)).2.1 = 1
  · exact Or.inl w
  · right
    have w0 : ((evF (σ 46 7) (σ 46 5) 38 (-2) (facF (σ 46 7) (σ 46 5) n)) (sp, wg, op, z)).2.1 = 0 := by have := hg0.1.2.1; omega
    have w1 := (hg0.2.2.2 w0).1
    simp only at w1
    rw [e3]
    omega

theorem emF_w {ac v : Int} {t : pT} (h : t.2.1 ≠ 0) : emF ac v t = t := if_neg h
theorem facF_s (en ac : Int) (n : Nat) (t : pT) : facF en ac (n + 1) t = if t.2.1 ≠ 0 then t else if hereF t.2.2.2 t.1 en = 33 then bck (emF ac (-1) (facF en ac n (opn t))) else if hereF t.2.2.2 t.1 en = 40 then bck (mustF en 41 (soF en ac (facF en ac n) (opn t))) else testF en ac t := rfl
set_option maxHeartbeats 4000000 in
set_option maxRecDepth 100000 in
theorem s_factor (E : xE) {σ : xM} {ρ : xR} {ks : xKs} (hk : MK ks) (hw : MW ρ) (hac : 0 ≤ σ 46 5 ∧ σ 46 5 ≤ 4) (hen : 0 ≤ σ 46 7 ∧ σ 46 7 ≤ 100) {n : Nat} : ∀ (sp wg op : Int) (z : zS), PIn (σ 46 7) (σ 46 5) (sp, wg, op, z) → (wg = 1 ∨ 5 - op < (n : Int)) → Sp E yX12_factor kX12_factor (5 + 3 * n) 0 0 [.ref 46] (pu σ sp wg op z) ρ ks (Fn none (pu σ (facF (σ 46 7) (σ 46 5) n (sp, wg, op, z)).1 (facF (σ 46 7) (σ 46 5) n (sp, wg, op, z)).2.1 (facF (σ 46 7) (σ 46 5) n (sp, wg, op, z)).2.2.1 (facF (σ 46 7) (σ 46 5) n (sp, wg, op, z)).2.2.2) ρ ks) := by
  obtain ⟨k46, k47, k48, k49, k50, k51, k52, k53, k54⟩ := id hk
  obtain ⟨w1, w2, w3, w10, w11, w14, w15, w16⟩ := id hw
  induction n with
  | zero =>
    intro sp wg op z hpi hn
    obtain ⟨hsp, hwg, hop, hct, htp⟩ := id hpi
    simp only at hsp hwg hop hct htp
    have hw1 : wg = 1 := by
      rcases hn with h | h
      · exact h
      · rcases hwg with h2 | h2
        · have := hop.2.2 h2; exfalso; omega
        · exact h2
    refine x_enter (own := RX12) (L := [_, _, _, _, _]) (by decide +kernel) rfl (by exact Nat.le_of_ble_eq_true rfl) rfl (fun p e R s m args below meth c Z hZ hC hR hin => ?_)
    refine x_aload_n (pc := 0) hC dX12_factor_0 rfl ?_
    refine x_geti (K := 8) (pc := 1) hC fX12_51_12 (by assumption) dX12_factor_1 rfl rfl ?_
    rw [pu_8]
    refine x_if_eq (tgt := 8) (pc := 4) hC (by omega) dX12_factor_4 (by decide) (fun c4 => by (exfalso; omega)) (fun c4 => ?_)
    refine x_return hC hZ dX12_factor_7 (by decide) (by decide) ?_
    refine ⟨rfl, ?_, rfl, rfl⟩
    rw [show facF (σ 46 7) (σ 46 5) 0 (sp, wg, op, z) = (sp, wg, op, z) from rfl]
  | succ n IH =>
    intro sp wg op z hpi hn
    obtain ⟨hsp, hwg, hop, hct, htp⟩ := id hpi
    simp only at hsp hwg hop hct htp
    by_cases hw1 : wg = 1
    · refine x_enter (own := RX12) (L := [_, _, _, _, _]) (by decide +kernel) rfl (by exact Nat.le_of_ble_eq_true rfl) rfl (fun p e R s m args below meth c Z hZ hC hR hin => ?_)
      refine x_aload_n (pc := 0) hC dX12_factor_0 rfl ?_
      refine x_geti (K := 8) (pc := 1) hC fX12_51_12 (by assumption) dX12_factor_1 rfl rfl ?_
      rw [pu_8]
      refine x_if_eq (tgt := 8) (pc := 4) hC (by omega) dX12_factor_4 (by decide) (fun c4 => by (exfalso; omega)) (fun c4 => ?_)
      refine x_return hC hZ dX12_factor_7 (by decide) (by decide) ?_
      refine ⟨rfl, ?_, rfl, rfl⟩
      rw [show facF (σ 46 7) (σ 46 5) (n + 1) (sp, wg, op, z) = (sp, wg, op, z) from if_pos (show wg ≠ 0 by omega)]
    · have hw0 : wg = 0 := by omega
      subst hw0
      have hn2 : 5 - op < ((n + 1 : Nat) : Int) := by
        rcases hn with h | h
        · exact absurd h (by decide)
        · exact h
      have hop5 := hop.2.2 rfl
      have hh := here_in (sp := sp) (en := σ 46 7) htp hsp.1 hen.2
      refine x_enter (own := RX12) (L := [_, _, _, _, _]) (by decide +kernel) rfl (by exact Nat.le_of_ble_eq_true rfl) rfl (fun p e R s m args below meth c Z hZ hC hR hin => ?_)
      refine x_aload_n (pc := 0) hC dX12_factor_0 rfl ?_
      refine x_geti (K := 8) (pc := 1) hC fX12_51_12 (by assumption) dX12_factor_1 rfl rfl ?_
      rw [pu_8]
      refine x_if_eq (tgt := 8) (pc := 4) hC (by omega) dX12_factor_4 (by decide) (fun c4 => ?_) (fun c4 => by (exfalso; omega))
      refine x_aload_n (pc := 8) hC dX12_factor_8 rfl ?_
      refine x_callV1 (As := []) (Bs := []) (pc := 9) hC (s_hereP E hk hw hen (by omega)) wX12_55_12 pX12_here (by assumption) rfl rfl (by exact Nat.le_of_ble_eq_true rfl) hR (by omega) (by decide) (by decide) rfl dX12_factor_9 ?_
      refine x_istore_n (L' := [_, _, _, _, _]) (pc := 12) hC dX12_factor_12 rfl rfl ?_
      refine x_iload_n (pc := 13) hC dX12_factor_13 rfl ?_
      refine x_bipush (pc := 14) hC dX12_factor_14 (by decide +kernel) ?_
      refine x_icmp_eq (tgt := 25) (pc := 16) hC (by omega) (by omega) dX12_factor_16 (by decide) (fun c16 => ?_) (fun c16 => ?_)
      · refine x_aload_n (pc := 25) hC dX12_factor_25 rfl ?_
        refine x_aload_n (pc := 26) hC dX12_factor_26 rfl ?_
        refine x_geti (K := 9) (pc := 27) hC fX12_75_12 (by assumption) dX12_factor_27 rfl rfl ?_
        rw [pu_9]
        refine x_iconst (pc := 30) hC dX12_factor_30 ?_
        refine x_icmp_ne (tgt := 38) (pc := 31) hC (by omega) (by omega) dX12_factor_31 (by decide) (fun c31 => ?_) (fun c31 => ?_)
        · refine x_iconst (pc := 38) hC dX12_factor_38 ?_
          refine x_putz (K := 8) (pc := 39) hC rfl fX12_51_12 rfl (by assumption) dX12_factor_39 rfl (by omega) ?_
          refine X.mem (pu_w8 _ _ _ _ _ _) ?_
          refine x_aload_n (pc := 42) hC dX12_factor_42 rfl ?_
          refine x_dup (pc := 43) hC dX12_factor_43 rfl ?_
          refine x_geti (K := 9) (pc := 44) hC fX12_75_12 (by assumption) dX12_factor_44 rfl rfl ?_
          rw [pu_9]
          refine x_iconst (pc := 47) hC dX12_factor_47 ?_
          refine x_iadd (pc := 48) hC dX12_factor_48 ?_
          refine x_puti (K := 9) (pc := 49) hC rfl fX12_75_12 rfl (by assumption) dX12_factor_49 rfl ?_
          refine X.mem (pu_w9 _ _ _ _ _ _) ?_
          refine x_aload_n (pc := 52) hC dX12_factor_52 rfl ?_
          refine x_dup (pc := 53) hC dX12_factor_53 rfl ?_
          refine x_geti (K := 6) (pc := 54) hC fX12_45_12 (by assumption) dX12_factor_54 rfl rfl ?_
          rw [pu_6]
          refine x_aload_n (pc := 57) hC dX12_factor_57 rfl ?_
          refine x_geti (K := 8) (pc := 58) hC fX12_51_12 (by assumption) dX12_factor_58 rfl rfl ?_
          rw [pu_8]
          refine x_if_eq (tgt := 68) (pc := 61) hC (by omega) dX12_factor_61 (by decide) (fun c61 => ?_) (fun c61 => by (exfalso; omega))
          refine x_iconst (pc := 68) hC dX12_factor_68 ?_
          refine x_iadd (pc := 69) hC dX12_factor_69 ?_
          refine x_puti (K := 6) (pc := 70) hC rfl fX12_45_12 rfl (by assumption) dX12_factor_70 rfl ?_
          refine X.mem (pu_w6 _ _ _ _ _ _) ?_
          have ho : opn (sp, 0, op, z) = (sp + 1, 0, op + 1, z) := if_neg (show ¬ op = 5 by omega)
          have hoi := opn_in hpi rfl (show sp < σ 46 7 by omega)
          rw [ho] at hoi
          refine x_iload_n (pc := 73) hC dX12_factor_73 rfl ?_
          refine x_bipush (pc := 74) hC dX12_factor_74 (by decide +kernel) ?_
          refine x_icmp_ne (tgt := 91) (pc := 76) hC (by omega) (by omega) dX12_factor_76 (by decide) (fun c76 => by (exfalso; omega)) (fun c76 => ?_)
          refine x_aload_n (pc := 79) hC dX12_factor_79 rfl ?_
          refine x_callV0 (As := []) (Bs := []) (pc := 80) hC (IH (sp + 1) 0 (op + 1) z hoi (Or.inr (by omega))) wX12_78_12 pX12_factor (by assumption) rfl rfl (by exact Nat.le_of_ble_eq_true rfl) hR (by omega) (by decide) (by decide) rfl dX12_factor_80 ?_
          have hg := fac_go hac hen.2 n _ hoi
          have hin := hg.1.2.1
          refine x_aload_n (pc := 83) hC dX12_factor_83 rfl ?_
          refine x_iconst (pc := 84) hC dX12_factor_84 ?_
          refine x_callV0 (As := [_]) (Bs := [_]) (pc := 85) hC (s_emits E hk hw hac hen (sp := (facF (σ 46 7) (σ 46 5) n (sp + 1, 0, op + 1, z)).1) (wg := (facF (σ 46 7) (σ 46 5) n (sp + 1, 0, op + 1, z)).2.1) (op := (facF (σ 46 7) (σ 46 5) n (sp + 1, 0, op + 1, z)).2.2.1) (z := (facF (σ 46 7) (σ 46 5) n (sp + 1, 0, op + 1, z)).2.2.2) hg.1) wX12_81_12 pX12_emits (by assumption) rfl rfl (by exact Nat.le_of_ble_eq_true rfl) hR (by omega) (by decide) (by decide) rfl dX12_factor_85 ?_
          refine x_goto (tgt := 101) (pc := 88) hC dX12_factor_88 (by decide) ?_
          refine x_aload_n (pc := 101) hC dX12_factor_101 rfl ?_
          refine x_dup (pc := 102) hC dX12_factor_102 rfl ?_
          refine x_geti (K := 9) (pc := 103) hC fX12_75_12 (by assumption) dX12_factor_103 rfl rfl ?_
          rw [pu_9]
          refine x_iconst (pc := 106) hC dX12_factor_106 ?_
          refine x_isub (pc := 107) hC dX12_factor_107 ?_
          refine x_puti (K := 9) (pc := 108) hC rfl fX12_75_12 rfl (by assumption) dX12_factor_108 rfl ?_
          refine X.mem (pu_w9 _ _ _ _ _ _) ?_
          refine x_return hC hZ dX12_factor_111 (by decide) (by decide) ?_
          refine ⟨rfl, ?_, rfl, rfl⟩
          have e : facF (σ 46 7) (σ 46 5) (n + 1) (sp, 0, op, z) = bck (emF (σ 46 5) (-1) (facF (σ 46 7) (σ 46 5) n (sp + 1, 0, op + 1, z))) := by
            rw [facF_s, if_neg (by simp), if_pos (show hereF z sp (σ 46 7) = 33 by omega), ho]
          rw [e]
          rfl
        · refine x_iconst (pc := 34) hC dX12_factor_34 ?_
          refine x_goto (tgt := 39) (pc := 35) hC dX12_factor_35 (by decide) ?_
          refine x_putz (K := 8) (pc := 39) hC rfl fX12_51_12 rfl (by assumption) dX12_factor_39 rfl (by omega) ?_
          refine X.mem (pu_w8 _ _ _ _ _ _) ?_
          refine x_aload_n (pc := 42) hC dX12_factor_42 rfl ?_
          refine x_dup (pc := 43) hC dX12_factor_43 rfl ?_
          refine x_geti (K := 9) (pc := 44) hC fX12_75_12 (by assumption) dX12_factor_44 rfl rfl ?_
          rw [pu_9]
          refine x_iconst (pc := 47) hC dX12_factor_47 ?_
          refine x_iadd (pc := 48) hC dX12_factor_48 ?_
          refine x_puti (K := 9) (pc := 49) hC rfl fX12_75_12 rfl (by assumption) dX12_factor_49 rfl ?_
          refine X.mem (pu_w9 _ _ _ _ _ _) ?_
          refine x_aload_n (pc := 52) hC dX12_factor_52 rfl ?_
          refine x_dup (pc := 53) hC dX12_factor_53 rfl ?_
          refine x_geti (K := 6) (pc := 54) hC fX12_45_12 (by assumption) dX12_factor_54 rfl rfl ?_
          rw [pu_6]
          refine x_aload_n (pc := 57) hC dX12_factor_57 rfl ?_
          refine x_geti (K := 8) (pc := 58) hC fX12_51_12 (by assumption) dX12_factor_58 rfl rfl ?_
          rw [pu_8]
          refine x_if_eq (tgt := 68) (pc := 61) hC (by omega) dX12_factor_61 (by decide) (fun c61 => by (exfalso; omega)) (fun c61 => ?_)
          refine x_iconst (pc := 64) hC dX12_factor_64 ?_
          refine x_goto (tgt := 69) (pc := 65) hC dX12_factor_65 (by decide) ?_
          refine x_iadd (pc := 69) hC dX12_factor_69 ?_
          refine x_puti (K := 6) (pc := 70) hC rfl fX12_45_12 rfl (by assumption) dX12_factor_70 rfl ?_
          refine X.mem (pu_w6 _ _ _ _ _ _) ?_
          have ho : opn (sp, 0, op, z) = (sp, 1, op + 1, z) := if_pos (show op = 5 by omega)
          have hoi := opn_in hpi rfl (show sp < σ 46 7 by omega)
          rw [ho] at hoi
          refine X.mem (σ' := pu σ sp 1 (op + 1) z) (by rw [Int.add_zero]) ?_
          refine x_iload_n (pc := 73) hC dX12_factor_73 rfl ?_
          refine x_bipush (pc := 74) hC dX12_factor_74 (by decide +kernel) ?_
          refine x_icmp_ne (tgt := 91) (pc := 76) hC (by omega) (by omega) dX12_factor_76 (by decide) (fun c76 => by (exfalso; omega)) (fun c76 => ?_)
          refine x_aload_n (pc := 79) hC dX12_factor_79 rfl ?_
          refine x_callV0 (As := []) (Bs := []) (pc := 80) hC (IH sp 1 (op + 1) z hoi (Or.inl rfl)) wX12_78_12 pX12_factor (by assumption) rfl rfl (by exact Nat.le_of_ble_eq_true rfl) hR (by omega) (by decide) (by decide) rfl dX12_factor_80 ?_
          have hg := fac_go hac hen.2 n _ hoi
          have hin := hg.1.2.1
          refine x_aload_n (pc := 83) hC dX12_factor_83 rfl ?_
          refine x_iconst (pc := 84) hC dX12_factor_84 ?_
          refine x_callV0 (As := [_]) (Bs := [_]) (pc := 85) hC (s_emits E hk hw hac hen (sp := (facF (σ 46 7) (σ 46 5) n (sp, 1, op + 1, z)).1) (wg := (facF (σ 46 7) (σ 46 5) n (sp, 1, op + 1, z)).2.1) (op := (facF (σ 46 7) (σ 46 5) n (sp, 1, op + 1, z)).2.2.1) (z := (facF (σ 46 7) (σ 46 5) n (sp, 1, op + 1, z)).2.2.2) hg.1) wX12_81_12 pX12_emits (by assumption) rfl rfl (by exact Nat.le_of_ble_eq_true rfl) hR (by omega) (by decide) (by decide) rfl dX12_factor_85 ?_
          refine x_goto (tgt := 101) (pc := 88) hC dX12_factor_88 (by decide) ?_
          refine x_aload_n (pc := 101) hC dX12_factor_101 rfl ?_
          refine x_dup (pc := 102) hC dX12_factor_102 rfl ?_
          refine x_geti (K := 9) (pc := 103) hC fX12_75_12 (by assumption) dX12_factor_103 rfl rfl ?_
          rw [pu_9]
          refine x_iconst (pc := 106) hC dX12_factor_106 ?_
          refine x_isub (pc := 107) hC dX12_factor_107 ?_
          refine x_puti (K := 9) (pc := 108) hC rfl fX12_75_12 rfl (by assumption) dX12_factor_108 rfl ?_
          refine X.mem (pu_w9 _ _ _ _ _ _) ?_
          refine x_return hC hZ dX12_factor_111 (by decide) (by decide) ?_
          refine ⟨rfl, ?_, rfl, rfl⟩
          have e : facF (σ 46 7) (σ 46 5) (n + 1) (sp, 0, op, z) = bck (emF (σ 46 5) (-1) (facF (σ 46 7) (σ 46 5) n (sp, 1, op + 1, z))) := by
            rw [facF_s, if_neg (by simp), if_pos (show hereF z sp (σ 46 7) = 33 by omega), ho]
          rw [e]
          rfl
      · refine x_iload_n (pc := 19) hC dX12_factor_19 rfl ?_
        refine x_bipush (pc := 20) hC dX12_factor_20 (by decide +kernel) ?_
        refine x_icmp_ne (tgt := 112) (pc := 22) hC (by omega) (by omega) dX12_factor_22 (by decide) (fun c22 => ?_) (fun c22 => ?_)
        · refine x_aload_n (pc := 112) hC dX12_factor_112 rfl ?_
          refine x_ldcS (n := 4) (pc := 113) hC 10 rfl (by decide +kernel) dX12_factor_113 ?_
          refine x_callV1 (As := [_]) (Bs := [_]) (pc := 115) hC (s_among E hk hw hac hen (u := 4) hpi (by decide)) wX12_89_12 pX12_among (by assumption) rfl rfl (by exact Nat.le_of_ble_eq_true rfl) hR (by omega) (by decide) (by decide) rfl dX12_factor_115 ?_
          have a1 := am_in (en := σ 46 7) (u := 4) (t := (sp, 0, op, z)) (by decide)
          have hl4 := sLn_in (u := 4) (by decide)
          have hl5 := sLn_in (u := 5) (by decide)
          refine x_istore_n (L' := [_, _, _, _, _]) (pc := 118) hC dX12_factor_118 rfl rfl ?_
          refine x_aload_n (pc := 119) hC dX12_factor_119 rfl ?_
          refine x_iload_n (pc := 120) hC dX12_factor_120 rfl ?_
          refine x_iconst (pc := 121) hC dX12_factor_121 ?_
          refine x_icmp_ne (tgt := 129) (pc := 122) hC (by omega) (by omega) dX12_factor_122 (by decide) (fun c122 => ?_) (fun c122 => ?_)
          · refine x_iconst (pc := 129) hC dX12_factor_129 ?_
            refine x_putz (K := 8) (pc := 130) hC rfl fX12_51_12 rfl (by assumption) dX12_factor_130 rfl (by omega) ?_
            refine X.mem (pu_w8 _ _ _ _ _ _) ?_
            refine X.mem (σ' := pu σ (sp + 1) 0 op z) (by rw [show amT (σ 46 7) 4 (sp, 0, op, z) = (sp + 1, 0, op, z) from if_neg c122]) ?_
            have l1 := am_lt (u := 4) (by decide) hpi hen.2 (by exact c122)
            have hA : PIn (σ 46 7) (σ 46 5) (sp + 1, 0, op, z) := hpi.adv l1
            have a2 := am_in (en := σ 46 7) (u := 5) (t := (sp + 1, 0, op, z)) (by decide)
            refine x_aload_n (pc := 133) hC dX12_factor_133 rfl ?_
            refine x_geti (K := 8) (pc := 134) hC fX12_51_12 (by assumption) dX12_factor_134 rfl rfl ?_
            rw [pu_8]
            refine x_if_eq (tgt := 144) (pc := 137) hC (by omega) dX12_factor_137 (by decide) (fun c137 => ?_) (fun c137 => by (exfalso; omega))
            refine x_aload_n (pc := 144) hC dX12_factor_144 rfl ?_
            refine x_ldcS (n := 5) (pc := 145) hC 11 rfl (by decide +kernel) dX12_factor_145 ?_
            refine x_callV1 (As := [_]) (Bs := [_]) (pc := 147) hC (s_among E hk hw hac hen (u := 5) hA (by decide)) wX12_89_12 pX12_among (by assumption) rfl rfl (by exact Nat.le_of_ble_eq_true rfl) hR (by omega) (by decide) (by decide) rfl dX12_factor_147 ?_
            have am2 : (amT (σ 46 7) 5 (sp + 1, 0, op, z)).2.1 = 0 := by unfold amT; split <;> rfl
            refine x_istore_n (L' := [_, _, _, _, _]) (pc := 150) hC dX12_factor_150 rfl rfl ?_
            refine x_aload_n (pc := 151) hC dX12_factor_151 rfl ?_
            refine x_aload_n (pc := 152) hC dX12_factor_152 rfl ?_
            refine x_geti (K := 8) (pc := 153) hC fX12_51_12 (by assumption) dX12_factor_153 rfl rfl ?_
            rw [pu_8]
            refine x_if_ne (tgt := 164) (pc := 156) hC (by omega) dX12_factor_156 (by decide) (fun c156 => by (exfalso; omega)) (fun c156 => ?_)
            refine x_iload_n (pc := 159) hC dX12_factor_159 rfl ?_
            refine x_iconst (pc := 160) hC dX12_factor_160 ?_
            refine x_icmp_ne (tgt := 168) (pc := 161) hC (by omega) (by omega) dX12_factor_161 (by decide) (fun c161 => ?_) (fun c161 => ?_)
            · refine x_iconst (pc := 168) hC dX12_factor_168 ?_
              refine x_putz (K := 8) (pc := 169) hC rfl fX12_51_12 rfl (by assumption) dX12_factor_169 rfl (by omega) ?_
              refine X.mem (pu_w8 _ _ _ _ _ _) ?_
              refine X.mem (σ' := pu σ (sp + 2) 0 op z) (by rw [show amT (σ 46 7) 5 (sp + 1, 0, op, z) = (sp + 1 + 1, 0, op, z) from if_neg c161, show sp + 1 + 1 = sp + 2 by omega]) ?_
              have l2 := am_lt (u := 5) (by decide) hA hen.2 (by exact c161)
              have hW : PIn (σ 46 7) (σ 46 5) (sp + 2, 0, op, z) := by
                have := hA.adv l2
                simp only at this
                rwa [show sp + 1 + 1 = sp + 2 by omega] at this
              refine x_aload_n (pc := 172) hC dX12_factor_172 rfl ?_
              refine x_callV1 (As := []) (Bs := []) (pc := 173) hC (s_figures E hk hw hac hen hW) wX12_95_12 pX12_figures (by assumption) rfl rfl (by exact Nat.le_of_ble_eq_true rfl) hR (by omega) (by decide) (by decide) rfl dX12_factor_173 ?_
              have hfi := fig_in hW hen.2
              refine x_istore (L' := [_, _, _, _, _]) (pc := 176) hC dX12_factor_176 rfl rfl ?_
              refine x_aload_n (pc := 178) hC dX12_factor_178 rfl ?_
              refine x_iload_n (pc := 179) hC dX12_factor_179 rfl ?_
              refine x_bipush (pc := 180) hC dX12_factor_180 (by decide +kernel) ?_
              refine x_iload_n (pc := 182) hC dX12_factor_182 rfl ?_
              refine x_imul (pc := 183) hC dX12_factor_183 ?_
              refine x_iadd (pc := 184) hC dX12_factor_184 ?_
              refine x_bipush (pc := 185) hC dX12_factor_185 (by decide +kernel) ?_
              refine x_iload (pc := 187) hC dX12_factor_187 rfl ?_
              refine x_imul (pc := 189) hC dX12_factor_189 ?_
              refine x_iadd (pc := 190) hC dX12_factor_190 ?_
              refine x_callV0 (As := [_]) (Bs := [_]) (pc := 191) hC (s_emits E hk hw hac hen (sp := ((figF (σ 46 7) (sp + 2, 0, op, z)).1).1) (wg := ((figF (σ 46 7) (sp + 2, 0, op, z)).1).2.1) (op := ((figF (σ 46 7) (sp + 2, 0, op, z)).1).2.2.1) (z := ((figF (σ 46 7) (sp + 2, 0, op, z)).1).2.2.2) hfi.1) wX12_81_12 pX12_emits (by assumption) rfl rfl (by exact Nat.le_of_ble_eq_true rfl) hR (by omega) (by decide) (by decide) rfl dX12_factor_191 ?_
              refine x_return hC hZ dX12_factor_194 (by decide) (by decide) ?_
              refine ⟨rfl, ?_, rfl, rfl⟩
              have e : facF (σ 46 7) (σ 46 5) (n + 1) (sp, 0, op, z) = testF (σ 46 7) (σ 46 5) (sp, 0, op, z) := by
                rw [facF_s, if_neg (by simp), if_neg (show ¬ hereF z sp (σ 46 7) = 33 by omega), if_neg (show ¬ hereF z sp (σ 46 7) = 40 by omega)]
              rw [e, show testF (σ 46 7) (σ 46 5) (sp, 0, op, z) = emF (σ 46 5) (amF (σ 46 7) 4 (sp, 0, op, z) + 8 * amF (σ 46 7) 5 (sp + 1, 0, op, z) + 32 * (figF (σ 46 7) (sp + 2, 0, op, z)).2) (figF (σ 46 7) (sp + 2, 0, op, z)).1 by unfold testF; rw [if_neg (show ¬ amF (σ 46 7) 4 (sp, 0, op, z) = -1 by omega), if_neg (show ¬ amF (σ 46 7) 5 (sp + 1, 0, op, z) = -1 by omega)]]
            · refine x_iconst (pc := 164) hC dX12_factor_164 ?_
              refine x_goto (tgt := 169) (pc := 165) hC dX12_factor_165 (by decide) ?_
              refine x_putz (K := 8) (pc := 169) hC rfl fX12_51_12 rfl (by assumption) dX12_factor_169 rfl (by omega) ?_
              refine X.mem (pu_w8 _ _ _ _ _ _) ?_
              refine X.mem (σ' := pu σ (sp + 1) 1 op z) (by rw [show amT (σ 46 7) 5 (sp + 1, 0, op, z) = (sp + 1, 0, op, z) from if_pos (by omega)]) ?_
              have hW : PIn (σ 46 7) (σ 46 5) (sp + 1, 1, op, z) := ⟨hA.1, Or.inr rfl, ⟨hop.1, hop.2.1, fun h => absurd h (by simp)⟩, hA.2.2.2.1, htp⟩
              refine x_aload_n (pc := 172) hC dX12_factor_172 rfl ?_
              refine x_callV1 (As := []) (Bs := []) (pc := 173) hC (s_figures E hk hw hac hen hW) wX12_95_12 pX12_figures (by assumption) rfl rfl (by exact Nat.le_of_ble_eq_true rfl) hR (by omega) (by decide) (by decide) rfl dX12_factor_173 ?_
              have hfi := fig_in hW hen.2
              have hfe : figF (σ 46 7) (sp + 1, 1, op, z) = ((sp + 1, 1, op, z), 0) := if_pos (fun h => absurd h.1 (by simp))
              rw [hfe]
              rw [hfe] at hfi
              refine X.mem (σ' := pu σ (sp + 1) 1 op z) rfl ?_
              refine x_istore (L' := [_, _, _, _, _]) (pc := 176) hC dX12_factor_176 rfl rfl ?_
              refine x_aload_n (pc := 178) hC dX12_factor_178 rfl ?_
              refine x_iload_n (pc := 179) hC dX12_factor_179 rfl ?_
              refine x_bipush (pc := 180) hC dX12_factor_180 (by decide +kernel) ?_
              refine x_iload_n (pc := 182) hC dX12_factor_182 rfl ?_
              refine x_imul (pc := 183) hC dX12_factor_183 ?_
              refine x_iadd (pc := 184) hC dX12_factor_184 ?_
              refine x_bipush (pc := 185) hC dX12_factor_185 (by decide +kernel) ?_
              refine x_iload (pc := 187) hC dX12_factor_187 rfl ?_
              refine x_imul (pc := 189) hC dX12_factor_189 ?_
              refine x_iadd (pc := 190) hC dX12_factor_190 ?_
              refine x_callV0 (As := [_]) (Bs := [_]) (pc := 191) hC (s_emits E hk hw hac hen hW) wX12_81_12 pX12_emits (by assumption) rfl rfl (by exact Nat.le_of_ble_eq_true rfl) hR (by omega) (by decide) (by decide) rfl dX12_factor_191 ?_
              refine x_return hC hZ dX12_factor_194 (by decide) (by decide) ?_
              refine ⟨rfl, ?_, rfl, rfl⟩
              have e : facF (σ 46 7) (σ 46 5) (n + 1) (sp, 0, op, z) = testF (σ 46 7) (σ 46 5) (sp, 0, op, z) := by
                rw [facF_s, if_neg (by simp), if_neg (show ¬ hereF z sp (σ 46 7) = 33 by omega), if_neg (show ¬ hereF z sp (σ 46 7) = 40 by omega)]
              rw [e, show testF (σ 46 7) (σ 46 5) (sp, 0, op, z) = (sp + 1, 1, op, z) by unfold testF; rw [if_neg (show ¬ amF (σ 46 7) 4 (sp, 0, op, z) = -1 by omega), if_pos (show amF (σ 46 7) 5 (sp + 1, 0, op, z) = -1 by omega)], emF_w (by simp)]
          · refine x_iconst (pc := 125) hC dX12_factor_125 ?_
            refine x_goto (tgt := 130) (pc := 126) hC dX12_factor_126 (by decide) ?_
            refine x_putz (K := 8) (pc := 130) hC rfl fX12_51_12 rfl (by assumption) dX12_factor_130 rfl (by omega) ?_
            refine X.mem (pu_w8 _ _ _ _ _ _) ?_
            refine X.mem (σ' := pu σ sp 1 op z) (by rw [show amT (σ 46 7) 4 (sp, 0, op, z) = (sp, 0, op, z) from if_pos (by omega)]) ?_
            refine x_aload_n (pc := 133) hC dX12_factor_133 rfl ?_
            refine x_geti (K := 8) (pc := 134) hC fX12_51_12 (by assumption) dX12_factor_134 rfl rfl ?_
            rw [pu_8]
            refine x_if_eq (tgt := 144) (pc := 137) hC (by omega) dX12_factor_137 (by decide) (fun c137 => by (exfalso; omega)) (fun c137 => ?_)
            refine x_iconst (pc := 140) hC dX12_factor_140 ?_
            refine x_goto (tgt := 150) (pc := 141) hC dX12_factor_141 (by decide) ?_
            skip
            refine x_istore_n (L' := [_, _, _, _, _]) (pc := 150) hC dX12_factor_150 rfl rfl ?_
            refine x_aload_n (pc := 151) hC dX12_factor_151 rfl ?_
            refine x_aload_n (pc := 152) hC dX12_factor_152 rfl ?_
            refine x_geti (K := 8) (pc := 153) hC fX12_51_12 (by assumption) dX12_factor_153 rfl rfl ?_
            rw [pu_8]
            refine x_if_ne (tgt := 164) (pc := 156) hC (by omega) dX12_factor_156 (by decide) (fun c156 => ?_) (fun c156 => by (exfalso; omega))
            refine x_iconst (pc := 164) hC dX12_factor_164 ?_
            refine x_goto (tgt := 169) (pc := 165) hC dX12_factor_165 (by decide) ?_
            refine x_putz (K := 8) (pc := 169) hC rfl fX12_51_12 rfl (by assumption) dX12_factor_169 rfl (by omega) ?_
            refine X.mem (pu_w8 _ _ _ _ _ _) ?_
            have hW : PIn (σ 46 7) (σ 46 5) (sp, 1, op, z) := ⟨hsp, Or.inr rfl, ⟨hop.1, hop.2.1, fun h => absurd h (by simp)⟩, hct, htp⟩
            refine x_aload_n (pc := 172) hC dX12_factor_172 rfl ?_
            refine x_callV1 (As := []) (Bs := []) (pc := 173) hC (s_figures E hk hw hac hen hW) wX12_95_12 pX12_figures (by assumption) rfl rfl (by exact Nat.le_of_ble_eq_true rfl) hR (by omega) (by decide) (by decide) rfl dX12_factor_173 ?_
            have hfi := fig_in hW hen.2
            have hfe : figF (σ 46 7) (sp, 1, op, z) = ((sp, 1, op, z), 0) := if_pos (fun h => absurd h.1 (by simp))
            rw [hfe]
            rw [hfe] at hfi
            refine X.mem (σ' := pu σ sp 1 op z) rfl ?_
            refine x_istore (L' := [_, _, _, _, _]) (pc := 176) hC dX12_factor_176 rfl rfl ?_
            refine x_aload_n (pc := 178) hC dX12_factor_178 rfl ?_
            refine x_iload_n (pc := 179) hC dX12_factor_179 rfl ?_
            refine x_bipush (pc := 180) hC dX12_factor_180 (by decide +kernel) ?_
            refine x_iload_n (pc := 182) hC dX12_factor_182 rfl ?_
            refine x_imul (pc := 183) hC dX12_factor_183 ?_
            refine x_iadd (pc := 184) hC dX12_factor_184 ?_
            refine x_bipush (pc := 185) hC dX12_factor_185 (by decide +kernel) ?_
            refine x_iload (pc := 187) hC dX12_factor_187 rfl ?_
            refine x_imul (pc := 189) hC dX12_factor_189 ?_
            refine x_iadd (pc := 190) hC dX12_factor_190 ?_
            refine x_callV0 (As := [_]) (Bs := [_]) (pc := 191) hC (s_emits E hk hw hac hen hW) wX12_81_12 pX12_emits (by assumption) rfl rfl (by exact Nat.le_of_ble_eq_true rfl) hR (by omega) (by decide) (by decide) rfl dX12_factor_191 ?_
            refine x_return hC hZ dX12_factor_194 (by decide) (by decide) ?_
            refine ⟨rfl, ?_, rfl, rfl⟩
            have e : facF (σ 46 7) (σ 46 5) (n + 1) (sp, 0, op, z) = testF (σ 46 7) (σ 46 5) (sp, 0, op, z) := by
              rw [facF_s, if_neg (by simp), if_neg (show ¬ hereF z sp (σ 46 7) = 33 by omega), if_neg (show ¬ hereF z sp (σ 46 7) = 40 by omega)]
            rw [e, show testF (σ 46 7) (σ 46 5) (sp, 0, op, z) = (sp, 1, op, z) from if_pos (show amF (σ 46 7) 4 (sp, 0, op, z) = -1 by omega), emF_w (by simp)]
        · refine x_aload_n (pc := 25) hC dX12_factor_25 rfl ?_
          refine x_aload_n (pc := 26) hC dX12_factor_26 rfl ?_
          refine x_geti (K := 9) (pc := 27) hC fX12_75_12 (by assumption) dX12_factor_27 rfl rfl ?_
          rw [pu_9]
          refine x_iconst (pc := 30) hC dX12_factor_30 ?_
          refine x_icmp_ne (tgt := 38) (pc := 31) hC (by omega) (by omega) dX12_factor_31 (by decide) (fun c31 => ?_) (fun c31 => ?_)
          · refine x_iconst (pc := 38) hC dX12_factor_38 ?_
            refine x_putz (K := 8) (pc := 39) hC rfl fX12_51_12 rfl (by assumption) dX12_factor_39 rfl (by omega) ?_
            refine X.mem (pu_w8 _ _ _ _ _ _) ?_
            refine x_aload_n (pc := 42) hC dX12_factor_42 rfl ?_
            refine x_dup (pc := 43) hC dX12_factor_43 rfl ?_
            refine x_geti (K := 9) (pc := 44) hC fX12_75_12 (by assumption) dX12_factor_44 rfl rfl ?_
            rw [pu_9]
            refine x_iconst (pc := 47) hC dX12_factor_47 ?_
            refine x_iadd (pc := 48) hC dX12_factor_48 ?_
            refine x_puti (K := 9) (pc := 49) hC rfl fX12_75_12 rfl (by assumption) dX12_factor_49 rfl ?_
            refine X.mem (pu_w9 _ _ _ _ _ _) ?_
            refine x_aload_n (pc := 52) hC dX12_factor_52 rfl ?_
            refine x_dup (pc := 53) hC dX12_factor_53 rfl ?_
            refine x_geti (K := 6) (pc := 54) hC fX12_45_12 (by assumption) dX12_factor_54 rfl rfl ?_
            rw [pu_6]
            refine x_aload_n (pc := 57) hC dX12_factor_57 rfl ?_
            refine x_geti (K := 8) (pc := 58) hC fX12_51_12 (by assumption) dX12_factor_58 rfl rfl ?_
            rw [pu_8]
            refine x_if_eq (tgt := 68) (pc := 61) hC (by omega) dX12_factor_61 (by decide) (fun c61 => ?_) (fun c61 => by (exfalso; omega))
            refine x_iconst (pc := 68) hC dX12_factor_68 ?_
            refine x_iadd (pc := 69) hC dX12_factor_69 ?_
            refine x_puti (K := 6) (pc := 70) hC rfl fX12_45_12 rfl (by assumption) dX12_factor_70 rfl ?_
            refine X.mem (pu_w6 _ _ _ _ _ _) ?_
            have ho : opn (sp, 0, op, z) = (sp + 1, 0, op + 1, z) := if_neg (show ¬ op = 5 by omega)
            have hoi := opn_in hpi rfl (show sp < σ 46 7 by omega)
            rw [ho] at hoi
            refine x_iload_n (pc := 73) hC dX12_factor_73 rfl ?_
            refine x_bipush (pc := 74) hC dX12_factor_74 (by decide +kernel) ?_
            refine x_icmp_ne (tgt := 91) (pc := 76) hC (by omega) (by omega) dX12_factor_76 (by decide) (fun c76 => ?_) (fun c76 => by (exfalso; omega))
            refine x_aload_n (pc := 91) hC dX12_factor_91 rfl ?_
            refine x_callV0 (As := []) (Bs := []) (pc := 92) hC (s_some E hk hw hac hen IH (sp + 1) 0 (op + 1) z hoi (Or.inr (by omega))) wX12_84_12 pX12_some (by assumption) rfl rfl (by exact Nat.le_of_ble_eq_true rfl) hR (by omega) (by decide) (by decide) rfl dX12_factor_92 ?_
            refine x_aload_n (pc := 95) hC dX12_factor_95 rfl ?_
            refine x_bipush (pc := 96) hC dX12_factor_96 (by decide +kernel) ?_
            refine x_callV0 (As := [_]) (Bs := [_]) (pc := 98) hC (s_must E hk hw hac hen (sp := (soF (σ 46 7) (σ 46 5) (facF (σ 46 7) (σ 46 5) n) (sp + 1, 0, op + 1, z)).1) (wg := (soF (σ 46 7) (σ 46 5) (facF (σ 46 7) (σ 46 5) n) (sp + 1, 0, op + 1, z)).2.1) (op := (soF (σ 46 7) (σ 46 5) (facF (σ 46 7) (σ 46 5) n) (sp + 1, 0, op + 1, z)).2.2.1) (z := (soF (σ 46 7) (σ 46 5) (facF (σ 46 7) (σ 46 5) n) (sp + 1, 0, op + 1, z)).2.2.2) (c0 := 41) (soF_go hac hen.2 (fac_go hac hen.2 n) _ hoi).1 (by decide)) wX12_68_12 pX12_must (by assumption) rfl rfl (by exact Nat.le_of_ble_eq_true rfl) hR (by omega) (by decide) (by decide) rfl dX12_factor_98 ?_
            refine x_aload_n (pc := 101) hC dX12_factor_101 rfl ?_
            refine x_dup (pc := 102) hC dX12_factor_102 rfl ?_
            refine x_geti (K := 9) (pc := 103) hC fX12_75_12 (by assumption) dX12_factor_103 rfl rfl ?_
            rw [pu_9]
            refine x_iconst (pc := 106) hC dX12_factor_106 ?_
            refine x_isub (pc := 107) hC dX12_factor_107 ?_
            refine x_puti (K := 9) (pc := 108) hC rfl fX12_75_12 rfl (by assumption) dX12_factor_108 rfl ?_
            refine X.mem (pu_w9 _ _ _ _ _ _) ?_
            refine x_return hC hZ dX12_factor_111 (by decide) (by decide) ?_
            refine ⟨rfl, ?_, rfl, rfl⟩
            have e : facF (σ 46 7) (σ 46 5) (n + 1) (sp, 0, op, z) = bck (mustF (σ 46 7) 41 (soF (σ 46 7) (σ 46 5) (facF (σ 46 7) (σ 46 5) n) (sp + 1, 0, op + 1, z))) := by
              rw [facF_s, if_neg (by simp), if_neg (show ¬ hereF z sp (σ 46 7) = 33 by omega), if_pos (show hereF z sp (σ 46 7) = 40 by omega), ho]
            rw [e]
            rfl
          · refine x_iconst (pc := 34) hC dX12_factor_34 ?_
            refine x_goto (tgt := 39) (pc := 35) hC dX12_factor_35 (by decide) ?_
            refine x_putz (K := 8) (pc := 39) hC rfl fX12_51_12 rfl (by assumption) dX12_factor_39 rfl (by omega) ?_
            refine X.mem (pu_w8 _ _ _ _ _ _) ?_
            refine x_aload_n (pc := 42) hC dX12_factor_42 rfl ?_
            refine x_dup (pc := 43) hC dX12_factor_43 rfl ?_
            refine x_geti (K := 9) (pc := 44) hC fX12_75_12 (by assumption) dX12_factor_44 rfl rfl ?_
            rw [pu_9]
            refine x_iconst (pc := 47) hC dX12_factor_47 ?_
            refine x_iadd (pc := 48) hC dX12_factor_48 ?_
            refine x_puti (K := 9) (pc := 49) hC rfl fX12_75_12 rfl (by assumption) dX12_factor_49 rfl ?_
            refine X.mem (pu_w9 _ _ _ _ _ _) ?_
            refine x_aload_n (pc := 52) hC dX12_factor_52 rfl ?_
            refine x_dup (pc := 53) hC dX12_factor_53 rfl ?_
            refine x_geti (K := 6) (pc := 54) hC fX12_45_12 (by assumption) dX12_factor_54 rfl rfl ?_
            rw [pu_6]
            refine x_aload_n (pc := 57) hC dX12_factor_57 rfl ?_
            refine x_geti (K := 8) (pc := 58) hC fX12_51_12 (by assumption) dX12_factor_58 rfl rfl ?_
            rw [pu_8]
            refine x_if_eq (tgt := 68) (pc := 61) hC (by omega) dX12_factor_61 (by decide) (fun c61 => by (exfalso; omega)) (fun c61 => ?_)
            refine x_iconst (pc := 64) hC dX12_factor_64 ?_
            refine x_goto (tgt := 69) (pc := 65) hC dX12_factor_65 (by decide) ?_
            refine x_iadd (pc := 69) hC dX12_factor_69 ?_
            refine x_puti (K := 6) (pc := 70) hC rfl fX12_45_12 rfl (by assumption) dX12_factor_70 rfl ?_
            refine X.mem (pu_w6 _ _ _ _ _ _) ?_
            have ho : opn (sp, 0, op, z) = (sp, 1, op + 1, z) := if_pos (show op = 5 by omega)
            have hoi := opn_in hpi rfl (show sp < σ 46 7 by omega)
            rw [ho] at hoi
            refine X.mem (σ' := pu σ sp 1 (op + 1) z) (by rw [Int.add_zero]) ?_
            refine x_iload_n (pc := 73) hC dX12_factor_73 rfl ?_
            refine x_bipush (pc := 74) hC dX12_factor_74 (by decide +kernel) ?_
            refine x_icmp_ne (tgt := 91) (pc := 76) hC (by omega) (by omega) dX12_factor_76 (by decide) (fun c76 => ?_) (fun c76 => by (exfalso; omega))
            refine x_aload_n (pc := 91) hC dX12_factor_91 rfl ?_
            refine x_callV0 (As := []) (Bs := []) (pc := 92) hC (s_some E hk hw hac hen IH sp 1 (op + 1) z hoi (Or.inl rfl)) wX12_84_12 pX12_some (by assumption) rfl rfl (by exact Nat.le_of_ble_eq_true rfl) hR (by omega) (by decide) (by decide) rfl dX12_factor_92 ?_
            refine x_aload_n (pc := 95) hC dX12_factor_95 rfl ?_
            refine x_bipush (pc := 96) hC dX12_factor_96 (by decide +kernel) ?_
            refine x_callV0 (As := [_]) (Bs := [_]) (pc := 98) hC (s_must E hk hw hac hen (sp := (soF (σ 46 7) (σ 46 5) (facF (σ 46 7) (σ 46 5) n) (sp, 1, op + 1, z)).1) (wg := (soF (σ 46 7) (σ 46 5) (facF (σ 46 7) (σ 46 5) n) (sp, 1, op + 1, z)).2.1) (op := (soF (σ 46 7) (σ 46 5) (facF (σ 46 7) (σ 46 5) n) (sp, 1, op + 1, z)).2.2.1) (z := (soF (σ 46 7) (σ 46 5) (facF (σ 46 7) (σ 46 5) n) (sp, 1, op + 1, z)).2.2.2) (c0 := 41) (soF_go hac hen.2 (fac_go hac hen.2 n) _ hoi).1 (by decide)) wX12_68_12 pX12_must (by assumption) rfl rfl (by exact Nat.le_of_ble_eq_true rfl) hR (by omega) (by decide) (by decide) rfl dX12_factor_98 ?_
            refine x_aload_n (pc := 101) hC dX12_factor_101 rfl ?_
            refine x_dup (pc := 102) hC dX12_factor_102 rfl ?_
            refine x_geti (K := 9) (pc := 103) hC fX12_75_12 (by assumption) dX12_factor_103 rfl rfl ?_
            rw [pu_9]
            refine x_iconst (pc := 106) hC dX12_factor_106 ?_
            refine x_isub (pc := 107) hC dX12_factor_107 ?_
            refine x_puti (K := 9) (pc := 108) hC rfl fX12_75_12 rfl (by assumption) dX12_factor_108 rfl ?_
            refine X.mem (pu_w9 _ _ _ _ _ _) ?_
            refine x_return hC hZ dX12_factor_111 (by decide) (by decide) ?_
            refine ⟨rfl, ?_, rfl, rfl⟩
            have e : facF (σ 46 7) (σ 46 5) (n + 1) (sp, 0, op, z) = bck (mustF (σ 46 7) 41 (soF (σ 46 7) (σ 46 5) (facF (σ 46 7) (σ 46 5) n) (sp, 1, op + 1, z))) := by
              rw [facF_s, if_neg (by simp), if_neg (show ¬ hereF z sp (σ 46 7) = 33 by omega), if_pos (show hereF z sp (σ 46 7) = 40 by omega), ho]
            rw [e]
            rfl
