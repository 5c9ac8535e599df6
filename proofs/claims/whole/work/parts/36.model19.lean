set_option maxHeartbeats 4000000 in
set_option maxRecDepth 100000 in
theorem s_every (E : xE) {σ : xM} {ρ : xR} {ks : xKs} (hk : MK ks) (hw : MW ρ) (hac : 0 ≤ σ 46 5 ∧ σ 46 5 ≤ 4) (hen : 0 ≤ σ 46 7 ∧ σ 46 7 ≤ 100) {n : Nat} (HF : ∀ (sp wg op : Int) (z : zS), PIn (σ 46 7) (σ 46 5) (sp, wg, op, z) → (wg = 1 ∨ 5 - op < (n : Int)) → Sp E yX12_factor kX12_factor (5 + 3 * n) 0 0 [.ref 46] (pu σ sp wg op z) ρ ks (Fn none (pu σ (facF (σ 46 7) (σ 46 5) n (sp, wg, op, z)).1 (facF (σ 46 7) (σ 46 5) n (sp, wg, op, z)).2.1 (facF (σ 46 7) (σ 46 5) n (sp, wg, op, z)).2.2.1 (facF (σ 46 7) (σ 46 5) n (sp, wg, op, z)).2.2.2) ρ ks)) (sp wg op : Int) (z : zS) (hpi : PIn (σ 46 7) (σ 46 5) (sp, wg, op, z)) (hn : wg = 1 ∨ 5 - op < (n : Int)) : Sp E yX12_every kX12_every (5 + 3 * n + 1) 0 0 [.ref 46] (pu σ sp wg op z) ρ ks (Fn none (pu σ (evF (σ 46 7) (σ 46 5) 38 (-2) (facF (σ 46 7) (σ 46 5) n) (sp, wg, op, z)).1 (evF (σ 46 7) (σ 46 5) 38 (-2) (facF (σ 46 7) (σ 46 5) n) (sp, wg, op, z)).2.1 (evF (σ 46 7) (σ 46 5) 38 (-2) (facF (σ 46 7) (σ 46 5) n) (sp, wg, op, z)).2.2.1 (evF (σ 46 7) (σ 46 5) 38 (-2) (facF (σ 46 7) (σ 46 5) n) (sp, wg, op, z)).2.2.2) ρ ks) := by
  refine x_enter (own := RX12) (L := [_]) (by decide +kernel) rfl (by exact Nat.le_of_ble_eq_true rfl) rfl (fun p e R s m args below meth c Z hZ hC hR hin => ?_)
  obtain ⟨k46, k47, k48, k49, k50, k51, k52, k53, k54⟩ := id hk
  obtain ⟨w1, w2, w3, w10, w11, w14, w15, w16⟩ := id hw
  have hgo : ∀ t, PIn (σ 46 7) (σ 46 5) t → PGo (σ 46 7) (σ 46 5) t ((facF (σ 46 7) (σ 46 5) n) t) := fac_go hac hen.2 n
  have loop : ∀ (i : Nat) (sp1 wg1 op1 : Int) (z1 : zS), PIn (σ 46 7) (σ 46 5) (sp1, wg1, op1, z1) → (wg1 = 1 ∨ 5 - op1 < (n : Int)) → σ 46 7 - sp1 < (i : Int) → evL (σ 46 7) (σ 46 5) 38 (-2) (facF (σ 46 7) (σ 46 5) n) i (sp1, wg1, op1, z1) = evF (σ 46 7) (σ 46 5) 38 (-2) (facF (σ 46 7) (σ 46 5) n) (sp, wg, op, z) → X E p e R s m args below meth c Z 0 0 (pu σ sp1 wg1 op1 z1) ρ ks 4 [some (.ref 46)] [] := by
    intro i
    induction i with
    | zero =>
      intro sp1 wg1 op1 z1 hpi hn hi he
      have := hpi.1
      simp only at this
      exfalso; omega
    | succ i ih =>
      intro sp1 wg1 op1 z1 hpi hn hi he
      obtain ⟨hsp, hwg, hop, hct, htp⟩ := id hpi
      simp only at hsp hwg hop hct htp
      have hh := here_in (sp := sp1) (en := σ 46 7) htp hsp.1 hen.2
      refine x_aload_n (pc := 4) hC dX12_every_4 rfl ?_
      refine x_geti (K := 8) (pc := 5) hC fX12_51_12 (by assumption) dX12_every_5 rfl rfl ?_
      rw [pu_8]
      refine x_if_ne (tgt := 43) (pc := 8) hC (by omega) dX12_every_8 (by decide) (fun c8 => ?_) (fun c8 => ?_)
      · refine x_return hC hZ dX12_every_43 (by decide) (by decide) ?_
        refine ⟨rfl, ?_, rfl, rfl⟩
        rw [← he, show evL (σ 46 7) (σ 46 5) 38 (-2) (facF (σ 46 7) (σ 46 5) n) (i + 1) (sp1, wg1, op1, z1) = (sp1, wg1, op1, z1) from if_neg (fun h => by have h1 := h.1; have h2 := h.2; simp only at h1 h2; omega)]
      · refine x_aload_n (pc := 11) hC dX12_every_11 rfl ?_
        refine x_callV1 (As := []) (Bs := []) (pc := 12) hC (s_hereP E hk hw hen (by omega)) wX12_55_12 pX12_here (by assumption) rfl rfl (by exact Nat.le_of_ble_eq_true rfl) hR (by omega) (by decide) (by decide) rfl dX12_every_12 ?_
        refine x_bipush (pc := 15) hC dX12_every_15 (by decide +kernel) ?_
        refine x_icmp_ne (tgt := 43) (pc := 17) hC (by omega) (by omega) dX12_every_17 (by decide) (fun c17 => ?_) (fun c17 => ?_)
        · refine x_return hC hZ dX12_every_43 (by decide) (by decide) ?_
          refine ⟨rfl, ?_, rfl, rfl⟩
          rw [← he, show evL (σ 46 7) (σ 46 5) 38 (-2) (facF (σ 46 7) (σ 46 5) n) (i + 1) (sp1, wg1, op1, z1) = (sp1, wg1, op1, z1) from if_neg (fun h => by have h1 := h.1; have h2 := h.2; simp only at h1 h2; omega)]
        · refine x_aload_n (pc := 20) hC dX12_every_20 rfl ?_
          refine x_dup (pc := 21) hC dX12_every_21 rfl ?_
          refine x_geti (K := 6) (pc := 22) hC fX12_45_12 (by assumption) dX12_every_22 rfl rfl ?_
          rw [pu_6]
          refine x_iconst (pc := 25) hC dX12_every_25 ?_
          refine x_iadd (pc := 26) hC dX12_every_26 ?_
          refine x_puti (K := 6) (pc := 27) hC rfl fX12_45_12 rfl (by assumption) dX12_every_27 rfl ?_
          refine X.mem (pu_w6 _ _ _ _ _ _) ?_
          have hA : PIn (σ 46 7) (σ 46 5) (sp1 + 1, wg1, op1, z1) := hpi.adv (show sp1 < σ 46 7 by omega)
          have hg := hgo _ hA
          refine x_aload_n (pc := 30) hC dX12_every_30 rfl ?_
          refine x_callV0 (As := []) (Bs := []) (pc := 31) hC (HF (sp1 + 1) wg1 op1 z1 hA hn) wX12_78_12 pX12_factor (by assumption) rfl rfl (by exact Nat.le_of_ble_eq_true rfl) hR (by omega) (by decide) (by decide) rfl dX12_every_31 ?_
          refine x_aload_n (pc := 34) hC dX12_every_34 rfl ?_
          refine x_bipush (pc := 35) hC dX12_every_35 (by decide +kernel) ?_
          refine x_callV0 (As := [_]) (Bs := [_]) (pc := 37) hC (s_emits E hk hw hac hen (sp := ((facF (σ 46 7) (σ 46 5) n) (sp1 + 1, wg1, op1, z1)).1) (wg := ((facF (σ 46 7) (σ 46 5) n) (sp1 + 1, wg1, op1, z1)).2.1) (op := ((facF (σ 46 7) (σ 46 5) n) (sp1 + 1, wg1, op1, z1)).2.2.1) (z := ((facF (σ 46 7) (σ 46 5) n) (sp1 + 1, wg1, op1, z1)).2.2.2) hg.1) wX12_81_12 pX12_emits (by assumption) rfl rfl (by exact Nat.le_of_ble_eq_true rfl) hR (by omega) (by decide) (by decide) rfl dX12_every_37 ?_
          refine x_goto (tgt := 4) (pc := 40) hC dX12_every_40 (by decide) ?_
          have hnn : n = n := rfl
          have he2 : evL (σ 46 7) (σ 46 5) 38 (-2) (facF (σ 46 7) (σ 46 5) n) i (emF (σ 46 5) (-2) ((facF (σ 46 7) (σ 46 5) n) (sp1 + 1, wg1, op1, z1))) = evF (σ 46 7) (σ 46 5) 38 (-2) (facF (σ 46 7) (σ 46 5) n) (sp, wg, op, z) := by
            rw [← he]
            exact (if_pos ⟨show wg1 = 0 by omega, show hereF z1 sp1 (σ 46 7) = 38 by omega⟩).symm
          have hE : PGo (σ 46 7) (σ 46 5) (sp1, wg1, op1, z1) (emF (σ 46 5) (-2) ((facF (σ 46 7) (σ 46 5) n) (sp1 + 1, wg1, op1, z1))) := em_go hg.1 hac (by have := hg.2.1; simp only at this ⊢; omega) hg.2.2.1 hpi (fun w => by have := hg.2.2.2 w; simp only at this ⊢; omega)
          refine ih (emF (σ 46 5) (-2) ((facF (σ 46 7) (σ 46 5) n) (sp1 + 1, wg1, op1, z1))).1 (emF (σ 46 5) (-2) ((facF (σ 46 7) (σ 46 5) n) (sp1 + 1, wg1, op1, z1))).2.1 (emF (σ 46 5) (-2) ((facF (σ 46 7) (σ 46 5) n) (sp1 + 1, wg1, op1, z1))).2.2.1 (emF (σ 46 5) (-2) ((facF (σ 46 7) (σ 46 5) n) (sp1 + 1, wg1, op1, z1))).2.2.2 hE.1 ?_ ?_ he2
          · have e3 := hE.2.2.1
            have e4 := hg.2.2.1
            simp only at e3 e4
            rcases hn with h | h
            · exfalso; omega
            · right; rw [e3]; exact h
          · have e1 := hg.2.1
            rw [emF_1]
            simp only at e1
            omega
  have hg0 := hgo _ hpi
  refine x_aload_n (pc := 0) hC dX12_every_0 rfl ?_
  refine x_callV0 (As := []) (Bs := []) (pc := 1) hC (HF sp wg op z hpi hn) wX12_78_12 pX12_factor (by assumption) rfl rfl (by exact Nat.le_of_ble_eq_true rfl) hR (by omega) (by decide) (by decide) rfl dX12_every_1 ?_
  refine loop 101 ((facF (σ 46 7) (σ 46 5) n) (sp, wg, op, z)).1 ((facF (σ 46 7) (σ 46 5) n) (sp, wg, op, z)).2.1 ((facF (σ 46 7) (σ 46 5) n) (sp, wg, op, z)).2.2.1 ((facF (σ 46 7) (σ 46 5) n) (sp, wg, op, z)).2.2.2 hg0.1 ?_ (by have := hg0.1.1; omega) rfl
  have e3 := hg0.2.2.1
  simp only at e3
  by_cases w : ((facF (σ 46 7) (σ 46 5) n) (sp, wg, op, z)).2.1 = 1
  · exact Or.inl w
  · right
    have w0 : ((facF (σ 46 7) (σ 46 5) n) (sp, wg, op, z)).2.1 = 0 := by have := hg0.1.2.1; omega
    have w1 := (hg0.2.2.2 w0).1
    simp only at w1
    rw [e3]
    omega

set_option maxHeartbeats 4000000 in
set_option maxRecDepth 100000 in
theorem s_some (E : xE) {σ : xM} {ρ : xR} {ks : xKs} (hk : MK ks) (hw : MW ρ) (hac : 0 ≤ σ 46 5 ∧ σ 46 5 ≤ 4) (hen : 0 ≤ σ 46 7 ∧ σ 46 7 ≤ 100) {n : Nat} (HF : ∀ (sp wg op : Int) (z : zS), PIn (σ 46 7) (σ 46 5) (sp, wg, op, z) → (wg = 1 ∨ 5 - op < (n : Int)) → Sp E yX12_factor kX12_factor (5 + 3 * n) 0 0 [.ref 46] (pu σ sp wg op z) ρ ks (Fn none (pu σ (facF (σ 46 7) (σ 46 5) n (sp, wg, op, z)).1 (facF (σ 46 7) (σ 46 5) n (sp, wg, op, z)).2.1 (facF (σ 46 7) (σ 46 5) n (sp, wg, op, z)).2.2.1 (facF (σ 46 7) (σ 46 5) n (sp, wg, op, z)).2.2.2) ρ ks)) (sp wg op : Int) (z : zS) (hpi : PIn (σ 46 7) (σ 46 5) (sp, wg, op, z)) (hn : wg = 1 ∨ 5 - op < (n : Int)) : Sp E yX12_some kX12_some (5 + 3 * n + 2) 0 0 [.ref 46] (pu σ sp wg op z) ρ ks (Fn none (pu σ (evF (σ 46 7) (σ 46 5) 124 (-3) (evF (σ 46 7) (σ 46 5) 38 (-2) (facF (σ 46 7) (σ 46 5) n)) (sp, wg, op, z)).1 (evF (σ 46 7) (σ 46 5) 124 (-3) (evF (σ 46 7) (σ 46 5) 38 (-2) (facF (σ 46 7) (σ 46 5) n)) (sp, wg, op, z)).2.1 (evF (σ 46 7) (σ 46 5) 124 (-3) (evF (σ 46 7) (σ 46 5) 38 (-2) (facF (σ 46 7) (σ 46 5) n)) (sp, wg, op, z)).2.2.1 (evF (σ 46 7) (σ 46 5) 124 (-3) (evF (σ 46 7) (σ 46 5) 38 (-2) (facF (σ 46 7) (σ 46 5) n)) (sp, wg, op, z)).2.2.2) ρ ks) := by
  refine x_enter (own := RX12) (L := [_]) (by decide +kernel) rfl (by exact Nat.le_of_ble_eq_true rfl) rfl (fun p e R s m args below meth c Z hZ hC hR hin => ?_)
  obtain ⟨k46, k47, k48, k49, k50, k51, k52, k53, k54⟩ := id hk
  obtain ⟨w1, w2, w3, w10, w11, w14, w15, w16⟩ := id hw
  have hgo : ∀ t, PIn (σ 46 7) (σ 46 5) t → PGo (σ 46 7) (σ 46 5) t ((evF (σ 46 7) (σ 46 5) 38 (-2) (facF (σ 46 7) (σ 46 5) n)) t) := fun t h => evF_go hac hen.2 (by decide) (fac_go hac hen.2 n) t h
  have loop : ∀ (i : Nat) (sp1 wg1 op1 : Int) (z1 : zS), PIn (σ 46 7) (σ 46 5) (sp1, wg1, op1, z1) → (wg1 = 1 ∨ 5 - op1 < (n : Int)) → σ 46 7 - sp1 < (i : Int) → evL (σ 46 7) (σ 46 5) 124 (-3) (evF (σ 46 7) (σ 46 5) 38 (-2) (facF (σ 46 7) (σ 46 5) n)) i (sp1, wg1, op1, z1) = evF (σ 46 7) (σ 46 5) 124 (-3) (evF (σ 46 7) (σ 46 5) 38 (-2) (facF (σ 46 7) (σ 46 5) n)) (sp, wg, op, z) → X E p e R s m args below meth c Z 0 0 (pu σ sp1 wg1 op1 z1) ρ ks 4 [some (.ref 46)] [] := by
    intro i
    induction i with
    | zero =>
      intro sp1 wg1 op1 z1 hpi hn hi he
      have := hpi.1
      simp only at this
      exfalso; omega
    | succ i ih =>
      intro sp1 wg1 op1 z1 hpi hn hi he
      obtain ⟨hsp, hwg, hop, hct, htp⟩ := id hpi
      simp only at hsp hwg hop hct htp
      have hh := here_in (sp := sp1) (en := σ 46 7) htp hsp.1 hen.2
      refine x_aload_n (pc := 4) hC dX12_some_4 rfl ?_
      refine x_geti (K := 8) (pc := 5) hC fX12_51_12 (by assumption) dX12_some_5 rfl rfl ?_
      rw [pu_8]
      refine x_if_ne (tgt := 43) (pc := 8) hC (by omega) dX12_some_8 (by decide) (fun c8 => ?_) (fun c8 => ?_)
      · refine x_return hC hZ dX12_some_43 (by decide) (by decide) ?_
        refine ⟨rfl, ?_, rfl, rfl⟩
        rw [← he, show evL (σ 46 7) (σ 46 5) 124 (-3) (evF (σ 46 7) (σ 46 5) 38 (-2) (facF (σ 46 7) (σ 46 5) n)) (i + 1) (sp1, wg1, op1, z1) = (sp1, wg1, op1, z1) from if_neg (fun h => by have h1 := h.1; have h2 := h.2; simp only at h1 h2; omega)]
      · refine x_aload_n (pc := 11) hC dX12_some_11 rfl ?_
        refine x_callV1 (As := []) (Bs := []) (pc := 12) hC (s_hereP E hk hw hen (by omega)) wX12_55_12 pX12_here (by assumption) rfl rfl (by exact Nat.le_of_ble_eq_true rfl) hR (by omega) (by decide) (by decide) rfl dX12_some_12 ?_
        refine x_bipush (pc := 15) hC dX12_some_15 (by decide +kernel) ?_
        refine x_icmp_ne (tgt := 43) (pc := 17) hC (by omega) (by omega) dX12_some_17 (by decide) (fun c17 => ?_) (fun c17 => ?_)
        · refine x_return hC hZ dX12_some_43 (by decide) (by decide) ?_
          refine ⟨rfl, ?_, rfl, rfl⟩
          rw [← he, show evL (σ 46 7) (σ 46 5) 124 (-3) (evF (σ 46 7) (σ 46 5) 38 (-2) (facF (σ 46 7) (σ 46 5) n)) (i + 1) (sp1, wg1, op1, z1) = (sp1, wg1, op1, z1) from if_neg (fun h => by have h1 := h.1; have h2 := h.2; simp only at h1 h2; omega)]
        · refine x_aload_n (pc := 20) hC dX12_some_20 rfl ?_
          refine x_dup (pc := 21) hC dX12_some_21 rfl ?_
          refine x_geti (K := 6) (pc := 22) hC fX12_45_12 (by assumption) dX12_some_22 rfl rfl ?_
          rw [pu_6]
          refine x_iconst (pc := 25) hC dX12_some_25 ?_
          refine x_iadd (pc := 26) hC dX12_some_26 ?_
          refine x_puti (K := 6) (pc := 27) hC rfl fX12_45_12 rfl (by assumption) dX12_some_27 rfl ?_
          refine X.mem (pu_w6 _ _ _ _ _ _) ?_
          have hA : PIn (σ 46 7) (σ 46 5) (sp1 + 1, wg1, op1, z1) := hpi.adv (show sp1 < σ 46 7 by omega)
          have hg := hgo _ hA
          refine x_aload_n (pc := 30) hC dX12_some_30 rfl ?_
          refine x_callV0 (As := []) (Bs := []) (pc := 31) hC (s_every E hk hw hac hen HF (sp1 + 1) wg1 op1 z1 hA hn) wX12_98_12 pX12_every (by assumption) rfl rfl (by exact Nat.le_of_ble_eq_true rfl) hR (by omega) (by decide) (by decide) rfl dX12_some_31 ?_
          refine x_aload_n (pc := 34) hC dX12_some_34 rfl ?_
          refine x_bipush (pc := 35) hC dX12_some_35 (by decide +kernel) ?_
          refine x_callV0 (As := [_]) (Bs := [_]) (pc := 37) hC (s_emits E hk hw hac hen (sp := ((evF (σ 46 7) (σ 46 5) 38 (-2) (facF (σ 46 7) (σ 46 5) n)) (sp1 + 1, wg1, op1, z1)).1) (wg := ((evF (σ 46 7) (σ 46 5) 38 (-2) (facF (σ 46 7) (σ 46 5) n)) (sp1 + 1, wg1, op1, z1)).2.1) (op := ((evF (σ 46 7) (σ 46 5) 38 (-2) (facF (σ 46 7) (σ 46 5) n)) (sp1 + 1, wg1, op1, z1)).2.2.1) (z := ((evF (σ 46 7) (σ 46 5) 38 (-2) (facF (σ 46 7) (σ 46 5) n)) (sp1 + 1, wg1, op1, z1)).2.2.2) hg.1) wX12_81_12 pX12_emits (by assumption) rfl rfl (by exact Nat.le_of_ble_eq_true rfl) hR (by omega) (by decide) (by decide) rfl dX12_some_37 ?_
          refine x_goto (tgt := 4) (pc := 40) hC dX12_some_40 (by decide) ?_
          have hnn : n = n := rfl
          have he2 : evL (σ 46 7) (σ 46 5) 124 (-3) (evF (σ 46 7) (σ 46 5) 38 (-2) (facF (σ 46 7) (σ 46 5) n)) i (emF (σ 46 5) (-3) ((evF (σ 46 7) (σ 46 5) 38 (-2) (facF (σ 46 7) (σ 46 5) n)) (sp1 + 1, wg1, op1, z1))) = evF (σ 46 7) (σ 46 5) 124 (-3) (evF (σ 46 7) (σ 46 5) 38 (-2) (facF (σ 46 7) (σ 46 5) n)) (sp, wg, op, z) := by
            rw [← he]
            exact (if_pos ⟨show wg1 = 0 by omega, show hereF z1 sp1 (σ 46 7) = 124 by omega⟩).symm
          have hE : PGo (σ 46 7) (σ 46 5) (sp1, wg1, op1, z1) (emF (σ 46 5) (-3) ((evF (σ 46 7) (σ 46 5) 38 (-2) (facF (σ 46 7) (σ 46 5) n)) (sp1 + 1, wg1, op1, z1))) := em_go hg.1 hac (by have := hg.2.1; simp only at this ⊢; omega) hg.2.2.1 hpi (fun w => by have := hg.2.2.2 w; simp only at this ⊢; omega)
          refine ih (emF (σ 46 5) (-3) ((evF (σ 46 7) (σ 46 5) 38 (-2) (facF (σ 46 7) (σ 46 5) n)) (sp1 + 1, wg1, op1, z1))).1 (emF (σ 46 5) (-3) ((evF (σ 46 7) (σ 46 5) 38 (-2) (facF (σ 46 7) (σ 46 5) n)) (sp1 + 1, wg1, op1, z1))).2.1 (emF (σ 46 5) (-3) ((evF (σ 46 7) (σ 46 5) 38 (-2) (facF (σ 46 7) (σ 46 5) n)) (sp1 + 1, wg1, op1, z1))).2.2.1 (emF (σ 46 5) (-3) ((evF (σ 46 7) (σ 46 5) 38 (-2) (facF (σ 46 7) (σ 46 5) n)) (sp1 + 1, wg1, op1, z1))).2.2.2 hE.1 ?_ ?_ he2
          · have e3 := hE.2.2.1
            have e4 := hg.2.2.1
            simp only at e3 e4
            rcases hn with h | h
            · exfalso; omega
            · right; rw [e3]; exact h
          · have e1 := hg.2.1
            rw [emF_1]
            simp only at e1
            omega
  have hg0 := hgo _ hpi
  refine x_aload_n (pc := 0) hC dX12_some_0 rfl ?_
  refine x_callV0 (As := []) (Bs := []) (pc := 1) hC (s_every E hk hw hac hen HF sp wg op z hpi hn) wX12_98_12 pX12_every (by assumption) rfl rfl (by exact Nat.le_of_ble_eq_true rfl) hR (by omega) (by decide) (by decide) rfl dX12_some_1 ?_
  refine loop 101 ((evF (σ 46 7) (σ 46 5) 38 (-2) (facF (σ 46 7) (σ 46 5) n)) (sp, wg, op, z)).1 ((evF (σ 46 7) (σ 46 5) 38 (-2) (facF (σ 46 7) (σ 46 5) n)) (sp, wg, op, z)).2.1 ((evF (σ 46 7) (σ 46 5) 38 (-2) (facF (σ 46 7) (σ 46 5) n)) (sp, wg, op, z)).2.2.1 ((evF (σ 46 7) (σ 46 5) 38 (-2) (facF (σ 46 7) (σ 46 5) n)) (sp, wg, op, z)).2.2.2 hg0.1 ?_ (by have := hg0.1.1; omega) rfl
  have e3 := hg0.2.2.1
  simp only at e3
  by_cases w : ((evF (σ 46 7) (σ 46 5) 38 (-2) (facF (σ 46 7) (σ 46 5) n)) (sp, wg, op, z)).2.1 = 1
  · exact Or.inl w
  · right
    have w0 : ((evF (σ 46 7) (σ 46 5) 38 (-2) (facF (σ 46 7) (σ 46 5) n)) (sp, wg, op, z)).2.1 = 0 := by have := hg0.1.2.1; omega
    have w1 := (hg0.2.2.2 w0).1
    simp only at w1
    rw [e3]
    omega
