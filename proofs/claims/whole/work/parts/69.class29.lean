/-! a fan's cell is written -/
theorem kci_ne (k : Int) : kci k ≠ 1 ∧ kci k ≠ 4 ∧ kci k ≠ 5 := by
  unfold kci
  (repeat' split) <;> decide
theorem kci_not {k : Int} (h : 0 ≤ k ∧ k ≤ 6) (h6 : k ≠ 6) : kci k ∈ xNot := by
  rcases (show k = 0 ∨ k = 1 ∨ k = 2 ∨ k = 3 ∨ k = 4 ∨ k = 5 by omega) with rfl | rfl | rfl | rfl | rfl | rfl <;> decide
theorem HZ.fan {σ σ' : xM} {ρ : xR} {ks : xKs} {z z1 : zS} {f : Int} {y : Nat} (h : HZ σ ρ ks 1 z) (h13 : z 13 ≤ 4) (h14 : z 14 ≤ 6) (hf : 0 ≤ f ∧ f < z 13) (hy : ρ 2 f = some y) (h2 : ∀ p, p ≠ y → (p ≠ y + 1 ∨ z (22 + f) ≠ 6) → (p < 37 ∨ 55 ≤ p) → σ' p = σ p) (hfa : FanAt σ' ρ ks y f z1) (hz : ∀ j, (j < 22 ∨ 62 ≤ j) → z1 j = z j)
    (hz2 : ∀ g, 0 ≤ g → g < 4 → g ≠ f → (z1 (22 + g) = z (22 + g) ∧ z1 (26 + g) = z (26 + g) ∧ z1 (30 + g) = z (30 + g) ∧ z1 (34 + g) = z (34 + g) ∧ z1 (38 + g) = z (38 + g) ∧ z1 (42 + g) = z (42 + g)) ∧ ∀ k, 0 ≤ k → k < 4 → z1 (46 + 4 * g + k) = z (46 + 4 * g + k)) (h0 : -1 ≤ z 20) : HZ σ' ρ ks 1 z1 := by
  obtain ⟨⟨a1, a2⟩, a3, ⟨rq, b1, b2, b3⟩, a4, a5, a6, a7, a8, a9, a10⟩ := h
  obtain ⟨y', c1, c2, c3⟩ := a2 f hf.1 hf.2
  cases c1.symm.trans hy
  have hk := kci_ne (z (22 + f))
  have hst : ∀ p, p < 37 → σ' p = σ p := fun p hp => h2 p (by omega) (by omega) (Or.inl hp)
  have hne : ∀ (p : Nat) (x : Nat × Nat), ks[p]? = some x → x ≠ (0, kci (z (22 + f))) → p ≠ y := fun p x hx hn => kne hx c3.1 hn
  have hne1 : ∀ (p : Nat) (x : Nat × Nat), ks[p]? = some x → x ≠ (1, 4) → p ≠ y + 1 ∨ z (22 + f) ≠ 6 := fun p x hx hn => by
    by_cases h6 : z (22 + f) = 6
    · exact Or.inl (kne hx (c3.2.2 h6).1 hn)
    · exact Or.inr h6
  unfold HZ
  rw [hst 1 (by omega), hst (1 + 14) (by omega), hst (1 + 15) (by omega), hst (1 + 16) (by omega), hst (1 + 17) (by omega), hz 13 (by omega), hz 15 (by omega), hz 19 (by omega), hz 0 (by omega), hz 21 (by omega), hz 16 (by omega), hz 17 (by omega), hz 18 (by omega)]
  refine ⟨⟨a1, fun g g0 g1 => ?_⟩, ⟨by rw [hst _ (by omega), hz 14 (by omega)]; exact a3.1, fun j j0 j1 => ?_⟩, ⟨rq, b1, b2, ?_⟩, a4, ⟨a5.1, fun j j0 j1 => by rw [hz _ (by omega)]; exact a5.2 j j0 j1⟩, a6, a7, ⟨a8.1, fun k k0 k1 => by rw [hz _ (by omega), hz _ (by omega), hz _ (by omega)]; exact a8.2 k k0 k1⟩, ⟨a9.1, fun k k0 k1 => by rw [hz _ (by omega), hz _ (by omega)]; exact a9.2 k k0 k1⟩, ⟨a10.1, fun k k0 k1 => by rw [hz _ (by omega), hz _ (by omega), hz _ (by omega)]; exact a10.2 k k0 k1⟩⟩
  · by_cases hgf : g = f
    · subst hgf; exact ⟨y, hy, c2, hfa⟩
    · obtain ⟨q, d1, d2, d3⟩ := a2 g g0 g1
      have hqy : q ≠ y := by
        rintro rfl
        exact hgf (d3.2.1.2.1.symm.trans c3.2.1.2.1)
      obtain ⟨⟨e1, e2, e3, e4, e5, e6⟩, e7⟩ := hz2 g g0 (by omega) hgf
      have hm : FanAt σ' ρ ks q g z := d3.mem (h2 q hqy (hne1 q _ d3.1 (by intro h; simp at h)) (Or.inr d2)) (fun h6 => h2 _ (hne _ _ (d3.2.2 h6).1 (by intro h; simp at h)) (Or.inl (by omega)) (Or.inr (by omega))) rfl rfl (fun _ => rfl)
      refine ⟨q, d1, d2, ?_⟩
      obtain ⟨m1, m2, m3⟩ := hm
      unfold FanAt FZ TZ
      rw [e1, e2, e3, e4, e5, e6]
      refine ⟨m1, m2, fun h6 => ?_⟩
      obtain ⟨t1, t2, t3⟩ := m3 h6
      exact ⟨t1, t2, fun k k0 k1 => by rw [e7 k k0 k1]; exact t3 k k0 k1⟩
  · rw [hz 14 (by omega)] at j1
    rw [hst _ (by omega), hst _ (by omega), hst _ (by omega), hz (62 + j) (by omega), hz (1 + j) (by omega), hz (7 + j) (by omega)]
    exact a3.2 j j0 j1
  · obtain ⟨k0, ⟨k1, k2, k3, k4, k5⟩, -⟩ := b3.1
    refine (b3.mem (σ' := σ') (fun p p1 p2 => ?_) rfl (fun _ _ _ => rfl)).row (hz 20 (by omega)) (fun j hj => hz j (by omega)) h0
    have hpr : p < 37 ∨ 55 ≤ p := by omega
    rcases (show p = rq ∨ p = rq + 1 ∨ p = rq + 2 ∨ p = rq + 3 ∨ p = rq + 4 ∨ p = rq + 5 by omega) with rfl | rfl | rfl | rfl | rfl | rfl
    · exact h2 _ (hne _ _ k0 (by intro h; simp at h; exact hk.2.1 h.symm)) (hne1 _ _ k0 (by decide)) hpr
    · exact h2 _ (hne _ _ k1 (by intro h; simp at h)) (hne1 _ _ k1 (by decide)) hpr
    · exact h2 _ (hne _ _ k2 (by intro h; simp at h)) (hne1 _ _ k2 (by decide)) hpr
    · exact h2 _ (hne _ _ k3 (by intro h; simp at h)) (hne1 _ _ k3 (by decide)) hpr
    · exact h2 _ (hne _ _ k4 (by intro h; simp at h)) (hne1 _ _ k4 (by decide)) hpr
    · refine h2 _ (hne _ _ k5 (by intro h; simp at h)) (Or.inl (fun e => ?_)) hpr
      have e4 : rq + 4 = y := by omega
      exact hne _ _ k4 (by intro h; simp at h) e4
/-- the cells of the hall's fans -/
def FP (ρ : xR) (z : zS) (p : Nat) : Prop := ∃ (f : Int) (y : Nat), (0 ≤ f ∧ f < z 13) ∧ ρ 2 f = some y ∧ (p = y ∨ (p = y + 1 ∧ z (22 + f) = 6))
/-- what a call of the hall leaves -/
def Hx (σ σ' : xM) (ρ : xR) (z : zS) : Prop := ∀ p, (p = 0 ∨ 9 ≤ p ∧ p ≤ 14 ∨ 19 ≤ p) → (p < 37 ∨ 43 < p) → ¬ FP ρ z p → σ' p = σ p
theorem Hx.rf (σ : xM) (ρ : xR) (z : zS) : Hx σ σ ρ z := fun _ _ _ _ => rfl
theorem nF_from (ci : Nat) (h : famC ci) : (xT ci 3).2.2.2 = false := by
  rcases h with rfl | rfl | rfl | rfl | rfl | rfl | rfl <;> rfl
theorem iF_from (ci : Nat) (h : famC ci) : xTy ci 3 = .int := by
  rcases h with rfl | rfl | rfl | rfl | rfl | rfl | rfl <;> rfl
theorem nF_to (ci : Nat) (h : famC ci) : (xT ci 4).2.2.2 = false := by
  rcases h with rfl | rfl | rfl | rfl | rfl | rfl | rfl <;> rfl
theorem iF_to (ci : Nat) (h : famC ci) : xTy ci 4 = .int := by
  rcases h with rfl | rfl | rfl | rfl | rfl | rfl | rfl <;> rfl
theorem nF_pace (ci : Nat) (h : famC ci) : (xT ci 5).2.2.2 = false := by
  rcases h with rfl | rfl | rfl | rfl | rfl | rfl | rfl <;> rfl
theorem iF_pace (ci : Nat) (h : famC ci) : xTy ci 5 = .int := by
  rcases h with rfl | rfl | rfl | rfl | rfl | rfl | rfl <;> rfl
theorem nF_isOn (ci : Nat) (h : famC ci) : (xT ci 6).2.2.2 = false := by
  rcases h with rfl | rfl | rfl | rfl | rfl | rfl | rfl <;> rfl
theorem iF_isOn (ci : Nat) (h : famC ci) : xTy ci 6 = .boolean := by
  rcases h with rfl | rfl | rfl | rfl | rfl | rfl | rfl <;> rfl
set_option maxHeartbeats 4000000 in
set_option maxRecDepth 100000 in
theorem c_turn (E : xE) {σ : xM} {ρ : xR} {ks : xKs} (hw : WK ks ρ) {z : zS} (hz : HZ σ ρ ks 1 z) (hpl : PlOk z) {f a b d : Int} (hf0 : rg f) (ha0 : rg a) (hb0 : rg b) (hd0 : rg d) (ht : z 0 + 100 < 900000) : Sp E yX11_turn kX11_turn 2 0 0 [.ref 0, .int (iI f), .int (iI a), .int (iI b), .int (iI d)] σ ρ ks (fun r σ' ρ' ks' => r = some (.int (iI (turnA z f a b d))) ∧ HZ σ' ρ ks 1 (turnZ z f a b d) ∧ Hx σ σ' ρ z ∧ ρ' = ρ ∧ ks' = ks) := by
  obtain ⟨w0, w43, ⟨wr0, wr1, wr3, wr4, wr5⟩, wh, wk, wn, wt⟩ := id hw
  have hk := wh.hk
  obtain ⟨k1, k2, r0, r2, hs3⟩ := id hk
  have hfs := hz.fans
  have hsz := hz.sit
  obtain ⟨⟨hz1, -⟩, -, ⟨rq, hrq, hrq2, hrm⟩, hz4, ⟨hz6, -⟩, hz7, hz8, ⟨hz10, -⟩, ⟨hz12, -⟩, ⟨hz14, -⟩⟩ := id hz
  have hfan := hpl.1
  have hsit := hpl.2.1
  have h13 := hpl.1.1
  have h14 := hpl.2.1.1
  have hz00 := hpl.2.2.2
  obtain ⟨n0, ⟨n1, n2, n3, n4, n5⟩, m0, m1, m2, m3, m4⟩ := id wn
  refine x_enter (own := RX11) (L := [_, _, _, _, _, _]) (by decide +kernel) rfl (by exact Nat.le_of_ble_eq_true rfl) rfl (fun p e R s m args below meth c Z hZ hC hR hin => ?_)
  by_cases hf : 0 ≤ f ∧ f ≤ z 13 - 1
  · obtain ⟨y, hy, hfa⟩ := hfs.2 f (by omega) (by omega)
    obtain ⟨hyk, hfz, htz⟩ := id hfa
    have hci := kci_fam (z (22 + f))
    obtain ⟨a0, a1, a2, a3, a4, a5, a6⟩ := id hfz
    have hfo := hfan.2 f (by omega) (by omega)
    obtain ⟨b1, b2, b3, b4, b5, b6⟩ := id hfo
    have hf4 : 0 ≤ f ∧ f < 4 := ⟨by omega, by omega⟩
    have hy55 : 55 ≤ y := by
      obtain ⟨q, u1, u2, -⟩ := hz.1.2 f (by omega) (by omega)
      cases u1.symm.trans hy
      exact u2
    refine x_aload_n (pc := 0) hC dX11_turn_0 rfl ?_
    refine x_getr (K := 0) (pc := 1) hC fX11_12_11 (by assumption) dX11_turn_1 rfl rfl (by assumption) ?_
    refine x_iload_n (pc := 4) hC dX11_turn_4 rfl ?_
    refine x_callV1 (As := [_]) (Bs := [_]) (pc := 5) hC (c_fanOf E hk hfs hfan (f := f) ⟨by omega, by omega⟩ hy) wX11_81_1 pX1_fanOf (by assumption) rfl rfl (by exact Nat.le_of_ble_eq_true rfl) hR (by decide) (by decide) (by decide) rfl dX11_turn_5 ?_
    refine x_astore (L' := [_, _, _, _, _, _]) (pc := 8) hC dX11_turn_8 rfl rfl ?_
    refine x_aload (pc := 10) hC dX11_turn_10 rfl ?_
    refine x_ifnonnull_r (tgt := 17) (pc := 12) hC dX11_turn_12 (by decide) ?_
    refine x_iload_n (pc := 17) hC dX11_turn_17 rfl ?_
    refine x_iload_n (pc := 18) hC dX11_turn_18 rfl ?_
    refine x_iload (pc := 19) hC dX11_turn_19 rfl ?_
    refine x_callS1 (As := [_, _, _]) (Bs := [_, _, _]) (pc := 21) hC (c_isSetting E (by omega) (by omega) (by omega)) wX11_66 pX11_isSetting rfl rfl (by exact Nat.le_of_ble_eq_true rfl) hR (by decide) (by decide) (by decide) rfl dX11_turn_21 ?_
    refine x_ifB_ne (tgt := 30) (pc := 24) hC  dX11_turn_24 (by decide) (fun c24 => ?_) (fun c24 => ?_)
    · refine x_aload (pc := 30) hC dX11_turn_30 rfl ?_
      refine x_iload_n (pc := 32) hC dX11_turn_32 rfl ?_
      refine x_puti (K := 3) (pc := 33) hC rfl (fFX11_93 _ hci) (nF_from _ hci) (by assumption) dX11_turn_33 (iF_from _ hci) ?_
      refine x_aload (pc := 36) hC dX11_turn_36 rfl ?_
      refine x_iload_n (pc := 38) hC dX11_turn_38 rfl ?_
      refine x_puti (K := 4) (pc := 39) hC rfl (fFX11_96 _ hci) (nF_to _ hci) (by assumption) dX11_turn_39 (iF_to _ hci) ?_
      refine x_aload (pc := 42) hC dX11_turn_42 rfl ?_
      refine x_iload (pc := 44) hC dX11_turn_44 rfl ?_
      refine x_puti (K := 5) (pc := 46) hC rfl (fFX11_99 _ hci) (nF_pace _ hci) (by assumption) dX11_turn_46 (iF_pace _ hci) ?_
      obtain ⟨z1, hz1e⟩ : ∃ z1, z1 = turnY z f a b d := ⟨_, rfl⟩
      have hu : ∀ j, j ≠ 30 + f → j ≠ 34 + f → j ≠ 38 + f → z1 j = z j := fun j h1 h2 h3 => by rw [hz1e]; unfold turnY; rw [up_ne _ h3, up_ne _ h2, up_ne _ h1]
      refine X.gen (P := fun σ2 => (∀ p, p ≠ y → σ2 p = σ p) ∧ FZ σ2 y f z1) ⟨fun p hp => by rw [wr_of _ hp, wr_of _ hp, wr_of _ hp], ?_⟩ (fun σ2 h2 => ?_)
      · unfold FZ
        rw [hz1e]
        unfold turnY
        simp (disch := omega) only [wr_eq, wr_k, up_eq, up_ne]
        exact ⟨a0, a1, a2, trivial, trivial, trivial, a6⟩
      obtain ⟨hm, hfz1⟩ := h2
      have hfa1 : FanAt σ2 ρ ks y f z1 := ⟨by rw [hu _ (by omega) (by omega) (by omega)]; exact hyk, hfz1, fun h6 => by
        rw [hu _ (by omega) (by omega) (by omega)] at h6
        obtain ⟨t1, t2, t3⟩ := htz h6
        exact ⟨t1, t2, fun k k0 k1 => by rw [hm _ (by omega), hu _ (by omega) (by omega) (by omega)]; exact t3 k k0 k1⟩⟩
      have hz1 : HZ σ2 ρ ks 1 z1 := hz.fan h13.2 h14.2 (f := f) ⟨by omega, by omega⟩ hy (fun p h1 _ _ => hm p h1) hfa1 (fun j hj => hu j (by omega) (by omega) (by omega)) (fun g g0 g1 hg => ⟨⟨hu _ (by omega) (by omega) (by omega), hu _ (by omega) (by omega) (by omega), hu _ (by omega) (by omega) (by omega), hu _ (by omega) (by omega) (by omega), hu _ (by omega) (by omega) (by omega), hu _ (by omega) (by omega) (by omega)⟩, fun k k0 k1 => hu _ (by omega) (by omega) (by omega)⟩) hpl.2.2.1.1.1
      have hfo1 : FanOk z1 f := by rw [hz1e]; exact turnY_fan hfo hf4 c24
      have hsit1 : SitOk z1 := by rw [hz1e]; exact turnY_sit hsit hf4
      have hsz1 := hz1.sit
      have hs17 : σ2 1 7 = z 0 := by rw [hm 1 (by omega)]; exact hz7
      refine x_aload (pc := 49) hC dX11_turn_49 rfl ?_
      refine x_aload_n (pc := 51) hC dX11_turn_51 rfl ?_
      refine x_getr (K := 0) (pc := 52) hC fX11_12_11 (by assumption) dX11_turn_52 rfl rfl (by assumption) ?_
      refine x_geti (K := 7) (pc := 55) hC fX11_105_1 (by assumption) dX11_turn_55 rfl rfl ?_
      rw [hs17]
      refine x_aload_n (pc := 58) hC dX11_turn_58 rfl ?_
      refine x_getr (K := 0) (pc := 59) hC fX11_12_11 (by assumption) dX11_turn_59 rfl rfl (by assumption) ?_
      refine x_getr (K := 2) (pc := 62) hC fX11_108_1 (by assumption) dX11_turn_62 rfl rfl (by assumption) ?_
      refine x_fanX11_111 (pc := 65) hC hfa1 hfo1 hf4 hs3 hsz1 hsit1 ⟨by omega, by omega⟩ hR (by decide) (by exact Nat.le_of_ble_eq_true rfl) (by decide) rfl dX11_turn_65 ?_
      refine x_ireturn hC hZ dX11_turn_68 (by decide) (by decide) ?_
      refine ⟨congrArg (fun z => some (Value.int (iI z))) ?_, ?_, fun p p1 p2 p3 => hm p (fun e => p3 ⟨f, y, ⟨by omega, by omega⟩, hy, Or.inl e⟩), rfl, rfl⟩
      · unfold turnA
        rw [if_neg (by omega), if_neg (fun h => h c24), ← hz1e]
      · unfold turnZ
        rw [if_neg (by omega), if_neg (fun h => h c24), ← hz1e]
        exact hz1
    · refine x_bipush (pc := 27) hC dX11_turn_27 (by decide +kernel) ?_
      refine x_ireturn hC hZ dX11_turn_29 (by decide) (by decide) ?_
      refine ⟨congrArg (fun z => some (Value.int (iI z))) ?_, ?_, Hx.rf _ _ _, rfl, rfl⟩
      · unfold turnA
        (repeat (first | rw [if_pos (by omega)] | rw [if_neg (by omega)]))
        all_goals (first | rfl | omega | assumption)
      · unfold turnZ
        (repeat (first | rw [if_pos (by omega)] | rw [if_neg (by omega)]))
        exact hz
  · refine x_aload_n (pc := 0) hC dX11_turn_0 rfl ?_
    refine x_getr (K := 0) (pc := 1) hC fX11_12_11 (by assumption) dX11_turn_1 rfl rfl (by assumption) ?_
    refine x_iload_n (pc := 4) hC dX11_turn_4 rfl ?_
    refine x_callV1 (As := [_]) (Bs := [_]) (pc := 5) hC (c_fanOfN E hk hfs hfan (f := f) hf0 hf) wX11_81_1 pX1_fanOf (by assumption) rfl rfl (by exact Nat.le_of_ble_eq_true rfl) hR (by decide) (by decide) (by decide) rfl dX11_turn_5 ?_
    refine x_astoreN (L' := [_, _, _, _, _, _]) (pc := 8) hC dX11_turn_8 rfl rfl ?_
    refine x_aloadN (pc := 10) hC dX11_turn_10 rfl ?_
    refine x_ifnonnull_n (pc := 12) hC dX11_turn_12 ?_
    refine x_iconst (pc := 15) hC dX11_turn_15 ?_
    refine x_ireturn hC hZ dX11_turn_16 (by decide) (by decide) ?_
    refine ⟨congrArg (fun z => some (Value.int (iI z))) ?_, ?_, Hx.rf _ _ _, rfl, rfl⟩
    · unfold turnA
      (repeat (first | rw [if_pos (by omega)] | rw [if_neg (by omega)]))
      all_goals (first | rfl | omega | assumption)
    · unfold turnZ
      (repeat (first | rw [if_pos (by omega)] | rw [if_neg (by omega)]))
      exact hz

set_option maxHeartbeats 4000000 in
set_option maxRecDepth 100000 in
theorem c_on (E : xE) {σ : xM} {ρ : xR} {ks : xKs} (hw : WK ks ρ) {z : zS} (hz : HZ σ ρ ks 1 z) (hpl : PlOk z) {f b : Int} (hf0 : rg f) (hb0 : b = 0 ∨ b = 1) : Sp E yX11_on kX11_on 2 0 0 [.ref 0, .int (iI f), .int (iI b)] σ ρ ks (fun r σ' ρ' ks' => r = some (.int (iI (onA z f))) ∧ HZ σ' ρ ks 1 (onZ z f b) ∧ Hx σ σ' ρ z ∧ ρ' = ρ ∧ ks' = ks) := by
  obtain ⟨w0, w43, ⟨wr0, wr1, wr3, wr4, wr5⟩, wh, wk, wn, wt⟩ := id hw
  have hk := wh.hk
  obtain ⟨k1, k2, r0, r2, hs3⟩ := id hk
  have hfs := hz.fans
  have hsz := hz.sit
  obtain ⟨⟨hz1, -⟩, -, ⟨rq, hrq, hrq2, hrm⟩, hz4, ⟨hz6, -⟩, hz7, hz8, ⟨hz10, -⟩, ⟨hz12, -⟩, ⟨hz14, -⟩⟩ := id hz
  have hfan := hpl.1
  have hsit := hpl.2.1
  have h13 := hpl.1.1
  have h14 := hpl.2.1.1
  have hz00 := hpl.2.2.2
  obtain ⟨n0, ⟨n1, n2, n3, n4, n5⟩, m0, m1, m2, m3, m4⟩ := id wn
  refine x_enter (own := RX11) (L := [_, _, _, _, _]) (by decide +kernel) rfl (by exact Nat.le_of_ble_eq_true rfl) rfl (fun p e R s m args below meth c Z hZ hC hR hin => ?_)
  by_cases hf : 0 ≤ f ∧ f ≤ z 13 - 1
  · obtain ⟨y, hy, hfa⟩ := hfs.2 f (by omega) (by omega)
    obtain ⟨hyk, hfz, htz⟩ := id hfa
    have hci := kci_fam (z (22 + f))
    obtain ⟨a0, a1, a2, a3, a4, a5, a6⟩ := id hfz
    have hfo := hfan.2 f (by omega) (by omega)
    obtain ⟨b1, b2, b3, b4, b5, b6⟩ := id hfo
    have hf4 : 0 ≤ f ∧ f < 4 := ⟨by omega, by omega⟩
    have hy55 : 55 ≤ y := by
      obtain ⟨q, u1, u2, -⟩ := hz.1.2 f (by omega) (by omega)
      cases u1.symm.trans hy
      exact u2
    refine x_aload_n (pc := 0) hC dX11_on_0 rfl ?_
    refine x_getr (K := 0) (pc := 1) hC fX11_12_11 (by assumption) dX11_on_1 rfl rfl (by assumption) ?_
    refine x_iload_n (pc := 4) hC dX11_on_4 rfl ?_
    refine x_callV1 (As := [_]) (Bs := [_]) (pc := 5) hC (c_fanOf E hk hfs hfan (f := f) ⟨by omega, by omega⟩ hy) wX11_81_1 pX1_fanOf (by assumption) rfl rfl (by exact Nat.le_of_ble_eq_true rfl) hR (by decide) (by decide) (by decide) rfl dX11_on_5 ?_
    refine x_astore_n (L' := [_, _, _, _, _]) (pc := 8) hC dX11_on_8 rfl rfl ?_
    refine x_aload_n (pc := 9) hC dX11_on_9 rfl ?_
    refine x_ifnonnull_r (tgt := 15) (pc := 10) hC dX11_on_10 (by decide) ?_
    refine x_aload_n (pc := 15) hC dX11_on_15 rfl ?_
    refine x_geti (K := 6) (pc := 16) hC (fFX11_102 _ hci) (by assumption) dX11_on_16 (tF_isOn _ hci) rfl ?_
    refine x_if_eq (tgt := 26) (pc := 19) hC (by rw [a6]; omega) dX11_on_19 (by decide) (fun c19 => ?_) (fun c19 => ?_)
    · refine x_iconst (pc := 26) hC dX11_on_26 ?_
      refine x_istore (L' := [_, _, _, _, _]) (pc := 27) hC dX11_on_27 rfl rfl ?_
      refine x_aload_n (pc := 29) hC dX11_on_29 rfl ?_
      refine x_iload_n (pc := 30) hC dX11_on_30 rfl ?_
      refine x_putz (K := 6) (pc := 31) hC rfl (fFX11_102 _ hci) (nF_isOn _ hci) (by assumption) dX11_on_31 (iF_isOn _ hci) (by omega) ?_
      obtain ⟨z1, hz1e⟩ : ∃ z1, z1 = up z (42 + f) b := ⟨_, rfl⟩
      have hu : ∀ j, j ≠ 42 + f → z1 j = z j := fun j h1 => by rw [hz1e]; exact up_ne _ h1 _
      refine X.gen (P := fun σ2 => (∀ p, p ≠ y → σ2 p = σ p) ∧ FZ σ2 y f z1) ⟨fun p hp => wr_of _ hp _ _, ?_⟩ (fun σ2 h2 => ?_)
      · unfold FZ
        rw [hz1e]
        simp (disch := omega) only [wr_eq, wr_k, up_eq, up_ne]
        exact ⟨a0, a1, a2, a3, a4, a5, trivial⟩
      obtain ⟨hm, hfz1⟩ := h2
      have hfa1 : FanAt σ2 ρ ks y f z1 := ⟨by rw [hu _ (by omega)]; exact hyk, hfz1, fun h6 => by
        rw [hu _ (by omega)] at h6
        obtain ⟨t1, t2, t3⟩ := htz h6
        exact ⟨t1, t2, fun k k0 k1 => by rw [hm _ (by omega), hu _ (by omega)]; exact t3 k k0 k1⟩⟩
      have hz1 : HZ σ2 ρ ks 1 z1 := hz.fan h13.2 h14.2 (f := f) ⟨by omega, by omega⟩ hy (fun p h1 _ _ => hm p h1) hfa1 (fun j hj => hu j (by omega)) (fun g g0 g1 hg => ⟨⟨hu _ (by omega), hu _ (by omega), hu _ (by omega), hu _ (by omega), hu _ (by omega), hu _ (by omega)⟩, fun k k0 k1 => hu _ (by omega)⟩) hpl.2.2.1.1.1
      refine x_iload (pc := 34) hC dX11_on_34 rfl ?_
      refine x_ireturn hC hZ dX11_on_36 (by decide) (by decide) ?_
      refine ⟨congrArg (fun z => some (Value.int (iI z))) ?_, ?_, fun p p1 p2 p3 => hm p (fun e => p3 ⟨f, y, ⟨by omega, by omega⟩, hy, Or.inl e⟩), rfl, rfl⟩
      · unfold onA
        rw [if_neg (by omega)]
        omega
      · unfold onZ
        rw [if_neg (by omega), show (if b = 0 then 0 else 1 : Int) = b by rcases hb0 with h | h <;> rw [h] <;> rfl, ← hz1e]
        exact hz1
    · refine x_iconst (pc := 22) hC dX11_on_22 ?_
      refine x_goto (tgt := 27) (pc := 23) hC dX11_on_23 (by decide) ?_
      refine x_istore (L' := [_, _, _, _, _]) (pc := 27) hC dX11_on_27 rfl rfl ?_
      refine x_aload_n (pc := 29) hC dX11_on_29 rfl ?_
      refine x_iload_n (pc := 30) hC dX11_on_30 rfl ?_
      refine x_putz (K := 6) (pc := 31) hC rfl (fFX11_102 _ hci) (nF_isOn _ hci) (by assumption) dX11_on_31 (iF_isOn _ hci) (by omega) ?_
      obtain ⟨z1, hz1e⟩ : ∃ z1, z1 = up z (42 + f) b := ⟨_, rfl⟩
      have hu : ∀ j, j ≠ 42 + f → z1 j = z j := fun j h1 => by rw [hz1e]; exact up_ne _ h1 _
      refine X.gen (P := fun σ2 => (∀ p, p ≠ y → σ2 p = σ p) ∧ FZ σ2 y f z1) ⟨fun p hp => wr_of _ hp _ _, ?_⟩ (fun σ2 h2 => ?_)
      · unfold FZ
        rw [hz1e]
        simp (disch := omega) only [wr_eq, wr_k, up_eq, up_ne]
        exact ⟨a0, a1, a2, a3, a4, a5, trivial⟩
      obtain ⟨hm, hfz1⟩ := h2
      have hfa1 : FanAt σ2 ρ ks y f z1 := ⟨by rw [hu _ (by omega)]; exact hyk, hfz1, fun h6 => by
        rw [hu _ (by omega)] at h6
        obtain ⟨t1, t2, t3⟩ := htz h6
        exact ⟨t1, t2, fun k k0 k1 => by rw [hm _ (by omega), hu _ (by omega)]; exact t3 k k0 k1⟩⟩
      have hz1 : HZ σ2 ρ ks 1 z1 := hz.fan h13.2 h14.2 (f := f) ⟨by omega, by omega⟩ hy (fun p h1 _ _ => hm p h1) hfa1 (fun j hj => hu j (by omega)) (fun g g0 g1 hg => ⟨⟨hu _ (by omega), hu _ (by omega), hu _ (by omega), hu _ (by omega), hu _ (by omega), hu _ (by omega)⟩, fun k k0 k1 => hu _ (by omega)⟩) hpl.2.2.1.1.1
      refine x_iload (pc := 34) hC dX11_on_34 rfl ?_
      refine x_ireturn hC hZ dX11_on_36 (by decide) (by decide) ?_
      refine ⟨congrArg (fun z => some (Value.int (iI z))) ?_, ?_, fun p p1 p2 p3 => hm p (fun e => p3 ⟨f, y, ⟨by omega, by omega⟩, hy, Or.inl e⟩), rfl, rfl⟩
      · unfold onA
        rw [if_neg (by omega)]
        omega
      · unfold onZ
        rw [if_neg (by omega), show (if b = 0 then 0 else 1 : Int) = b by rcases hb0 with h | h <;> rw [h] <;> rfl, ← hz1e]
        exact hz1
  · refine x_aload_n (pc := 0) hC dX11_on_0 rfl ?_
    refine x_getr (K := 0) (pc := 1) hC fX11_12_11 (by assumption) dX11_on_1 rfl rfl (by assumption) ?_
    refine x_iload_n (pc := 4) hC dX11_on_4 rfl ?_
    refine x_callV1 (As := [_]) (Bs := [_]) (pc := 5) hC (c_fanOfN E hk hfs hfan (f := f) hf0 hf) wX11_81_1 pX1_fanOf (by assumption) rfl rfl (by exact Nat.le_of_ble_eq_true rfl) hR (by decide) (by decide) (by decide) rfl dX11_on_5 ?_
    refine x_astoreN_n (L' := [_, _, _, _, _]) (pc := 8) hC dX11_on_8 rfl rfl ?_
    refine x_aloadN_n (pc := 9) hC dX11_on_9 rfl ?_
    refine x_ifnonnull_n (pc := 10) hC dX11_on_10 ?_
    refine x_iconst (pc := 13) hC dX11_on_13 ?_
    refine x_ireturn hC hZ dX11_on_14 (by decide) (by decide) ?_
    refine ⟨congrArg (fun z => some (Value.int (iI z))) ?_, ?_, Hx.rf _ _ _, rfl, rfl⟩
    · unfold onA
      (repeat (first | rw [if_pos (by omega)] | rw [if_neg (by omega)]))
      all_goals (first | rfl | omega | assumption)
    · unfold onZ
      (repeat (first | rw [if_pos (by omega)] | rw [if_neg (by omega)]))
      exact hz

set_option maxHeartbeats 4000000 in
set_option maxRecDepth 100000 in
theorem c_row (E : xE) {σ : xM} {ρ : xR} {ks : xKs} (hw : WK ks ρ) {z : zS} (hz : HZ σ ρ ks 1 z) (hpl : PlOk z) {f k n : Int} (hf0 : rg f) (hk0 : rg k) (hn0 : rg n) : Sp E yX11_row kX11_row 2 0 0 [.ref 0, .int (iI f), .int (iI k), .int (iI n)] σ ρ ks (fun r σ' ρ' ks' => r = some (.int (iI (rowA z f k n))) ∧ HZ σ' ρ ks 1 (rowZ z f k n) ∧ Hx σ σ' ρ z ∧ ρ' = ρ ∧ ks' = ks) := by
  obtain ⟨w0, w43, ⟨wr0, wr1, wr3, wr4, wr5⟩, wh, wk, wn, wt⟩ := id hw
  have hk := wh.hk
  obtain ⟨k1, k2, r0, r2, hs3⟩ := id hk
  have hfs := hz.fans
  have hsz := hz.sit
  obtain ⟨⟨hz1, -⟩, -, ⟨rq, hrq, hrq2, hrm⟩, hz4, ⟨hz6, -⟩, hz7, hz8, ⟨hz10, -⟩, ⟨hz12, -⟩, ⟨hz14, -⟩⟩ := id hz
  have hfan := hpl.1
  have hsit := hpl.2.1
  have h13 := hpl.1.1
  have h14 := hpl.2.1.1
  have hz00 := hpl.2.2.2
  obtain ⟨n0, ⟨n1, n2, n3, n4, n5⟩, m0, m1, m2, m3, m4⟩ := id wn
  refine x_enter (own := RX11) (L := [_, _, _, _, _, _, _]) (by decide +kernel) rfl (by exact Nat.le_of_ble_eq_true rfl) rfl (fun p e R s m args below meth c Z hZ hC hR hin => ?_)
  by_cases hf : 0 ≤ f ∧ f ≤ z 13 - 1
  · obtain ⟨y, hy, hfa⟩ := hfs.2 f (by omega) (by omega)
    obtain ⟨hyk, hfz, htz⟩ := id hfa
    have hci := kci_fam (z (22 + f))
    obtain ⟨a0, a1, a2, a3, a4, a5, a6⟩ := id hfz
    have hfo := hfan.2 f (by omega) (by omega)
    obtain ⟨b1, b2, b3, b4, b5, b6⟩ := id hfo
    have hf4 : 0 ≤ f ∧ f < 4 := ⟨by omega, by omega⟩
    have hy55 : 55 ≤ y := by
      obtain ⟨q, u1, u2, -⟩ := hz.1.2 f (by omega) (by omega)
      cases u1.symm.trans hy
      exact u2
    by_cases h6 : z (22 + f) = 6
    · have hy7 : ks[y]? = some (0, 7) := by rw [hyk, h6]; rfl
      obtain ⟨t1, t2, t3⟩ := htz h6
      refine x_aload_n (pc := 0) hC dX11_row_0 rfl ?_
      refine x_getr (K := 0) (pc := 1) hC fX11_12_11 (by assumption) dX11_row_1 rfl rfl (by assumption) ?_
      refine x_iload_n (pc := 4) hC dX11_row_4 rfl ?_
      refine x_callV1 (As := [_]) (Bs := [_]) (pc := 5) hC (c_fanOf E hk hfs hfan (f := f) ⟨by omega, by omega⟩ hy) wX11_81_1 pX1_fanOf (by assumption) rfl rfl (by exact Nat.le_of_ble_eq_true rfl) hR (by decide) (by decide) (by decide) rfl dX11_row_5 ?_
      refine x_astore (L' := [_, _, _, _, _, _, _]) (pc := 8) hC dX11_row_8 rfl rfl ?_
      refine x_aload (pc := 10) hC dX11_row_10 rfl ?_
      refine x_ifnull_r (pc := 12) hC dX11_row_12 ?_
      refine x_iload_n (pc := 15) hC dX11_row_15 rfl ?_
      refine x_if_lt (tgt := 24) (pc := 16) hC (by omega) dX11_row_16 (by decide) (fun c16 => ?_) (fun c16 => ?_)
      · refine x_iconst (pc := 24) hC dX11_row_24 ?_
        refine x_ireturn hC hZ dX11_row_25 (by decide) (by decide) ?_
        refine ⟨congrArg (fun z => some (Value.int (iI z))) ?_, ?_, Hx.rf _ _ _, rfl, rfl⟩
        · unfold rowA
          (repeat (first | rw [if_pos (by omega)] | rw [if_neg (by omega)]))
          all_goals (first | rfl | omega | assumption)
        · unfold rowZ
          (repeat (first | rw [if_pos (by omega)] | rw [if_neg (by omega)]))
          exact hz
      · refine x_iload_n (pc := 19) hC dX11_row_19 rfl ?_
        refine x_iconst (pc := 20) hC dX11_row_20 ?_
        refine x_icmp_le (tgt := 26) (pc := 21) hC (by omega) (by omega) dX11_row_21 (by decide) (fun c21 => ?_) (fun c21 => ?_)
        · refine x_iload_n (pc := 26) hC dX11_row_26 rfl ?_
          refine x_callS1 (As := [_]) (Bs := [_]) (pc := 27) hC (c_isPlace E (by omega)) wX11_115 pX11_isPlace rfl rfl (by exact Nat.le_of_ble_eq_true rfl) hR (by decide) (by decide) (by decide) rfl dX11_row_27 ?_
          refine x_ifB_ne (tgt := 36) (pc := 30) hC  dX11_row_30 (by decide) (fun c30 => ?_) (fun c30 => ?_)
          · refine x_aload (pc := 36) hC dX11_row_36 rfl ?_
            refine x_instY (pc := 38) hC nX11_119 (by assumption) dX11_row_38 ?_
            refine x_if_eq (tgt := 71) (pc := 41) hC (by omega) dX11_row_41 (by decide) (fun c41 => by (exfalso; omega)) (fun c41 => ?_)
            refine x_aload (pc := 44) hC dX11_row_44 rfl ?_
            refine x_cast (pc := 46) hC nX11_119 (by assumption) dX11_row_46 ?_
            refine x_astore (L' := [_, _, _, _, _, _, _]) (pc := 49) hC dX11_row_49 rfl rfl ?_
            refine x_aload (pc := 51) hC dX11_row_51 rfl ?_
            refine x_getr (K := 7) (pc := 53) hC fX11_121_7 (by assumption) dX11_row_53 rfl rfl (by assumption) ?_
            refine x_iload_n (pc := 56) hC dX11_row_56 rfl ?_
            refine x_iald (pc := 57) hC (by assumption) (by omega) dX11_row_57 ?_
            refine x_istore (L' := [_, _, _, _, _, _, _]) (pc := 58) hC dX11_row_58 rfl rfl ?_
            refine x_aload (pc := 60) hC dX11_row_60 rfl ?_
            refine x_getr (K := 7) (pc := 62) hC fX11_121_7 (by assumption) dX11_row_62 rfl rfl (by assumption) ?_
            refine x_iload_n (pc := 65) hC dX11_row_65 rfl ?_
            refine x_iload_n (pc := 66) hC dX11_row_66 rfl ?_
            refine x_iast (pc := 67) hC (by assumption) (by omega) dX11_row_67 ?_
            obtain ⟨z1, hz1e⟩ : ∃ z1, z1 = up z (46 + 4 * f + k) n := ⟨_, rfl⟩
            have hu : ∀ j, j ≠ 46 + 4 * f + k → z1 j = z j := fun j h1 => by rw [hz1e]; exact up_ne _ h1 _
            refine X.gen (P := fun σ2 => (∀ p, p ≠ y + 1 → σ2 p = σ p) ∧ ∀ x, 0 ≤ x → x < 4 → σ2 (y + 1) x = z1 (46 + 4 * f + x)) ⟨fun p hp => wr_of _ hp _ _, fun x x0 x1 => ?_⟩ (fun σ2 h2 => ?_)
            · by_cases hxk : x = k
              · subst hxk; rw [wr_eq, hz1e, up_eq]
              · rw [wr_k _ _ _ hxk, hu _ (by omega)]; exact t3 x x0 x1
            obtain ⟨hm, hpl1⟩ := h2
            have hfa1 : FanAt σ2 ρ ks y f z1 := ⟨by rw [hu _ (by omega)]; exact hyk, by
              unfold FZ
              rw [hm y (by omega), hu _ (by omega), hu _ (by omega), hu _ (by omega), hu _ (by omega), hu _ (by omega), hu _ (by omega)]
              exact ⟨a0, a1, a2, a3, a4, a5, a6⟩, fun _ => ⟨t1, t2, hpl1⟩⟩
            have hz1 : HZ σ2 ρ ks 1 z1 := hz.fan h13.2 h14.2 (f := f) ⟨by omega, by omega⟩ hy (fun p h1 h2 _ => hm p (h2.elim id (fun q => absurd h6 q))) hfa1 (fun j hj => hu j (by omega)) (fun g g0 g1 hg => ⟨⟨hu _ (by omega), hu _ (by omega), hu _ (by omega), hu _ (by omega), hu _ (by omega), hu _ (by omega)⟩, fun x x0 x1 => hu _ (by omega)⟩) hpl.2.2.1.1.1
            refine x_iload (pc := 68) hC dX11_row_68 rfl ?_
            refine x_ireturn hC hZ dX11_row_70 (by decide) (by decide) ?_
            refine ⟨congrArg (fun z => some (Value.int (iI z))) ?_, ?_, fun p p1 p2 p3 => hm p (fun e => p3 ⟨f, y, ⟨by omega, by omega⟩, hy, Or.inr ⟨e, h6⟩⟩), rfl, rfl⟩
            · unfold rowA
              rw [if_neg (by omega), if_neg (by omega), if_neg (by omega)]
              exact t3 k (by omega) (by omega)
            · unfold rowZ
              rw [if_neg (by omega), if_neg (by omega), if_neg (by omega), ← hz1e]
              exact hz1
          · refine x_bipush (pc := 33) hC dX11_row_33 (by decide +kernel) ?_
            refine x_ireturn hC hZ dX11_row_35 (by decide) (by decide) ?_
            refine ⟨congrArg (fun z => some (Value.int (iI z))) ?_, ?_, Hx.rf _ _ _, rfl, rfl⟩
            · unfold rowA
              (repeat (first | rw [if_pos (by omega)] | rw [if_neg (by omega)]))
              all_goals (first | rfl | omega | assumption)
            · unfold rowZ
              (repeat (first | rw [if_pos (by omega)] | rw [if_neg (by omega)]))
              exact hz
        · refine x_iconst (pc := 24) hC dX11_row_24 ?_
          refine x_ireturn hC hZ dX11_row_25 (by decide) (by decide) ?_
          refine ⟨congrArg (fun z => some (Value.int (iI z))) ?_, ?_, Hx.rf _ _ _, rfl, rfl⟩
          · unfold rowA
            (repeat (first | rw [if_pos (by omega)] | rw [if_neg (by omega)]))
            all_goals (first | rfl | omega | assumption)
          · unfold rowZ
            (repeat (first | rw [if_pos (by omega)] | rw [if_neg (by omega)]))
            exact hz
    · have hnot := kci_not (k := z (22 + f)) (by omega) h6
      refine x_aload_n (pc := 0) hC dX11_row_0 rfl ?_
      refine x_getr (K := 0) (pc := 1) hC fX11_12_11 (by assumption) dX11_row_1 rfl rfl (by assumption) ?_
      refine x_iload_n (pc := 4) hC dX11_row_4 rfl ?_
      refine x_callV1 (As := [_]) (Bs := [_]) (pc := 5) hC (c_fanOf E hk hfs hfan (f := f) ⟨by omega, by omega⟩ hy) wX11_81_1 pX1_fanOf (by assumption) rfl rfl (by exact Nat.le_of_ble_eq_true rfl) hR (by decide) (by decide) (by decide) rfl dX11_row_5 ?_
      refine x_astore (L' := [_, _, _, _, _, _, _]) (pc := 8) hC dX11_row_8 rfl rfl ?_
      refine x_aload (pc := 10) hC dX11_row_10 rfl ?_
      refine x_ifnull_r (pc := 12) hC dX11_row_12 ?_
      refine x_iload_n (pc := 15) hC dX11_row_15 rfl ?_
      refine x_if_lt (tgt := 24) (pc := 16) hC (by omega) dX11_row_16 (by decide) (fun c16 => ?_) (fun c16 => ?_)
      · refine x_iconst (pc := 24) hC dX11_row_24 ?_
        refine x_ireturn hC hZ dX11_row_25 (by decide) (by decide) ?_
        refine ⟨congrArg (fun z => some (Value.int (iI z))) ?_, ?_, Hx.rf _ _ _, rfl, rfl⟩
        · unfold rowA
          (repeat (first | rw [if_pos (by omega)] | rw [if_neg (by omega)]))
          all_goals (first | rfl | omega | assumption)
        · unfold rowZ
          (repeat (first | rw [if_pos (by omega)] | rw [if_neg (by omega)]))
          exact hz
      · refine x_iload_n (pc := 19) hC dX11_row_19 rfl ?_
        refine x_iconst (pc := 20) hC dX11_row_20 ?_
        refine x_icmp_le (tgt := 26) (pc := 21) hC (by omega) (by omega) dX11_row_21 (by decide) (fun c21 => ?_) (fun c21 => ?_)
        · refine x_iload_n (pc := 26) hC dX11_row_26 rfl ?_
          refine x_callS1 (As := [_]) (Bs := [_]) (pc := 27) hC (c_isPlace E (by omega)) wX11_115 pX11_isPlace rfl rfl (by exact Nat.le_of_ble_eq_true rfl) hR (by decide) (by decide) (by decide) rfl dX11_row_27 ?_
          refine x_ifB_ne (tgt := 36) (pc := 30) hC  dX11_row_30 (by decide) (fun c30 => ?_) (fun c30 => ?_)
          · refine x_aload (pc := 36) hC dX11_row_36 rfl ?_
            refine x_instN (pc := 38) hC nX11_119 (by assumption) (by exact hnot) dX11_row_38 ?_
            refine x_if_eq (tgt := 71) (pc := 41) hC (by omega) dX11_row_41 (by decide) (fun c41 => ?_) (fun c41 => by (exfalso; omega))
            refine x_bipush (pc := 71) hC dX11_row_71 (by decide +kernel) ?_
            refine x_ireturn hC hZ dX11_row_73 (by decide) (by decide) ?_
            refine ⟨congrArg (fun z => some (Value.int (iI z))) ?_, ?_, Hx.rf _ _ _, rfl, rfl⟩
            · unfold rowA
              (repeat (first | rw [if_pos (by omega)] | rw [if_neg (by omega)]))
              all_goals (first | rfl | omega | assumption)
            · unfold rowZ
              (repeat (first | rw [if_pos (by omega)] | rw [if_neg (by omega)]))
              exact hz
          · refine x_bipush (pc := 33) hC dX11_row_33 (by decide +kernel) ?_
            refine x_ireturn hC hZ dX11_row_35 (by decide) (by decide) ?_
            refine ⟨congrArg (fun z => some (Value.int (iI z))) ?_, ?_, Hx.rf _ _ _, rfl, rfl⟩
            · unfold rowA
              (repeat (first | rw [if_pos (by omega)] | rw [if_neg (by omega)]))
              all_goals (first | rfl | omega | assumption)
            · unfold rowZ
              (repeat (first | rw [if_pos (by omega)] | rw [if_neg (by omega)]))
              exact hz
        · refine x_iconst (pc := 24) hC dX11_row_24 ?_
          refine x_ireturn hC hZ dX11_row_25 (by decide) (by decide) ?_
          refine ⟨congrArg (fun z => some (Value.int (iI z))) ?_, ?_, Hx.rf _ _ _, rfl, rfl⟩
          · unfold rowA
            (repeat (first | rw [if_pos (by omega)] | rw [if_neg (by omega)]))
            all_goals (first | rfl | omega | assumption)
          · unfold rowZ
            (repeat (first | rw [if_pos (by omega)] | rw [if_neg (by omega)]))
            exact hz
  · refine x_aload_n (pc := 0) hC dX11_row_0 rfl ?_
    refine x_getr (K := 0) (pc := 1) hC fX11_12_11 (by assumption) dX11_row_1 rfl rfl (by assumption) ?_
    refine x_iload_n (pc := 4) hC dX11_row_4 rfl ?_
    refine x_callV1 (As := [_]) (Bs := [_]) (pc := 5) hC (c_fanOfN E hk hfs hfan (f := f) hf0 hf) wX11_81_1 pX1_fanOf (by assumption) rfl rfl (by exact Nat.le_of_ble_eq_true rfl) hR (by decide) (by decide) (by decide) rfl dX11_row_5 ?_
    refine x_astoreN (L' := [_, _, _, _, _, _, _]) (pc := 8) hC dX11_row_8 rfl rfl ?_
    refine x_aloadN (pc := 10) hC dX11_row_10 rfl ?_
    refine x_ifnull_n (tgt := 24) (pc := 12) hC dX11_row_12 (by decide) ?_
    refine x_iconst (pc := 24) hC dX11_row_24 ?_
    refine x_ireturn hC hZ dX11_row_25 (by decide) (by decide) ?_
    refine ⟨congrArg (fun z => some (Value.int (iI z))) ?_, ?_, Hx.rf _ _ _, rfl, rfl⟩
    · unfold rowA
      (repeat (first | rw [if_pos (by omega)] | rw [if_neg (by omega)]))
      all_goals (first | rfl | omega | assumption)
    · unfold rowZ
      (repeat (first | rw [if_pos (by omega)] | rw [if_neg (by omega)]))
      exact hz
