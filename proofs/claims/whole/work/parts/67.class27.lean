/-! a bit set, a bit cleared; which fans are on doesn't show in a second by a mask -/
theorem andnot {B k : Nat} (hB : B < 2147483648) (hk : k < 31) : ∃ B' : Nat, bAnd B (bXor (bShl 1 k) (-1)) = B' ∧ B' ≤ B ∧ ∀ p : Nat, p < 32 → B'.testBit p = (B.testBit p && !decide (k = p)) := by
  have hp : 2 ^ k ≤ 2 ^ 30 := Nat.pow_le_pow_right (by decide) (by omega)
  have e2 : bShl 1 k = ((2 ^ k : Nat) : Int) := by
    have := bShl_n (a := 1) (k := k) (by omega) (by omega)
    rw [Nat.one_mul] at this
    exact this
  have hle : B &&& (2 ^ k ^^^ (2 ^ 32 - 1)) ≤ B := Nat.and_le_left
  refine ⟨B &&& (2 ^ k ^^^ (2 ^ 32 - 1)), ?_, hle, fun p hp32 => ?_⟩
  · rw [e2]
    unfold bAnd bXor
    rw [iI_of, iI_nI, iI_nI, show iI (-1) = nI (2 ^ 32 - 1) by decide +kernel, nI_xor, nI_and, ← iI_nI, iI_toInt ⟨by omega, by omega⟩]
  · rw [Nat.testBit_and, Nat.testBit_xor, Nat.testBit_two_pow, Nat.testBit_two_pow_sub_one]
    simp [hp32]
theorem mask_set {z : zS} {N f : Nat} (hN : N ≤ 4) (hf : f < N) : bOr (maskF z N) (bShl 1 f) = maskF (up z (42 + f) 1) N := by
  obtain ⟨m, h1, h2, h3⟩ := mask_bits z N hN
  obtain ⟨m', h1', h2', h3'⟩ := mask_bits (up z (42 + f) 1) N hN
  have hp : 2 ^ N ≤ 2 ^ 4 := Nat.pow_le_pow_right (by decide) hN
  have hpf : 2 ^ f < 2 ^ N := Nat.pow_lt_pow_right (by decide) hf
  have e2 : bShl 1 f = ((2 ^ f : Nat) : Int) := by
    have := bShl_n (a := 1) (k := f) (by omega) (by omega)
    rw [Nat.one_mul] at this
    exact this
  rw [h1, h1', e2, bOr_n (by omega) (by omega)]
  congr 1
  apply Nat.eq_of_testBit_eq
  intro i
  have hor : m ||| 2 ^ f < 2 ^ N := Nat.or_lt_two_pow h2 hpf
  by_cases hi : i < N
  · have a := h3 i hi
    have b := h3' i hi
    rw [Nat.testBit_or, Nat.testBit_two_pow]
    by_cases hif : f = i
    · subst hif
      rw [up_eq] at b
      simp [b]
    · rw [up_ne _ (by omega)] at b
      rw [← a] at b
      simp only [hif, decide_false, Bool.or_false]
      cases hx : m.testBit i <;> cases hy : m'.testBit i <;> simp_all
  · have hpi : 2 ^ N ≤ 2 ^ i := Nat.pow_le_pow_right (by decide) (by omega)
    rw [Nat.testBit_lt_two_pow (Nat.lt_of_lt_of_le hor hpi), Nat.testBit_lt_two_pow (Nat.lt_of_lt_of_le h2' hpi)]
theorem mask_clr {z : zS} {N f : Nat} (hN : N ≤ 4) (hf : f < N) : bAnd (maskF z N) (bXor (bShl 1 f) (-1)) = maskF (up z (42 + f) 0) N := by
  obtain ⟨m, h1, h2, h3⟩ := mask_bits z N hN
  obtain ⟨m', h1', h2', h3'⟩ := mask_bits (up z (42 + f) 0) N hN
  have hp : 2 ^ N ≤ 2 ^ 4 := Nat.pow_le_pow_right (by decide) hN
  obtain ⟨B', b1, b2, b3⟩ := andnot (B := m) (k := f) (by omega) (by omega)
  rw [h1, h1', b1]
  congr 1
  apply Nat.eq_of_testBit_eq
  intro i
  by_cases hi : i < N
  · have a := h3 i hi
    have b := h3' i hi
    rw [b3 i (by omega)]
    by_cases hif : f = i
    · subst hif
      rw [up_eq] at b
      simp at b
      simp [b]
    · rw [up_ne _ (by omega)] at b
      rw [← a] at b
      simp only [hif, decide_false, Bool.not_false, Bool.and_true]
      cases hx : m.testBit i <;> cases hy : m'.testBit i <;> simp_all
  · have hpi : 2 ^ N ≤ 2 ^ i := Nat.pow_le_pow_right (by decide) (by omega)
    rw [Nat.testBit_lt_two_pow (Nat.lt_of_le_of_lt b2 (Nat.lt_of_lt_of_le h2 hpi)), Nat.testBit_lt_two_pow (Nat.lt_of_lt_of_le h2' hpi)]
/-- the same but for which are on -/
def On2 (z z2 : zS) : Prop := ∀ j, (j < 42 ∨ 46 ≤ j) → z2 j = z j
theorem isAt_on {z z2 : zS} (h : On2 z z2) {f t : Int} (hsit : SitOk z) (hf : 0 ≤ f ∧ f < 4) (ht : 0 ≤ t) : isAtF z2 f t = isAtF z f t := by
  have h14 := hsit.1
  unfold isAtF swingF
  simp (disch := omega) only [h _]
  by_cases h0 : z 14 = 0
  · rw [if_pos h0, if_pos h0]
  · have h5 := emod_in (t := t / 10) (d := z 14) (by omega)
    rw [h _ (show 62 + t / 10 % z 14 < 42 ∨ 46 ≤ 62 + t / 10 % z 14 by omega)]
theorem rch_on {z z2 : zS} (h : On2 z z2) {m t : Int} (hsit : SitOk z) (ht : 0 ≤ t) : ∀ n : Nat, n ≤ 4 → rchF z2 m t n = rchF z m t n := by
  intro n
  induction n with
  | zero => intro _; show (0 : Int) = 0; rfl
  | succ n ih =>
    intro hn
    have hr : reachF z2 n t = reachF z n t := by
      unfold reachF
      rw [isAt_on h hsit (by omega) ht, h _ (by omega)]
    show (if bAnd (bShr m n) 1 = 1 then bOr (rchF z2 m t n) (reachF z2 n t) else rchF z2 m t n) = (if bAnd (bShr m n) 1 = 1 then bOr (rchF z m t n) (reachF z n t) else rchF z m t n)
    rw [hr, ih (by omega)]
theorem warm_c2 {z z' : zS} (h20 : z' 20 = z 20) (h : ∀ j, 118 ≤ j → z' j = z j) (h0 : -1 ≤ z 20) (k : zS) : warmF z' k = warmF z k ∧ coolF z' k = coolF z k := by
  by_cases hm : z 20 = -1
  · have e1 : tellsF z 228 0 = 0 := if_pos hm
    have e2 : tellsF z' 228 0 = 0 := if_pos (h20.trans hm)
    unfold warmF coolF
    rw [e1, e2]
    exact ⟨rfl, rfl⟩
  · have hs : ∀ n : Nat, z' (243 + 140 * z 20 + n) = z (243 + 140 * z 20 + n) := fun n => h _ (by omega)
    unfold warmF coolF
    rw [h20, tells_c2 h20 h h0 (by decide), lkF_congr hs]
    exact ⟨rfl, rfl⟩
theorem goP_on {z z2 : zS} (h : On2 z z2) (h20 : -1 ≤ z 20) (r on : Int) {p : Int} (hp : 0 ≤ p ∧ p < 6) : On2 (goP z r on p) (goP z2 r on p) := by
  have hrn : rnF z2 r p = rnF z r p := by unfold rnF; rw [h _ (by omega), h _ (by omega)]
  have hu : On2 (up z (7 + p) (rnF z r p)) (up z2 (7 + p) (rnF z r p)) := fun j hj => by
    unfold up; split
    · rfl
    · exact h j hj
  have hby : byF (up z2 (7 + p) (rnF z r p)) p on = byF (up z (7 + p) (rnF z r p)) p on := by
    funext j; unfold byF; rw [hu _ (by omega), hu _ (by omega), hu _ (by omega), hu _ (by omega)]
  have h20' : -1 ≤ up z (7 + p) (rnF z r p) 20 := by rw [up_ne _ (by omega)]; exact h20
  obtain ⟨w1, w2⟩ := warm_c2 (hu 20 (by omega)) (fun j hj => hu j (by omega)) h20' (byF (up z (7 + p) (rnF z r p)) p on)
  have hht : htF z2 (up z2 (7 + p) (rnF z r p)) p on = htF z (up z (7 + p) (rnF z r p)) p on := by
    unfold htF
    rw [hby, w1, tells_c2 (hu 20 (by omega)) (fun j hj => hu j (by omega)) h20' (by decide), h _ (by omega)]
  have hcl : clF (up z2 (7 + p) (rnF z r p)) p on = clF (up z (7 + p) (rnF z r p)) p on := by
    unfold clF
    rw [hby, w2, tells_c2 (hu 20 (by omega)) (fun j hj => hu j (by omega)) h20' (by decide), hu _ (by omega)]
  intro j hj
  unfold goP
  rw [hrn, hht, hcl, h (62 + p) (by omega)]
  by_cases e1 : j = 1 + p
  · subst e1; rw [up_eq, up_eq]
  · rw [up_ne _ e1, up_ne _ e1]; exact hu j hj
theorem goes_on {z z2 : zS} (h : On2 z z2) (h20 : -1 ≤ z 20) (r on : Int) : ∀ n : Nat, n ≤ 6 → On2 (goesF z r on n) (goesF z2 r on n)
  | 0, _ => h
  | n + 1, hn => goP_on (goes_on h h20 r on n (by omega)) (by rw [goesF_hi _ _ _ (Or.inl (by decide)) n (by omega)]; exact h20) r on (by omega)
theorem sec_on {z z2 : zS} (h : On2 z z2) (hsit : SitOk z) (h20 : -1 ≤ z 20) (r on : Int) : On2 (secF z r on) (secF z2 r on) := by
  have h14 := hsit.1
  have hg := goes_on h h20 r on (z 14).toNat (by omega)
  intro j hj
  unfold secF
  rw [h 14 (by omega)]
  by_cases e : j = 0
  · subst e; rw [up_eq, up_eq, hg 0 (by omega)]
  · rw [up_ne _ e, up_ne _ e]; exact hg j hj
theorem pass_on {z z2 : zS} {m : Int} (h : On2 z z2) (hpl : PlOk z) : ∀ n : Nat, z 0 + n < 900000 → On2 (passF m z n) (passF m z2 n)
  | 0, _ => h
  | n + 1, hn => by
    have ih := pass_on h hpl (m := m) n (by omega)
    obtain ⟨a, b, c⟩ := pass_pl (m := m) hpl n (by omega)
    have h13 := hpl.1.1
    show On2 (secF (passF m z n) (rchF (passF m z n) m (passF m z n 0) (passF m z n 13).toNat) (bcF m)) (secF (passF m z2 n) (rchF (passF m z2 n) m (passF m z2 n 0) (passF m z2 n 13).toNat) (bcF m))
    rw [ih 0 (by omega), ih 13 (by omega), rch_on ih a.2.1 a.2.2.2.1 _ (by rw [c 13 (Or.inl (by decide))]; omega)]
    exact sec_on ih a.2.1 a.2.2.1.1.1 _ _
theorem SZ.on {σ : xM} {q b : Nat} {z z2 : zS} (hs : SZ σ q b z) (h : On2 z z2) (h6 : z 14 ≤ 6) : SZ σ q b z2 := by
  refine ⟨by rw [h 14 (by omega)]; exact hs.1, fun j j0 j1 => ?_⟩
  rw [h 14 (by omega)] at j1
  rw [h _ (by omega), h _ (by omega), h _ (by omega)]
  exact hs.2 j j0 j1
set_option maxHeartbeats 4000000 in
set_option maxRecDepth 100000 in
theorem c_worth (E : xE) {σ : xM} {ρ : xR} {ks : xKs} (hw : WK ks ρ) {z : zS} (hz : HZ σ ρ ks 1 z) (hpl : PlOk z) {f n : Int} (hf0 : rg f) (hn0 : rg n) (ht : z 0 + 100 < 900000) : Sp E yX11_worth kX11_worth 6 0 0 [.ref 0, .int (iI f), .int (iI n)] σ ρ ks (fun r σ' ρ' ks' => r = some (.int (iI (worthA z f n))) ∧ Nx σ σ' ∧ ρ' = ρ ∧ ks' = ks) := by
  obtain ⟨w0, w43, ⟨wr0, wr1, wr3, wr4, wr5⟩, wh, wk, wn, wt⟩ := id hw
  have hk := wh.hk
  obtain ⟨k1, k2, r0, r2, hs3⟩ := id hk
  have hfs := hz.fans
  have hsz := hz.sit
  obtain ⟨⟨hz1, -⟩, -, ⟨rq, hrq, hrq2, hrm⟩, hz4, ⟨hz6, -⟩, hz7, hz8, ⟨hz10, -⟩, ⟨hz12, -⟩, ⟨hz14, -⟩⟩ := id hz
  have hfan := hpl.1
  have hsit := hpl.2.1
  have h13 := hpl.1.1
  have h14 := hpl.2.1.1
  have hz00 := hpl.2.2.2
  obtain ⟨n0, ⟨n1, n2, n3, n4, n5⟩, m0, m1, m2, m3, m4⟩ := id wn
  have hmr1 : ∀ f, 0 ≤ f ∧ f ≤ z 13 - 1 → 0 ≤ bOr (maskF z (z 13).toNat) (bShl 1 f) ∧ bOr (maskF z (z 13).toNat) (bShl 1 f) ≤ 15 := by
    intro f hf
    obtain ⟨F, rfl⟩ : ∃ F : Nat, f = F := ⟨f.toNat, by omega⟩
    rw [mask_set (by omega) (by omega)]; exact mask_in (by omega)
  have hmr0 : ∀ f, 0 ≤ f ∧ f ≤ z 13 - 1 → 0 ≤ bAnd (maskF z (z 13).toNat) (bXor (bShl 1 f) (-1)) ∧ bAnd (maskF z (z 13).toNat) (bXor (bShl 1 f) (-1)) ≤ 15 := by
    intro f hf
    obtain ⟨F, rfl⟩ : ∃ F : Nat, f = F := ⟨f.toNat, by omega⟩
    rw [mask_clr (by omega) (by omega)]; exact mask_in (by omega)
  refine x_enter (own := RX11) (L := [_, _, _, _, _]) (by decide +kernel) rfl (by exact Nat.le_of_ble_eq_true rfl) rfl (fun p e R s m args below meth c Z hZ hC hR hin => ?_)
  by_cases hf : 0 ≤ f ∧ f ≤ z 13 - 1
  · obtain ⟨y, hy, hfa⟩ := hfs.2 f (by omega) (by omega)
    obtain ⟨hyk, hfz, htz⟩ := id hfa
    have hci := kci_fam (z (22 + f))
    obtain ⟨a0, a1, a2, a3, a4, a5, a6⟩ := id hfz
    have hfo := hfan.2 f (by omega) (by omega)
    obtain ⟨b1, b2, b3, b4, b5, b6⟩ := id hfo
    have hf4 : 0 ≤ f ∧ f < 4 := ⟨by omega, by omega⟩
    refine x_aload_n (pc := 0) hC dX11_worth_0 rfl ?_
    refine x_getr (K := 0) (pc := 1) hC fX11_12_11 (by assumption) dX11_worth_1 rfl rfl (by assumption) ?_
    refine x_iload_n (pc := 4) hC dX11_worth_4 rfl ?_
    refine x_callV1 (As := [_]) (Bs := [_]) (pc := 5) hC (c_fanOf E hk hfs hfan (f := f) ⟨by omega, by omega⟩ hy) wX11_81_1 pX1_fanOf (by assumption) rfl rfl (by exact Nat.le_of_ble_eq_true rfl) hR (by decide) (by decide) (by decide) rfl dX11_worth_5 ?_
    refine x_ifnonnull_r (tgt := 15) (pc := 8) hC dX11_worth_8 (by decide) ?_
    refine x_iload_n (pc := 15) hC dX11_worth_15 rfl ?_
    refine x_iconst (pc := 16) hC dX11_worth_16 ?_
    refine x_bipush (pc := 17) hC dX11_worth_17 (by decide +kernel) ?_
    refine x_callS1 (As := [_, _, _]) (Bs := [_, _, _]) (pc := 19) hC (c_isIn E (by omega) (by omega) (by omega)) wX11_152 pX11_isIn rfl rfl (by exact Nat.le_of_ble_eq_true rfl) hR (by decide) (by decide) (by decide) rfl dX11_worth_19 ?_
    refine x_ifB_ne (tgt := 29) (pc := 22) hC  dX11_worth_22 (by decide) (fun c22 => ?_) (fun c22 => ?_)
    · refine x_aload_n (pc := 29) hC dX11_worth_29 rfl ?_
      refine x_aload_n (pc := 30) hC dX11_worth_30 rfl ?_
      refine x_getr (K := 0) (pc := 31) hC fX11_12_11 (by assumption) dX11_worth_31 rfl rfl (by assumption) ?_
      refine x_callV1 (As := []) (Bs := []) (pc := 34) hC (c_onMask E hk hfs hfan) wX11_156_1 pX1_onMask (by assumption) rfl rfl (by exact Nat.le_of_ble_eq_true rfl) hR (by decide) (by decide) (by decide) rfl dX11_worth_34 ?_
      refine x_iconst (pc := 37) hC dX11_worth_37 ?_
      refine x_iload_n (pc := 38) hC dX11_worth_38 rfl ?_
      refine x_ishl (pc := 39) hC dX11_worth_39 ?_
      refine x_ior (pc := 40) hC dX11_worth_40 ?_
      refine x_iload_n (pc := 41) hC dX11_worth_41 rfl ?_
      refine x_callV (As := [_, _]) (Bs := [_, _]) (pc := 42) hC (c_after E hw hz hpl (mask := bOr (maskF z (z 13).toNat) (bShl 1 f)) (hmr1 f (by omega)) (n := n) (by omega) (by omega)) wX11_164_11 pX11_after (by assumption) rfl rfl (by exact Nat.le_of_ble_eq_true rfl) hR (by decide) (by decide) (by decide) rfl dX11_worth_42 (fun r42 σ42 ρ42 ks42 q42 => ?_)
      obtain ⟨rfl, hnx42, hρ42, hks42, f21, f31⟩ := q42
      obtain rfl := hρ42.symm
      obtain rfl := hks42.symm
      have hpl1 : PlOk (up z (42 + f) 1) := hpl.on hf4 (by decide)
      have hon1 : On2 z (up z (42 + f) 1) := fun j hj => up_ne _ (by omega) _
      obtain ⟨F, hF⟩ : ∃ F : Nat, f = F := ⟨f.toNat, by omega⟩
      have hmk1 : bOr (maskF z (z 13).toNat) (bShl 1 f) = maskF (up z (42 + f) 1) (up z (42 + f) 1 13).toNat := by
        rw [up_ne _ (show (13 : Int) ≠ 42 + f by omega), hF]
        exact mask_set (by omega) (by omega)
      have g21 : SZ σ42 37 38 (playF (up z (42 + f) 1) n.toNat) := by
        have := f21.on (pass_on hon1 hpl n.toNat (by omega)) (by rw [(pass_pl hpl n.toNat (by omega)).2.2 14 (Or.inl (by decide))]; omega)
        rw [(pass_play hpl1 hmk1 (fun _ => 0) n.toNat (by rw [up_ne _ (by omega)]; omega)).1] at this
        exact this
      have p11 := (play_pl hpl1 n.toNat (by rw [up_ne _ (by omega)]; omega))
      have w11 := (worse_in hpl1 n.toNat (by rw [up_ne _ (by omega)]; omega)).2.2.2
      have r11 := (great_play p11.1.2.1).2
      have p141 : playF (up z (42 + f) 1) n.toNat 14 = z 14 := by rw [p11.2.2 14 (Or.inl (by decide)), up_ne _ (by omega)]
      rw [p141] at r11
      refine x_callV1 (As := []) (Bs := []) (pc := 45) hC (c_together E wn g21 p11.1.2.1) wX11_174_5 pX5_together (by assumption) rfl rfl (by exact Nat.le_of_ble_eq_true rfl) hR (by decide) (by decide) (by decide) rfl dX11_worth_45 ?_
      refine x_istore_n (L' := [_, _, _, _, _]) (pc := 48) hC dX11_worth_48 rfl rfl ?_
      refine x_aload_n (pc := 49) hC dX11_worth_49 rfl ?_
      refine x_aload_n (pc := 50) hC dX11_worth_50 rfl ?_
      refine x_getr (K := 0) (pc := 51) hC fX11_12_11 (by assumption) dX11_worth_51 rfl rfl (by assumption) ?_
      refine x_callV1 (As := []) (Bs := []) (pc := 54) hC (c_onMask E hk ((hz.nx (by decide) hnx42).fans) hfan) wX11_156_1 pX1_onMask (by assumption) rfl rfl (by exact Nat.le_of_ble_eq_true rfl) hR (by decide) (by decide) (by decide) rfl dX11_worth_54 ?_
      refine x_iconst (pc := 57) hC dX11_worth_57 ?_
      refine x_iload_n (pc := 58) hC dX11_worth_58 rfl ?_
      refine x_ishl (pc := 59) hC dX11_worth_59 ?_
      refine x_iconst (pc := 60) hC dX11_worth_60 ?_
      refine x_ixor (pc := 61) hC dX11_worth_61 ?_
      refine x_iand (pc := 62) hC dX11_worth_62 ?_
      refine x_iload_n (pc := 63) hC dX11_worth_63 rfl ?_
      refine x_callV (As := [_, _]) (Bs := [_, _]) (pc := 64) hC (c_after E hw (hz.nx (by decide) hnx42) hpl (mask := bAnd (maskF z (z 13).toNat) (bXor (bShl 1 f) (-1))) (hmr0 f (by omega)) (n := n) (by omega) (by omega)) wX11_164_11 pX11_after (by assumption) rfl rfl (by exact Nat.le_of_ble_eq_true rfl) hR (by decide) (by decide) (by decide) rfl dX11_worth_64 (fun r64 σ64 ρ64 ks64 q64 => ?_)
      obtain ⟨rfl, hnx64, hρ64, hks64, f20, f30⟩ := q64
      obtain rfl := hρ64.symm
      obtain rfl := hks64.symm
      have hpl0 : PlOk (up z (42 + f) 0) := hpl.on hf4 (by decide)
      have hon0 : On2 z (up z (42 + f) 0) := fun j hj => up_ne _ (by omega) _
      have hmk0 : bAnd (maskF z (z 13).toNat) (bXor (bShl 1 f) (-1)) = maskF (up z (42 + f) 0) (up z (42 + f) 0 13).toNat := by
        rw [up_ne _ (show (13 : Int) ≠ 42 + f by omega), hF]
        exact mask_clr (by omega) (by omega)
      have g20 : SZ σ64 37 38 (playF (up z (42 + f) 0) n.toNat) := by
        have := f20.on (pass_on hon0 hpl n.toNat (by omega)) (by rw [(pass_pl hpl n.toNat (by omega)).2.2 14 (Or.inl (by decide))]; omega)
        rw [(pass_play hpl0 hmk0 (fun _ => 0) n.toNat (by rw [up_ne _ (by omega)]; omega)).1] at this
        exact this
      have p10 := (play_pl hpl0 n.toNat (by rw [up_ne _ (by omega)]; omega))
      have w10 := (worse_in hpl0 n.toNat (by rw [up_ne _ (by omega)]; omega)).2.2.2
      have r10 := (great_play p10.1.2.1).2
      have p140 : playF (up z (42 + f) 0) n.toNat 14 = z 14 := by rw [p10.2.2 14 (Or.inl (by decide)), up_ne _ (by omega)]
      rw [p140] at r10
      refine x_callV1 (As := []) (Bs := []) (pc := 67) hC (c_together E wn g20 p10.1.2.1) wX11_174_5 pX5_together (by assumption) rfl rfl (by exact Nat.le_of_ble_eq_true rfl) hR (by decide) (by decide) (by decide) rfl dX11_worth_67 ?_
      refine x_istore (L' := [_, _, _, _, _]) (pc := 70) hC dX11_worth_70 rfl rfl ?_
      refine x_iload (pc := 72) hC dX11_worth_72 rfl ?_
      refine x_iload_n (pc := 74) hC dX11_worth_74 rfl ?_
      refine x_isub (pc := 75) hC dX11_worth_75 ?_
      refine x_ireturn hC hZ dX11_worth_76 (by decide) (by decide) ?_
      refine ⟨congrArg (fun z => some (Value.int (iI z))) ?_, hnx42.tr hnx64, rfl, rfl⟩
      unfold worthA
      rw [if_neg (by omega), if_neg (by omega), w10, w11, p140, p141, up_ne _ (show (14 : Int) ≠ 42 + f by omega), up_ne _ (show (14 : Int) ≠ 42 + f by omega)]
    · refine x_sipush (pc := 25) hC dX11_worth_25 (by decide +kernel) ?_
      refine x_ireturn hC hZ dX11_worth_28 (by decide) (by decide) ?_
      refine ⟨congrArg (fun z => some (Value.int (iI z))) ?_, Nx.rf _, rfl, rfl⟩
      unfold worthA
      (repeat (first | rw [if_pos (by omega)] | rw [if_neg (by omega)]))
      all_goals (first | rfl | omega | assumption)
  · refine x_aload_n (pc := 0) hC dX11_worth_0 rfl ?_
    refine x_getr (K := 0) (pc := 1) hC fX11_12_11 (by assumption) dX11_worth_1 rfl rfl (by assumption) ?_
    refine x_iload_n (pc := 4) hC dX11_worth_4 rfl ?_
    refine x_callV1 (As := [_]) (Bs := [_]) (pc := 5) hC (c_fanOfN E hk hfs hfan (f := f) hf0 hf) wX11_81_1 pX1_fanOf (by assumption) rfl rfl (by exact Nat.le_of_ble_eq_true rfl) hR (by decide) (by decide) (by decide) rfl dX11_worth_5 ?_
    refine x_ifnonnull_n (pc := 8) hC dX11_worth_8 ?_
    refine x_sipush (pc := 11) hC dX11_worth_11 (by decide +kernel) ?_
    refine x_ireturn hC hZ dX11_worth_14 (by decide) (by decide) ?_
    refine ⟨congrArg (fun z => some (Value.int (iI z))) ?_, Nx.rf _, rfl, rfl⟩
    unfold worthA
    (repeat (first | rw [if_pos (by omega)] | rw [if_neg (by omega)]))
    all_goals (first | rfl | omega | assumption)

theorem chain_bits {S : Nat → Prop} {g : Int → Int} (hg : ∀ k : Nat, k < 10 → (S k → g k = bShl 1 k) ∧ (¬ S k → g k = 0)) : ∀ k : Nat, k ≤ 10 → ∃ B : Nat, chain g k = B ∧ PB B (fun p => p < k ∧ S p)
  | 0, _ => ⟨0, rfl, PB.zero.to (fun p hp => ⟨False.elim, fun h => absurd h.1 (Nat.not_lt_zero p)⟩)⟩
  | k + 1, hk => by
    obtain ⟨B, h1, h2⟩ := chain_bits hg k (by omega)
    have hgk := hg k (by omega)
    rw [chain_s, h1]
    by_cases hs : S k
    · obtain ⟨B', h3, h4⟩ := h2.or (k := k) (by omega)
      rw [hgk.1 hs]
      refine ⟨B', h3, h4.to (fun p hp => ⟨fun h => h.elim (fun h => ⟨by omega, h.2⟩) (fun h => ⟨by omega, h ▸ hs⟩), fun h => ?_⟩)⟩
      by_cases hpk : p = k
      · exact Or.inr hpk
      · exact Or.inl ⟨by omega, h.2⟩
    · rw [hgk.2 hs, bOr_z ⟨by omega, by have := h2.1; omega⟩]
      refine ⟨B, rfl, h2.to (fun p hp => ⟨fun h => ⟨by omega, h.2⟩, fun h => ⟨?_, h.2⟩⟩)⟩
      by_cases hpk : p = k
      · subst hpk; exact absurd h.2 hs
      · omega
theorem PB.clr {B k : Nat} {S : Nat → Prop} (h : PB B S) (hk : k < 10) : ∃ B' : Nat, bAnd B (bXor (bShl 1 k) (-1)) = B' ∧ PB B' (fun p => S p ∧ p ≠ k) := by
  obtain ⟨B', b1, b2, b3⟩ := andnot (B := B) (k := k) (by have := h.1; omega) (by omega)
  refine ⟨B', b1, Nat.lt_of_le_of_lt b2 h.1, fun p hp => ?_⟩
  rw [b3 p (by omega), Bool.and_eq_true, h.2 p hp]
  simp
  intro _
  exact ⟨fun q e => q e.symm, fun q e => q e.symm⟩
theorem PB.all : PB 1023 (fun _ => True) := ⟨by decide, fun p hp => by
  rw [show 1023 = 2 ^ 10 - 1 from rfl, Nat.testBit_two_pow_sub_one]
  simp [hp]⟩
set_option maxHeartbeats 4000000 in
set_option maxRecDepth 100000 in
theorem c_sat (E : xE) {σ : xM} {ρ : xR} {ks : xKs} (hw : WK ks ρ) {z : zS} (hz : HZ σ ρ ks 1 z) (hpl : PlOk z) {y : Int} (hy0 : rg y) (hse : SeenOk z) (ht : z 0 + 100 < 900000) : Sp E yX11_sat kX11_sat 6 0 0 [.ref 0, .int (iI y)] σ ρ ks (fun r σ' ρ' ks' => r = some (.int (iI (satA z y))) ∧ Nx σ σ' ∧ ρ' = ρ ∧ ks' = ks) := by
  obtain ⟨w0, w43, ⟨wr0, wr1, wr3, wr4, wr5⟩, wh, wk, wn, wt⟩ := id hw
  have hk := wh.hk
  obtain ⟨k1, k2, r0, r2, hs3⟩ := id hk
  have hfs := hz.fans
  have hsz := hz.sit
  obtain ⟨⟨hz1, -⟩, -, ⟨rq, hrq, hrq2, hrm⟩, hz4, ⟨hz6, -⟩, hz7, hz8, ⟨hz10, -⟩, ⟨hz12, -⟩, ⟨hz14, -⟩⟩ := id hz
  have hfan := hpl.1
  have hsit := hpl.2.1
  have h13 := hpl.1.1
  have h14 := hpl.2.1.1
  have hz00 := hpl.2.2.2
  obtain ⟨n0, ⟨n1, n2, n3, n4, n5⟩, m0, m1, m2, m3, m4⟩ := id wn
  obtain ⟨h30, ⟨h31, h32, h33, h34, h35⟩, h36, h37, h38, h39, h3a⟩ := id hs3
  refine x_enter (own := RX11) (L := [_, _, _, _, _]) (by decide +kernel) rfl (by exact Nat.le_of_ble_eq_true rfl) rfl (fun p e R s m args below meth c Z hZ hC hR hin => ?_)
  refine x_aload_n (pc := 0) hC dX11_sat_0 rfl ?_
  refine x_getr (K := 0) (pc := 1) hC fX11_12_11 (by assumption) dX11_sat_1 rfl rfl (by assumption) ?_
  refine x_getr (K := 2) (pc := 4) hC fX11_108_1 (by assumption) dX11_sat_4 rfl rfl (by assumption) ?_
  refine x_iload_n (pc := 7) hC dX11_sat_7 rfl ?_
  refine x_callV1 (As := [_]) (Bs := [_]) (pc := 8) hC (c_has E hs3 hsz hsit (by omega)) wX11_139_5 pX5_has (by assumption) rfl rfl (by exact Nat.le_of_ble_eq_true rfl) hR (by decide) (by decide) (by decide) rfl dX11_sat_8 ?_
  refine x_ifB_ne (tgt := 16) (pc := 11) hC  dX11_sat_11 (by decide) (fun c11 => ?_) (fun c11 => ?_)
  · refine x_sipush (pc := 16) hC dX11_sat_16 (by decide +kernel) ?_
    refine x_istore_n (L' := [_, _, _, _, _]) (pc := 19) hC dX11_sat_19 rfl rfl ?_
    refine x_iconst (pc := 20) hC dX11_sat_20 ?_
    refine x_istore_n (L' := [_, _, _, _, _]) (pc := 21) hC dX11_sat_21 rfl rfl ?_
    obtain ⟨-, -, -, -, -, -, -, ⟨hs10, hs11⟩, -⟩ := id hz
    obtain ⟨se1, se2⟩ := id hse
    have k16 := wh.2.2.2.2.2.1.2.1
    have r9 := wh.2.2.2.2.2.2.2.1
    have outer : ∀ (w i : Nat) (j a : Int) (σ' : xM), j = i → (i : Int) + w = z 16 → Nx σ σ' → (∃ B : Nat, a = B ∧ PB B (fun p => ∀ x : Nat, x < i → (z (68 + (x : Int)) = y → seatF z y p (z (74 + (x : Int))).toNat = z (80 + (x : Int))))) → X E p e R s m args below meth c Z 0 0 σ' ρ ks 22 [some (.ref 0), some (.int (iI y)), some (.int (iI a)), some (.int (iI j)), none] [] := by
      intro w
      induction w with
      | zero =>
        intro i j a σ' hj hi hnx hB
        have hs110 : σ' 1 10 = z 16 := by rw [hnx 1 (by omega)]; exact hz10
        refine x_iload_n (pc := 22) hC dX11_sat_22 rfl ?_
        refine x_aload_n (pc := 23) hC dX11_sat_23 rfl ?_
        refine x_getr (K := 0) (pc := 24) hC fX11_12_11 (by assumption) dX11_sat_24 rfl rfl (by assumption) ?_
        refine x_geti (K := 10) (pc := 27) hC fX11_212_1 (by assumption) dX11_sat_27 rfl rfl ?_
        rw [hs110]
        refine x_icmp_ge (tgt := 115) (pc := 30) hC (by omega) (by omega) dX11_sat_30 (by decide) (fun c30 => ?_) (fun c30 => by (exfalso; omega))
        refine x_iload_n (pc := 115) hC dX11_sat_115 rfl ?_
        refine x_ireturn hC hZ dX11_sat_116 (by decide) (by decide) ?_
        obtain ⟨B, hB3, hPB⟩ := hB
        refine ⟨congrArg (fun z => some (Value.int (iI z))) ?_, hnx, rfl, rfl⟩
        unfold satA
        rw [if_neg (by omega)]
        obtain ⟨B', h1, h2⟩ := chain_bits (S := fun x => seenP z y x) (g := fun x => if seenP z y x then bShl 1 x else 0) (fun k hk => ⟨fun h => if_pos h, fun h => if_neg h⟩) 10 (Nat.le_refl _)
        rw [h1, hB3]
        congr 1
        refine (hPB.to (fun p hp => ?_)).uniq h2
        exact ⟨fun h => ⟨hp, fun x hx => h x (by omega)⟩, fun h x hx => h.2 x (by omega)⟩
      | succ w ih =>
        intro i j a σ' hj hi hnx hB
        have hs110 : σ' 1 10 = z 16 := by rw [hnx 1 (by omega)]; exact hz10
        obtain ⟨e1, e2, e3⟩ := hs11 j (by omega) (by omega)
        obtain ⟨q1, q2, q3⟩ := se2 j (by omega) (by omega)
        have inner : z (68 + j) = y → ∀ (u k : Nat) (j2 a2 : Int) (σ2 : xM), j2 = k → k + u = 10 → Nx σ σ2 → (∃ B : Nat, a2 = B ∧ PB B (fun p => (∀ x : Nat, x < i → (z (68 + (x : Int)) = y → seatF z y p (z (74 + (x : Int))).toNat = z (80 + (x : Int)))) ∧ (p < k → (z (68 + (i : Int)) = y → seatF z y p (z (74 + (i : Int))).toNat = z (80 + (i : Int)))))) → X E p e R s m args below meth c Z 0 0 σ2 ρ ks 36 [some (.ref 0), some (.int (iI y)), some (.int (iI a2)), some (.int (iI j)), some (.int (iI j2))] [] := by
          intro hyy u
          induction u with
          | zero =>
            intro k j2 a2 σ2 hj2 hk hnx2 hB2
            have hk10 : k = 10 := by omega
            refine x_iload (pc := 36) hC dX11_sat_36 rfl ?_
            refine x_bipush (pc := 38) hC dX11_sat_38 (by decide +kernel) ?_
            refine x_icmp_ge (tgt := 109) (pc := 40) hC (by omega) (by omega) dX11_sat_40 (by decide) (fun c40 => ?_) (fun c40 => by (exfalso; omega))
            refine x_iinc (L' := [_, _, _, _, _]) (pc := 109) hC dX11_sat_109 rfl rfl rfl ?_
            refine x_goto (tgt := 22) (pc := 112) hC dX11_sat_112 (by decide) ?_
            obtain ⟨B, hB3, hPB⟩ := hB2
            refine X.drop (xLe_s (xLe_s (xLe_s (xLe_s (xLe_n xLe_0))))) (ih (i + 1) (j + 1) _ _ (by omega) (by omega) hnx2 ⟨B, hB3, hPB.to (fun p hp => ⟨fun h x hx => ?_, fun h => ⟨fun x hx => h x (by omega), fun _ => h i (by omega)⟩⟩)⟩)
            by_cases hxi : x = i
            · subst hxi; exact h.2 (by omega)
            · exact h.1 x (by omega)
          | succ u ihk =>
            intro k j2 a2 σ2 hj2 hk hnx2 hB2
            obtain ⟨B, hB3, hPB⟩ := hB2
            have e1' : σ2 16 (j * 3) = z (68 + j) := by rw [hnx2 16 (by omega)]; exact e1
            have e2' : σ2 16 (j * 3 + 1) = z (74 + j) := by rw [hnx2 16 (by omega)]; exact e2
            have hsf := seatF_in hpl (p := y) (x := j2) (by omega) (by omega) (z (74 + j)).toNat (by omega)
            refine x_iload (pc := 36) hC dX11_sat_36 rfl ?_
            refine x_bipush (pc := 38) hC dX11_sat_38 (by decide +kernel) ?_
            refine x_icmp_ge (tgt := 109) (pc := 40) hC (by omega) (by omega) dX11_sat_40 (by decide) (fun c40 => by (exfalso; omega)) (fun c40 => ?_)
            refine x_aload_n (pc := 43) hC dX11_sat_43 rfl ?_
            refine x_getr (K := 0) (pc := 44) hC fX11_12_11 (by assumption) dX11_sat_44 rfl rfl (by assumption) ?_
            refine x_getr (K := 9) (pc := 47) hC fX11_215_1 (by assumption) dX11_sat_47 rfl rfl (by assumption) ?_
            refine x_iload_n (pc := 50) hC dX11_sat_50 rfl ?_
            refine x_iconst (pc := 51) hC dX11_sat_51 ?_
            refine x_imul (pc := 52) hC dX11_sat_52 ?_
            refine x_iald (pc := 53) hC (by assumption) (by omega) dX11_sat_53 ?_
            rw [e1']
            refine x_iload_n (pc := 54) hC dX11_sat_54 rfl ?_
            refine x_icmp_ne (tgt := 109) (pc := 55) hC (by omega) (by omega) dX11_sat_55 (by decide) (fun c55 => by exact absurd hyy (by omega)) (fun c55 => ?_)
            refine x_aload_n (pc := 58) hC dX11_sat_58 rfl ?_
            refine x_iload_n (pc := 59) hC dX11_sat_59 rfl ?_
            refine x_iload (pc := 60) hC dX11_sat_60 rfl ?_
            refine x_aload_n (pc := 62) hC dX11_sat_62 rfl ?_
            refine x_getr (K := 0) (pc := 63) hC fX11_12_11 (by assumption) dX11_sat_63 rfl rfl (by assumption) ?_
            refine x_getr (K := 9) (pc := 66) hC fX11_215_1 (by assumption) dX11_sat_66 rfl rfl (by assumption) ?_
            refine x_iload_n (pc := 69) hC dX11_sat_69 rfl ?_
            refine x_iconst (pc := 70) hC dX11_sat_70 ?_
            refine x_imul (pc := 71) hC dX11_sat_71 ?_
            refine x_iconst (pc := 72) hC dX11_sat_72 ?_
            refine x_iadd (pc := 73) hC dX11_sat_73 ?_
            refine x_iald (pc := 74) hC (by assumption) (by omega) dX11_sat_74 ?_
            rw [e2']
            refine x_callV (As := [_, _, _]) (Bs := [_, _, _]) (pc := 75) hC (c_heatSeated E hw (hz.nx (by decide) hnx2) hpl (y := y) (x := j2) (by omega) (by omega) (n := z (74 + j)) (by omega) (by omega)) wX11_188_11 pX11_heatSeated (by assumption) rfl rfl (by exact Nat.le_of_ble_eq_true rfl) hR (by decide) (by decide) (by decide) rfl dX11_sat_75 (fun r75 σ75 ρ75 ks75 q75 => ?_)
            obtain ⟨rfl, hnx75, hρ75, hks75⟩ := q75
            obtain rfl := hρ75.symm
            obtain rfl := hks75.symm
            refine x_aload_n (pc := 78) hC dX11_sat_78 rfl ?_
            refine x_getr (K := 0) (pc := 79) hC fX11_12_11 (by assumption) dX11_sat_79 rfl rfl (by assumption) ?_
            refine x_getr (K := 9) (pc := 82) hC fX11_215_1 (by assumption) dX11_sat_82 rfl rfl (by assumption) ?_
            refine x_iload_n (pc := 85) hC dX11_sat_85 rfl ?_
            refine x_iconst (pc := 86) hC dX11_sat_86 ?_
            refine x_imul (pc := 87) hC dX11_sat_87 ?_
            refine x_iconst (pc := 88) hC dX11_sat_88 ?_
            refine x_iadd (pc := 89) hC dX11_sat_89 ?_
            refine x_iald (pc := 90) hC (by assumption) (by omega) dX11_sat_90 ?_
            rw [hnx75 16 (by omega), hnx2 16 (by omega), e3]
            refine x_icmp_eq (tgt := 103) (pc := 91) hC (by omega) (by omega) dX11_sat_91 (by decide) (fun c91 => ?_) (fun c91 => ?_)
            · refine x_iinc (L' := [_, _, _, _, _]) (pc := 103) hC dX11_sat_103 rfl rfl rfl ?_
              refine x_goto (tgt := 36) (pc := 106) hC dX11_sat_106 (by decide) ?_
              refine ihk (k + 1) (j2 + 1) _ _ (by omega) (by omega) (hnx2.tr hnx75) ⟨B, hB3, hPB.to (fun p hp => ⟨fun h => ⟨h.1, fun hpk => ?_⟩, fun h => ⟨h.1, fun hpk => h.2 (by omega)⟩⟩)⟩
              by_cases hpe : p = k
              · subst hpe; intro _; rw [← hj2, ← hj]; exact c91
              · exact h.2 (by omega)
            · refine x_iload_n (pc := 94) hC dX11_sat_94 rfl ?_
              refine x_iconst (pc := 95) hC dX11_sat_95 ?_
              refine x_iload (pc := 96) hC dX11_sat_96 rfl ?_
              refine x_ishl (pc := 98) hC dX11_sat_98 ?_
              refine x_iconst (pc := 99) hC dX11_sat_99 ?_
              refine x_ixor (pc := 100) hC dX11_sat_100 ?_
              refine x_iand (pc := 101) hC dX11_sat_101 ?_
              refine x_istore_n (L' := [_, _, _, _, _]) (pc := 102) hC dX11_sat_102 rfl rfl ?_
              refine x_iinc (L' := [_, _, _, _, _]) (pc := 103) hC dX11_sat_103 rfl rfl rfl ?_
              refine x_goto (tgt := 36) (pc := 106) hC dX11_sat_106 (by decide) ?_
              obtain ⟨B', b1, b2⟩ := hPB.clr (k := k) (by omega)
              refine ihk (k + 1) (j2 + 1) _ _ (by omega) (by omega) (hnx2.tr hnx75) ⟨B', by rw [hB3, hj2]; exact b1, b2.to (fun p hp => ⟨fun h => ⟨h.1.1, fun hpk => h.1.2 (by omega)⟩, fun h => ⟨⟨h.1, fun hpk => h.2 (by omega)⟩, fun hpe => ?_⟩⟩)⟩
              subst hpe
              refine c91 ?_
              rw [hj2, hj]
              exact h.2 (by omega) (by rw [← hj]; exact hyy)
        obtain ⟨B, hB3, hPB⟩ := hB
        have e1o : σ' 16 (j * 3) = z (68 + j) := by rw [hnx 16 (by omega)]; exact e1
        by_cases hyy : z (68 + j) = y
        · refine X.drop (xLe_s (xLe_s (xLe_s (xLe_s (xLe_n xLe_0))))) (?_ : X E p e R s m args below meth c Z 0 0 σ' ρ ks 22 [some (.ref 0), some (.int (iI y)), some (.int (iI a)), some (.int (iI j)), none] [])
          refine x_iload_n (pc := 22) hC dX11_sat_22 rfl ?_
          refine x_aload_n (pc := 23) hC dX11_sat_23 rfl ?_
          refine x_getr (K := 0) (pc := 24) hC fX11_12_11 (by assumption) dX11_sat_24 rfl rfl (by assumption) ?_
          refine x_geti (K := 10) (pc := 27) hC fX11_212_1 (by assumption) dX11_sat_27 rfl rfl ?_
          rw [hs110]
          refine x_icmp_ge (tgt := 115) (pc := 30) hC (by omega) (by omega) dX11_sat_30 (by decide) (fun c30 => by (exfalso; omega)) (fun c30 => ?_)
          refine x_iconst (pc := 33) hC dX11_sat_33 ?_
          refine x_istore (L' := [_, _, _, _, _]) (pc := 34) hC dX11_sat_34 rfl rfl ?_
          exact inner hyy 10 0 0 a σ' rfl (by omega) hnx ⟨B, hB3, hPB.to (fun p hp => ⟨fun h => ⟨h, fun q => absurd q (Nat.not_lt_zero p)⟩, fun h => h.1⟩)⟩
        · refine x_iload_n (pc := 22) hC dX11_sat_22 rfl ?_
          refine x_aload_n (pc := 23) hC dX11_sat_23 rfl ?_
          refine x_getr (K := 0) (pc := 24) hC fX11_12_11 (by assumption) dX11_sat_24 rfl rfl (by assumption) ?_
          refine x_geti (K := 10) (pc := 27) hC fX11_212_1 (by assumption) dX11_sat_27 rfl rfl ?_
          rw [hs110]
          refine x_icmp_ge (tgt := 115) (pc := 30) hC (by omega) (by omega) dX11_sat_30 (by decide) (fun c30 => by (exfalso; omega)) (fun c30 => ?_)
          refine x_iconst (pc := 33) hC dX11_sat_33 ?_
          refine x_istore (L' := [_, _, _, _, _]) (pc := 34) hC dX11_sat_34 rfl rfl ?_
          refine x_iload (pc := 36) hC dX11_sat_36 rfl ?_
          refine x_bipush (pc := 38) hC dX11_sat_38 (by decide +kernel) ?_
          refine x_icmp_ge (tgt := 109) (pc := 40) hC (by omega) (by omega) dX11_sat_40 (by decide) (fun c40 => ?_) (fun c40 => ?_)
          · refine x_iinc (L' := [_, _, _, _, _]) (pc := 109) hC dX11_sat_109 rfl rfl rfl ?_
            refine x_goto (tgt := 22) (pc := 112) hC dX11_sat_112 (by decide) ?_
            refine X.drop (xLe_s (xLe_s (xLe_s (xLe_s (xLe_n xLe_0))))) (ih (i + 1) (j + 1) _ _ (by omega) (by omega) hnx ⟨B, hB3, hPB.to (fun p hp => ⟨fun h x hx => ?_, fun h x hx => h x (by omega)⟩)⟩)
            by_cases hxi : x = i
            · subst hxi; intro q; exact absurd (by rw [hj]; exact q) hyy
            · exact h x (by omega)
          · refine x_aload_n (pc := 43) hC dX11_sat_43 rfl ?_
            refine x_getr (K := 0) (pc := 44) hC fX11_12_11 (by assumption) dX11_sat_44 rfl rfl (by assumption) ?_
            refine x_getr (K := 9) (pc := 47) hC fX11_215_1 (by assumption) dX11_sat_47 rfl rfl (by assumption) ?_
            refine x_iload_n (pc := 50) hC dX11_sat_50 rfl ?_
            refine x_iconst (pc := 51) hC dX11_sat_51 ?_
            refine x_imul (pc := 52) hC dX11_sat_52 ?_
            refine x_iald (pc := 53) hC (by assumption) (by omega) dX11_sat_53 ?_
            rw [e1o]
            refine x_iload_n (pc := 54) hC dX11_sat_54 rfl ?_
            refine x_icmp_ne (tgt := 109) (pc := 55) hC (by omega) (by omega) dX11_sat_55 (by decide) (fun c55 => ?_) (fun c55 => by exact absurd (by omega) hyy)
            refine x_iinc (L' := [_, _, _, _, _]) (pc := 109) hC dX11_sat_109 rfl rfl rfl ?_
            refine x_goto (tgt := 22) (pc := 112) hC dX11_sat_112 (by decide) ?_
            refine X.drop (xLe_s (xLe_s (xLe_s (xLe_s (xLe_n xLe_0))))) (ih (i + 1) (j + 1) _ _ (by omega) (by omega) hnx ⟨B, hB3, hPB.to (fun p hp => ⟨fun h x hx => ?_, fun h x hx => h x (by omega)⟩)⟩)
            by_cases hxi : x = i
            · subst hxi; intro q; exact absurd (by rw [hj]; exact q) hyy
            · exact h x (by omega)
    exact outer (z 16).toNat 0 0 1023 σ rfl (by omega) (Nx.rf _) ⟨1023, rfl, PB.all.to (fun p hp => ⟨fun _ x hx => absurd hx (Nat.not_lt_zero x), fun _ => trivial⟩)⟩
  · refine x_iconst (pc := 14) hC dX11_sat_14 ?_
    refine x_ireturn hC hZ dX11_sat_15 (by decide) (by decide) ?_
    refine ⟨congrArg (fun z => some (Value.int (iI z))) ?_, Nx.rf _, rfl, rfl⟩
    unfold satA
    (repeat (first | rw [if_pos (by omega)] | rw [if_neg (by omega)]))
    all_goals (first | rfl | omega | assumption)
