/-! act; a hall as another -/
set_option maxHeartbeats 4000000 in
set_option maxRecDepth 100000 in
theorem c_act (E : xE) {σ : xM} {ρ : xR} {ks : xKs} (hw : WK ks ρ) {z : zS} (hz : HZ σ ρ ks 1 z) (hpl : PlOk z) {f a x : Int} (hf0 : rg f) (ha0 : rg a) : Sp E yX11_act kX11_act 8 0 0 [.ref 0, .int (iI f), .int (iI a), .int (iI x)] σ ρ ks (fun r σ' ρ' ks' => r = some (.int (iI (actV z f a x))) ∧ ρ' = ρ ∧ ks' = ks ∧ (∀ p, p ≠ 44 → p ≠ 45 → σ' p = σ p) ∧ σ' 45 = pushL (σ 45) 0 (actT z f a) ∧ σ' 44 1 = (actT z f a).length) := by
  obtain ⟨w0, w43, ⟨wr0, wr1, wr3, wr4, wr5⟩, wh, wk, wn, wt⟩ := id hw
  have hk := wh.hk
  obtain ⟨k1, k2, r0, r2, hs3⟩ := id hk
  have hfs := hz.fans
  have hsz := hz.sit
  obtain ⟨⟨hz1, -⟩, -, ⟨rq, hrq, hrq2, hrm⟩, hz4, ⟨hz6, -⟩, hz7, hz8, ⟨hz10, -⟩, ⟨hz12, -⟩, ⟨hz14, -⟩⟩ := id hz
  have hfan := hpl.1
  have hsit := hpl.2.1
  have h13 := hpl.1.1
  have h14 := hpl.2.1.1
  have hz00 := hpl.2.2.2
  obtain ⟨n0, ⟨n1, n2, n3, n4, n5⟩, m0, m1, m2, m3, m4⟩ := id wn
  obtain ⟨t1, t2, t3⟩ := id wt
  refine x_enter (own := RX11) (L := [_, _, _, _, _]) (by decide +kernel) rfl (by exact Nat.le_of_ble_eq_true rfl) rfl (fun p e R s m args below meth c Z hZ hC hR hin => ?_)
  by_cases hf : 0 ≤ f ∧ f ≤ z 13 - 1
  · obtain ⟨y, hy, hfa⟩ := hfs.2 f (by omega) (by omega)
    obtain ⟨hyk, hfz, htz⟩ := id hfa
    have hci := kci_fam (z (22 + f))
    obtain ⟨a0, a1, a2, a3, a4, a5, a6⟩ := id hfz
    have hfo := hfan.2 f (by omega) (by omega)
    obtain ⟨b1, b2, b3, b4, b5, b6⟩ := id hfo
    have hf4 : 0 ≤ f ∧ f < 4 := ⟨by omega, by omega⟩
    refine x_aload_n (pc := 0) hC dX11_act_0 rfl ?_
    refine x_getr (K := 5) (pc := 1) hC fX11_39_11 (by assumption) dX11_act_1 rfl rfl (by assumption) ?_
    refine x_callV0 (As := []) (Bs := []) (pc := 4) hC (c_forget E wt) wX11_250_8 pX8_forget (by assumption) rfl rfl (by exact Nat.le_of_ble_eq_true rfl) hR (by decide) (by decide) (by decide) rfl dX11_act_4 ?_
    have hz' := hz.mem (σ' := wr σ 44 1 0) (by decide) (fun p hp => wr_of _ (by omega) _ _) (fun _ _ => rfl) (fun _ _ => rfl)
    have hfs := hz'.fans
    have hr0 : 0 ≤ wr σ 44 1 0 44 1 ∧ wr σ 44 1 0 44 1 ≤ 8 := by rw [wr_eq]; decide
    refine x_aload_n (pc := 7) hC dX11_act_7 rfl ?_
    refine x_getr (K := 0) (pc := 8) hC fX11_12_11 (by assumption) dX11_act_8 rfl rfl (by assumption) ?_
    refine x_iload_n (pc := 11) hC dX11_act_11 rfl ?_
    refine x_callV1 (As := [_]) (Bs := [_]) (pc := 12) hC (c_fanOf E hk hfs hfan (f := f) ⟨by omega, by omega⟩ hy) wX11_81_1 pX1_fanOf (by assumption) rfl rfl (by exact Nat.le_of_ble_eq_true rfl) hR (by decide) (by decide) (by decide) rfl dX11_act_12 ?_
    refine x_astore (L' := [_, _, _, _, _]) (pc := 15) hC dX11_act_15 rfl rfl ?_
    refine x_aload (pc := 17) hC dX11_act_17 rfl ?_
    refine x_ifnonnull_r (tgt := 24) (pc := 19) hC dX11_act_19 (by decide) ?_
    obtain ⟨y2, hy2, -, hfa⟩ := hz'.1.2 f (by omega) (by omega)
    cases hy2.symm.trans hy
    refine x_iload_n (pc := 24) hC dX11_act_24 rfl ?_
    have csw : a = 0 ∨ a = 1 ∨ a = 2 ∨ (a < 0 ∨ 2 < a) := by omega
    rcases csw with c25 | c25 | c25 | c25
    · refine x_tabIn (tgt := 52) (pc := 25) hC (by omega) dX11_act_25 (by omega) (by omega) 0 (by omega) rfl (by decide) ?_
      refine x_aload (pc := 52) hC dX11_act_52 rfl ?_
      refine x_iload_n (pc := 54) hC dX11_act_54 rfl ?_
      refine x_aload_n (pc := 55) hC dX11_act_55 rfl ?_
      refine x_getr (K := 5) (pc := 56) hC fX11_39_11 (by assumption) dX11_act_56 rfl rfl (by assumption) ?_
      refine x_fanX11_253 (pc := 59) hC wt hfa hfo hf4 hr0 hR (by decide) (by exact Nat.le_of_ble_eq_true rfl) (by decide) rfl dX11_act_59 ?_
      refine x_ireturn hC hZ dX11_act_62 (by decide) (by decide) ?_
      refine ⟨congrArg (fun z => some (Value.int (iI z))) ?_, rfl, rfl, fun p h1 h2 => by rw [tc_q _ _ h1 h2, wr_of _ h1], ?_, ?_⟩
      · unfold actV; rw [if_neg (by omega)]; (repeat (first | rw [if_pos (by omega)] | rw [if_neg (by omega)])); try rfl
      · unfold actT; rw [if_neg (by omega), tc_45, wr_eq, wr_of _ (by decide)]; (repeat (first | rw [if_pos (by omega)] | rw [if_neg (by omega)])); try rfl
      · unfold actT; rw [if_neg (by omega), tc_a, wr_eq, Int.zero_add]; (repeat (first | rw [if_pos (by omega)] | rw [if_neg (by omega)])); try rfl
    · refine x_tabIn (tgt := 63) (pc := 25) hC (by omega) dX11_act_25 (by omega) (by omega) 1 (by omega) rfl (by decide) ?_
      refine x_aload (pc := 63) hC dX11_act_63 rfl ?_
      refine x_iload_n (pc := 65) hC dX11_act_65 rfl ?_
      refine x_aload_n (pc := 66) hC dX11_act_66 rfl ?_
      refine x_getr (K := 5) (pc := 67) hC fX11_39_11 (by assumption) dX11_act_67 rfl rfl (by assumption) ?_
      refine x_fanX11_257 (pc := 70) hC wt hfa hfo hf4 hr0 hR (by decide) (by exact Nat.le_of_ble_eq_true rfl) (by decide) rfl dX11_act_70 ?_
      refine x_ireturn hC hZ dX11_act_73 (by decide) (by decide) ?_
      refine ⟨congrArg (fun z => some (Value.int (iI z))) ?_, rfl, rfl, fun p h1 h2 => by rw [tc_q _ _ h1 h2, wr_of _ h1], ?_, ?_⟩
      · unfold actV; rw [if_neg (by omega)]; (repeat (first | rw [if_pos (by omega)] | rw [if_neg (by omega)])); try rfl
      · unfold actT; rw [if_neg (by omega), tc_45, wr_eq, wr_of _ (by decide)]; (repeat (first | rw [if_pos (by omega)] | rw [if_neg (by omega)])); try rfl
      · unfold actT; rw [if_neg (by omega), tc_a, wr_eq, Int.zero_add]; (repeat (first | rw [if_pos (by omega)] | rw [if_neg (by omega)])); try rfl
    · refine x_tabIn (tgt := 74) (pc := 25) hC (by omega) dX11_act_25 (by omega) (by omega) 2 (by omega) rfl (by decide) ?_
      refine x_aload (pc := 74) hC dX11_act_74 rfl ?_
      refine x_iload_n (pc := 76) hC dX11_act_76 rfl ?_
      refine x_aload_n (pc := 77) hC dX11_act_77 rfl ?_
      refine x_getr (K := 5) (pc := 78) hC fX11_39_11 (by assumption) dX11_act_78 rfl rfl (by assumption) ?_
      refine x_fanX11_260 (pc := 81) hC wt hfa hfo hf4 hr0 hR (by decide) (by exact Nat.le_of_ble_eq_true rfl) (by decide) rfl dX11_act_81 ?_
      refine x_ireturn hC hZ dX11_act_84 (by decide) (by decide) ?_
      refine ⟨congrArg (fun z => some (Value.int (iI z))) ?_, rfl, rfl, fun p h1 h2 => by rw [tc_q _ _ h1 h2, wr_of _ h1], ?_, ?_⟩
      · unfold actV; rw [if_neg (by omega)]; (repeat (first | rw [if_pos (by omega)] | rw [if_neg (by omega)])); try rfl
      · unfold actT; rw [if_neg (by omega), tc_45, wr_eq, wr_of _ (by decide)]; (repeat (first | rw [if_pos (by omega)] | rw [if_neg (by omega)])); try rfl
      · unfold actT; rw [if_neg (by omega), tc_a, wr_eq, Int.zero_add]; (repeat (first | rw [if_pos (by omega)] | rw [if_neg (by omega)])); try rfl
    · refine x_tabOut (tgt := 85) (pc := 25) hC (by omega) dX11_act_25 (by omega) (by decide) ?_
      refine x_iconst (pc := 85) hC dX11_act_85 ?_
      refine x_ireturn hC hZ dX11_act_86 (by decide) (by decide) ?_
      refine ⟨congrArg (fun z => some (Value.int (iI z))) ?_, rfl, rfl, fun p h1 h2 => wr_of _ h1 _ _, ?_, ?_⟩
      · unfold actV; rw [if_pos (by omega)]
      · unfold actT; rw [if_pos (by omega)]; rw [wr_of _ (by decide)]; rfl
      · unfold actT; rw [if_pos (by omega), wr_eq]; rfl
  · refine x_aload_n (pc := 0) hC dX11_act_0 rfl ?_
    refine x_getr (K := 5) (pc := 1) hC fX11_39_11 (by assumption) dX11_act_1 rfl rfl (by assumption) ?_
    refine x_callV0 (As := []) (Bs := []) (pc := 4) hC (c_forget E wt) wX11_250_8 pX8_forget (by assumption) rfl rfl (by exact Nat.le_of_ble_eq_true rfl) hR (by decide) (by decide) (by decide) rfl dX11_act_4 ?_
    have hz' := hz.mem (σ' := wr σ 44 1 0) (by decide) (fun p hp => wr_of _ (by omega) _ _) (fun _ _ => rfl) (fun _ _ => rfl)
    have hfs := hz'.fans
    have hr0 : 0 ≤ wr σ 44 1 0 44 1 ∧ wr σ 44 1 0 44 1 ≤ 8 := by rw [wr_eq]; decide
    refine x_aload_n (pc := 7) hC dX11_act_7 rfl ?_
    refine x_getr (K := 0) (pc := 8) hC fX11_12_11 (by assumption) dX11_act_8 rfl rfl (by assumption) ?_
    refine x_iload_n (pc := 11) hC dX11_act_11 rfl ?_
    refine x_callV1 (As := [_]) (Bs := [_]) (pc := 12) hC (c_fanOfN E hk hfs hfan (f := f) hf0 hf) wX11_81_1 pX1_fanOf (by assumption) rfl rfl (by exact Nat.le_of_ble_eq_true rfl) hR (by decide) (by decide) (by decide) rfl dX11_act_12 ?_
    refine x_astoreN (L' := [_, _, _, _, _]) (pc := 15) hC dX11_act_15 rfl rfl ?_
    refine x_aloadN (pc := 17) hC dX11_act_17 rfl ?_
    refine x_ifnonnull_n (pc := 19) hC dX11_act_19 ?_
    refine x_iconst (pc := 22) hC dX11_act_22 ?_
    refine x_ireturn hC hZ dX11_act_23 (by decide) (by decide) ?_
    refine ⟨congrArg (fun z => some (Value.int (iI z))) ?_, rfl, rfl, fun p h1 h2 => wr_of _ h1 _ _, ?_, ?_⟩
    · unfold actV; rw [if_pos (by omega)]
    · unfold actT; rw [if_pos (by omega)]; rw [wr_of _ (by decide)]; rfl
    · unfold actT; rw [if_pos (by omega), wr_eq]; rfl

theorem HKB.mem {ks ks' : xKs} {ρ ρ' : xR} {B : Nat} (h : HKB ks ρ B) (hB : B = 1 ∨ B = 19) (hl : 55 ≤ ks.length) (hk : ∀ p, p < ks.length → ks'[p]? = ks[p]?) (hρ : ∀ (p : Nat) (j : Int), B ≤ p → p ≤ B + 2 → p ≠ B + 1 → (p = B → j ≠ 3) → ρ' p j = ρ p j) : HKB ks' ρ' B := by
  have hk2 : ∀ p, p < 55 → ks'[p]? = ks[p]? := fun p hp => hk p (by omega)
  unfold HKB SK at *
  simp (disch := omega) only [hk2, hρ]
  exact h
def RvI (σ σk : xM) (ρ ρk : xR) (ks ksk : xKs) (B : Nat) (z : zS) (k : Int) : Prop := ((∀ p, p < ks.length → ksk[p]? = ks[p]?) ∧ ks.length ≤ ksk.length) ∧ (∀ p, p < ks.length → σk p = σ p ∧ (p ≠ B + 1 → ρk p = ρ p)) ∧ ∀ g : Int, 0 ≤ g → g < k → ∃ q, ρk (B + 1) g = some q ∧ ks.length ≤ q ∧ FanAt σk ρk ksk q g z
set_option maxHeartbeats 4000000 in
set_option maxRecDepth 100000 in
theorem c_resembleH (E : xE) {σ : xM} {ρ : xR} {ks : xKs} {B C : Nat} (hBC : (B = 1 ∧ C = 19) ∨ (B = 19 ∧ C = 1)) (hbk : HKB ks ρ B) (hck : HKB ks ρ C) (hl : 55 ≤ ks.length) {z : zS} (hz : HZ σ ρ ks C z) (hpl : PlOk z) (hcn : Cn z) : Sp E yX1_resemble kX1_resemble 6 8 48 [.ref B, .ref C] σ ρ ks (fun r σ' ρ' ks' => r = none ∧ (((∀ p, p < ks.length → ks'[p]? = ks[p]?) ∧ ks.length ≤ ks'.length) ∧ (∀ p, p < ks.length → (p < B ∨ B + 8 ≤ p ∧ p ≤ B + 13 ∨ B + 17 < p) → σ' p = σ p) ∧ (∀ p, p < ks.length → p ≠ B → p ≠ B + 1 → ρ' p = ρ p) ∧ (∀ j, j ≠ 3 → ρ' B j = ρ B j)) ∧ HZ σ' ρ' ks' B z ∧ ∀ p, FPB B ρ' z p → ks.length ≤ p) := by
  refine x_enter (own := RX1) (L := [_, _, _]) (by decide +kernel) rfl (by exact Nat.le_of_ble_eq_true rfl) rfl (fun p e R s m args below meth c Z hZ hC hR hin => ?_)
  have hB1 : B = 1 ∨ B = 19 := by omega
  have hC1 : C = 1 ∨ C = 19 := by omega
  have hfan := hpl.1
  have hsit := hpl.2.1
  have h13 := hpl.1.1
  have h14 := hpl.2.1.1
  obtain ⟨h15, h16, h17, h18, h19⟩ := id hcn
  have loop : ∀ (i k : Nat) (j : Int) (σk : xM) (ρk : xR) (ksk : xKs), j = k → (k : Int) + i = z 13 → RvI σ σk ρ ρk ks ksk B z k → X E p e R s m args below meth c Z (2 * k) (12 * k) σk ρk ksk 2 [some (.ref B), some (.ref C), some (.int (iI j))] [] := by
    intro i
    induction i with
    | zero =>
      intro k j σk ρk ksk hj hki hI
      obtain ⟨⟨i1, i2⟩, i3, i4⟩ := id hI
      have hb := hbk.mem (ρ' := ρk) hB1 hl i1 (fun p j p1 p2 p3 _ => by rw [(i3 p (by omega)).2 p3])
      have hc := hck.mem (ρ' := ρk) hC1 hl i1 (fun p j p1 p2 p3 _ => by rw [(i3 p (by omega)).2 (by omega)])
      obtain ⟨kb0, kb1, rb0, rb2, sb, ⟨kb14, kb15, kb16, kb17⟩, rb5, rb9, rb11, rb13⟩ := id hb
      obtain ⟨kc0, kc1, rc0, rc2, sc, ⟨kc14, kc15, kc16, kc17⟩, rc5, rc9, rc11, rc13⟩ := id hc
      have ksb := sb.1
      have ksc := sc.1
      have hs1 : σk C = σ C := (i3 C (by omega)).1
      have hz1 : σ C 1 = z 13 := hz.1.1
      refine x_iload_n (pc := 2) hC dX1_resemble_2 rfl ?_
      refine x_aload_n (pc := 3) hC dX1_resemble_3 rfl ?_
      refine x_geti (K := 1) (pc := 4) hC fX1_17_1 (by assumption) dX1_resemble_4 rfl rfl ?_
      rw [hs1, hz1]
      refine x_icmp_ge (tgt := 31) (pc := 7) hC (by omega) (by omega) dX1_resemble_7 (by decide) (fun c7 => ?_) (fun c7 => by (exfalso; omega))
      refine x_aload_n (pc := 31) hC dX1_resemble_31 rfl ?_
      refine x_aload_n (pc := 32) hC dX1_resemble_32 rfl ?_
      refine x_geti (K := 1) (pc := 33) hC fX1_17_1 (by assumption) dX1_resemble_33 rfl rfl ?_
      rw [hs1, hz1]
      refine x_puti (K := 1) (pc := 36) hC rfl fX1_17_1 rfl (by assumption) dX1_resemble_36 rfl ?_
      have hsb2 : SZ (wr σk B 1 (z 13)) (C + 2) (C + 3) z := (hz.2.1.mem (i3 _ (by omega)).1 (i3 _ (by omega)).1 (i3 _ (by omega)).1 (i3 _ (by omega)).1).mem (wr_of _ (by omega) _ _) (wr_of _ (by omega) _ _) (wr_of _ (by omega) _ _) (wr_of _ (by omega) _ _)
      refine x_aload_n (pc := 39) hC dX1_resemble_39 rfl ?_
      refine x_getr (K := 2) (pc := 40) hC fX1_24_1 (by assumption) dX1_resemble_40 rfl rfl (by assumption) ?_
      refine x_aload_n (pc := 43) hC dX1_resemble_43 rfl ?_
      refine x_getr (K := 2) (pc := 44) hC fX1_24_1 (by assumption) dX1_resemble_44 rfl rfl (by assumption) ?_
      refine x_callV (As := [_]) (Bs := [_]) (pc := 47) hC (c_resembleS E sb sc (by omega) hsb2 hsit) wX1_73_5 pX5_resemble (by assumption) rfl rfl (by exact Nat.le_of_ble_eq_true rfl) hR (by decide) (by decide) (by omega) rfl dX1_resemble_47 (fun r47 σ47 ρ47 ks47 q47 => ?_)
      obtain ⟨rfl, hρ47, hks47, f1, f2, f3, f4⟩ := q47
      obtain rfl := hρ47.symm
      obtain rfl := hks47.symm
      have gB : ∀ j, σ47 B j = wr σk B 1 (z 13) B j := fun j => by rw [f1 B (by omega) (by omega) (by omega) (by omega) (by omega)]
      have gC : σ47 C = σ C := by rw [f1 C (by omega) (by omega) (by omega) (by omega) (by omega), wr_of _ (by omega), hs1]
      obtain ⟨rq, hrq1, hrq2, hrq3⟩ := hz.2.2.1
      have hrq4 : ρk C 3 = some rq := by rw [(i3 C (by omega)).2 (by omega)]; exact hrq1
      obtain ⟨-, -, -, y15, ⟨y19, y19b⟩, y0, y21, ⟨y16, y16b⟩, ⟨y17, y17b⟩, ⟨y18, y18b⟩⟩ := id hz
      have g14 : ∀ p, p < ks.length → p ≠ B → (p < B ∨ B + 6 < p) → σ47 p = σ p := fun p h1 h2 h3 => by rw [f1 p (by omega) (by omega) (by omega) (by omega) (by omega), wr_of _ (by omega), (i3 p h1).1]
      refine x_aload_n (pc := 50) hC dX1_resemble_50 rfl ?_
      refine x_aload_n (pc := 51) hC dX1_resemble_51 rfl ?_
      refine x_getr (K := 3) (pc := 52) hC fX1_31_1 (by assumption) dX1_resemble_52 rfl rfl (by exact hrq4) ?_
      refine x_putr (K := 3) (pc := 55) hC rfl (some rq) fX1_31_1 (Or.inl rfl) (by assumption) dX1_resemble_55 rfl rfl ?_
      have qb5 : wq ρk B 3 (some rq) B 5 = some (B + 14) := by rw [wq_k _ _ _ (by decide)]; exact rb5
      have qb9 : wq ρk B 3 (some rq) B 9 = some (B + 15) := by rw [wq_k _ _ _ (by decide)]; exact rb9
      have qb11 : wq ρk B 3 (some rq) B 11 = some (B + 16) := by rw [wq_k _ _ _ (by decide)]; exact rb11
      have qb13 : wq ρk B 3 (some rq) B 13 = some (B + 17) := by rw [wq_k _ _ _ (by decide)]; exact rb13
      have qc5 : wq ρk B 3 (some rq) C 5 = some (C + 14) := by rw [wq_p _ (by omega)]; exact rc5
      have qc9 : wq ρk B 3 (some rq) C 9 = some (C + 15) := by rw [wq_p _ (by omega)]; exact rc9
      have qc11 : wq ρk B 3 (some rq) C 11 = some (C + 16) := by rw [wq_p _ (by omega)]; exact rc11
      have qc13 : wq ρk B 3 (some rq) C 13 = some (C + 17) := by rw [wq_p _ (by omega)]; exact rc13
      refine x_aload_n (pc := 58) hC dX1_resemble_58 rfl ?_
      refine x_aload_n (pc := 59) hC dX1_resemble_59 rfl ?_
      refine x_geti (K := 4) (pc := 60) hC fX1_35_1 (by assumption) dX1_resemble_60 rfl rfl ?_
      try simp (disch := omega) only [wr_p, wr_k, wr_eq, wr_of, sw_ne, sw_eq]
      rw [gC, y15]
      refine x_puti (K := 4) (pc := 63) hC rfl fX1_35_1 rfl (by assumption) dX1_resemble_63 rfl ?_
      refine x_aload_n (pc := 66) hC dX1_resemble_66 rfl ?_
      refine x_getr (K := 5) (pc := 67) hC fX1_38_1 (by assumption) dX1_resemble_67 rfl rfl (by assumption) ?_
      refine x_iconst (pc := 70) hC dX1_resemble_70 ?_
      refine x_aload_n (pc := 71) hC dX1_resemble_71 rfl ?_
      refine x_getr (K := 5) (pc := 72) hC fX1_38_1 (by assumption) dX1_resemble_72 rfl rfl (by assumption) ?_
      refine x_iconst (pc := 75) hC dX1_resemble_75 ?_
      refine x_aload_n (pc := 76) hC dX1_resemble_76 rfl ?_
      refine x_getr (K := 5) (pc := 77) hC fX1_38_1 (by assumption) dX1_resemble_77 rfl rfl (by assumption) ?_
      refine x_alen1 (K := 100) (pc := 80) hC (by assumption) rfl dX1_resemble_80 ?_
      refine x_copy (pc := 81) hC wX1_77 (by assumption) (by assumption) (by omega) hR (by decide) (by exact Nat.le_of_ble_eq_true rfl) rfl dX1_resemble_81 ?_
      refine X.mem (σ' := sw _ (B + 14) (fun x => if 0 ≤ x ∧ x < 100 then σ (C + 14) x else σ (B + 14) x)) (by congr 1; funext x; simp (disch := omega) only [wr_p, wr_k, wr_eq, wr_of, sw_ne, sw_eq]; rw [g14 (C + 14) (by omega) (by omega) (by omega), g14 (B + 14) (by omega) (by omega) (by omega)]) ?_
      refine x_aload_n (pc := 84) hC dX1_resemble_84 rfl ?_
      refine x_aload_n (pc := 85) hC dX1_resemble_85 rfl ?_
      refine x_geti (K := 6) (pc := 86) hC fX1_42_1 (by assumption) dX1_resemble_86 rfl rfl ?_
      try simp (disch := omega) only [wr_p, wr_k, wr_eq, wr_of, sw_ne, sw_eq]
      rw [gC, y19]
      refine x_puti (K := 6) (pc := 89) hC rfl fX1_42_1 rfl (by assumption) dX1_resemble_89 rfl ?_
      refine x_aload_n (pc := 92) hC dX1_resemble_92 rfl ?_
      refine x_aload_n (pc := 93) hC dX1_resemble_93 rfl ?_
      refine x_geti (K := 7) (pc := 94) hC fX1_45_1 (by assumption) dX1_resemble_94 rfl rfl ?_
      try simp (disch := omega) only [wr_p, wr_k, wr_eq, wr_of, sw_ne, sw_eq]
      rw [gC, y0]
      refine x_puti (K := 7) (pc := 97) hC rfl fX1_45_1 rfl (by assumption) dX1_resemble_97 rfl ?_
      refine x_aload_n (pc := 100) hC dX1_resemble_100 rfl ?_
      refine x_aload_n (pc := 101) hC dX1_resemble_101 rfl ?_
      refine x_geti (K := 8) (pc := 102) hC fX1_48_1 (by assumption) dX1_resemble_102 rfl rfl ?_
      try simp (disch := omega) only [wr_p, wr_k, wr_eq, wr_of, sw_ne, sw_eq]
      rw [gC, y21]
      refine x_puti (K := 8) (pc := 105) hC rfl fX1_48_1 rfl (by assumption) dX1_resemble_105 rfl ?_
      refine x_aload_n (pc := 108) hC dX1_resemble_108 rfl ?_
      refine x_getr (K := 9) (pc := 109) hC fX1_51_1 (by assumption) dX1_resemble_109 rfl rfl (by assumption) ?_
      refine x_iconst (pc := 112) hC dX1_resemble_112 ?_
      refine x_aload_n (pc := 113) hC dX1_resemble_113 rfl ?_
      refine x_getr (K := 9) (pc := 114) hC fX1_51_1 (by assumption) dX1_resemble_114 rfl rfl (by assumption) ?_
      refine x_iconst (pc := 117) hC dX1_resemble_117 ?_
      refine x_aload_n (pc := 118) hC dX1_resemble_118 rfl ?_
      refine x_getr (K := 9) (pc := 119) hC fX1_51_1 (by assumption) dX1_resemble_119 rfl rfl (by assumption) ?_
      refine x_alen1 (K := 18) (pc := 122) hC (by assumption) rfl dX1_resemble_122 ?_
      refine x_copy (pc := 123) hC wX1_77 (by assumption) (by assumption) (by omega) hR (by decide) (by exact Nat.le_of_ble_eq_true rfl) rfl dX1_resemble_123 ?_
      refine X.mem (σ' := sw _ (B + 15) (fun x => if 0 ≤ x ∧ x < 18 then σ (C + 15) x else σ (B + 15) x)) (by congr 1; funext x; simp (disch := omega) only [wr_p, wr_k, wr_eq, wr_of, sw_ne, sw_eq]; rw [g14 (C + 15) (by omega) (by omega) (by omega), g14 (B + 15) (by omega) (by omega) (by omega)]) ?_
      refine x_aload_n (pc := 126) hC dX1_resemble_126 rfl ?_
      refine x_aload_n (pc := 127) hC dX1_resemble_127 rfl ?_
      refine x_geti (K := 10) (pc := 128) hC fX1_54_1 (by assumption) dX1_resemble_128 rfl rfl ?_
      try simp (disch := omega) only [wr_p, wr_k, wr_eq, wr_of, sw_ne, sw_eq]
      rw [gC, y16]
      refine x_puti (K := 10) (pc := 131) hC rfl fX1_54_1 rfl (by assumption) dX1_resemble_131 rfl ?_
      refine x_aload_n (pc := 134) hC dX1_resemble_134 rfl ?_
      refine x_getr (K := 11) (pc := 135) hC fX1_57_1 (by assumption) dX1_resemble_135 rfl rfl (by assumption) ?_
      refine x_iconst (pc := 138) hC dX1_resemble_138 ?_
      refine x_aload_n (pc := 139) hC dX1_resemble_139 rfl ?_
      refine x_getr (K := 11) (pc := 140) hC fX1_57_1 (by assumption) dX1_resemble_140 rfl rfl (by assumption) ?_
      refine x_iconst (pc := 143) hC dX1_resemble_143 ?_
      refine x_aload_n (pc := 144) hC dX1_resemble_144 rfl ?_
      refine x_getr (K := 11) (pc := 145) hC fX1_57_1 (by assumption) dX1_resemble_145 rfl rfl (by assumption) ?_
      refine x_alen1 (K := 12) (pc := 148) hC (by assumption) rfl dX1_resemble_148 ?_
      refine x_copy (pc := 149) hC wX1_77 (by assumption) (by assumption) (by omega) hR (by decide) (by exact Nat.le_of_ble_eq_true rfl) rfl dX1_resemble_149 ?_
      refine X.mem (σ' := sw _ (B + 16) (fun x => if 0 ≤ x ∧ x < 12 then σ (C + 16) x else σ (B + 16) x)) (by congr 1; funext x; simp (disch := omega) only [wr_p, wr_k, wr_eq, wr_of, sw_ne, sw_eq]; rw [g14 (C + 16) (by omega) (by omega) (by omega), g14 (B + 16) (by omega) (by omega) (by omega)]) ?_
      refine x_aload_n (pc := 152) hC dX1_resemble_152 rfl ?_
      refine x_aload_n (pc := 153) hC dX1_resemble_153 rfl ?_
      refine x_geti (K := 12) (pc := 154) hC fX1_60_1 (by assumption) dX1_resemble_154 rfl rfl ?_
      try simp (disch := omega) only [wr_p, wr_k, wr_eq, wr_of, sw_ne, sw_eq]
      rw [gC, y17]
      refine x_puti (K := 12) (pc := 157) hC rfl fX1_60_1 rfl (by assumption) dX1_resemble_157 rfl ?_
      refine x_aload_n (pc := 160) hC dX1_resemble_160 rfl ?_
      refine x_getr (K := 13) (pc := 161) hC fX1_63_1 (by assumption) dX1_resemble_161 rfl rfl (by assumption) ?_
      refine x_iconst (pc := 164) hC dX1_resemble_164 ?_
      refine x_aload_n (pc := 165) hC dX1_resemble_165 rfl ?_
      refine x_getr (K := 13) (pc := 166) hC fX1_63_1 (by assumption) dX1_resemble_166 rfl rfl (by assumption) ?_
      refine x_iconst (pc := 169) hC dX1_resemble_169 ?_
      refine x_aload_n (pc := 170) hC dX1_resemble_170 rfl ?_
      refine x_getr (K := 13) (pc := 171) hC fX1_63_1 (by assumption) dX1_resemble_171 rfl rfl (by assumption) ?_
      refine x_alen1 (K := 24) (pc := 174) hC (by assumption) rfl dX1_resemble_174 ?_
      refine x_copy (pc := 175) hC wX1_77 (by assumption) (by assumption) (by omega) hR (by decide) (by exact Nat.le_of_ble_eq_true rfl) rfl dX1_resemble_175 ?_
      refine X.mem (σ' := sw _ (B + 17) (fun x => if 0 ≤ x ∧ x < 24 then σ (C + 17) x else σ (B + 17) x)) (by congr 1; funext x; simp (disch := omega) only [wr_p, wr_k, wr_eq, wr_of, sw_ne, sw_eq]; rw [g14 (C + 17) (by omega) (by omega) (by omega), g14 (B + 17) (by omega) (by omega) (by omega)]) ?_
      refine x_aload_n (pc := 178) hC dX1_resemble_178 rfl ?_
      refine x_aload_n (pc := 179) hC dX1_resemble_179 rfl ?_
      refine x_geti (K := 14) (pc := 180) hC fX1_66_1 (by assumption) dX1_resemble_180 rfl rfl ?_
      try simp (disch := omega) only [wr_p, wr_k, wr_eq, wr_of, sw_ne, sw_eq]
      rw [gC, y18]
      refine x_puti (K := 14) (pc := 183) hC rfl fX1_66_1 rfl (by assumption) dX1_resemble_183 rfl ?_
      refine x_return hC hZ dX1_resemble_186 (by omega) (by omega) ?_
      obtain ⟨σe, hσe⟩ : ∃ σe, σe = wr (sw (wr (sw (wr (sw (wr (wr (wr (sw (wr σ47 B 4 (z 15)) (B + 14) (fun x => if 0 ≤ x ∧ x < 100 then σ (C + 14) x else σ (B + 14) x)) B 6 (z 19)) B 7 (z 0)) B 8 (z 21)) (B + 15) (fun x => if 0 ≤ x ∧ x < 18 then σ (C + 15) x else σ (B + 15) x)) B 10 (z 16)) (B + 16) (fun x => if 0 ≤ x ∧ x < 12 then σ (C + 16) x else σ (B + 16) x)) B 12 (z 17)) (B + 17) (fun x => if 0 ≤ x ∧ x < 24 then σ (C + 17) x else σ (B + 17) x)) B 14 (z 18) := ⟨_, rfl⟩
      rw [← hσe]
      have hfr : ∀ p, p < ks.length → (p < B ∨ B + 8 ≤ p ∧ p ≤ B + 13 ∨ B + 17 < p) → σe p = σ p := fun p h1 h2 => by
        rw [hσe]; simp (disch := omega) only [wr_p, wr_k, wr_eq, wr_of, sw_ne, sw_eq]; exact g14 p h1 (by omega) (by omega)
      have hrr : ∀ p, p < ks.length → p ≠ B → p ≠ B + 1 → wq ρk B 3 (some rq) p = ρ p := fun p h1 h2 h3 => by funext x; rw [wq_p _ h2, (i3 p h1).2 h3]
      have hbig : ∀ p, ks.length ≤ p → σe p = σk p := fun p h1 => by
        rw [hσe]; simp (disch := omega) only [wr_p, wr_k, wr_eq, wr_of, sw_ne, sw_eq]; rw [f1 p (by omega) (by omega) (by omega) (by omega) (by omega), wr_of _ (by omega)]
      refine ⟨rfl, ⟨⟨i1, i2⟩, hfr, hrr, fun x hx => by rw [wq_k _ _ _ hx, (i3 B (by omega)).2 (by omega)]⟩, ?_, ?_⟩
      · refine ⟨⟨?_, fun g g0 g1 => ?_⟩, ?_, ⟨rq, wq_eq _ _ _ _, hrq2, ?_⟩, ?_, ⟨?_, fun x x0 x1 => ?_⟩, ?_, ?_, ⟨?_, fun x x0 x1 => ?_⟩, ⟨?_, fun x x0 x1 => ?_⟩, ⟨?_, fun x x0 x1 => ?_⟩⟩
        · rw [hσe]; simp (disch := omega) only [wr_p, wr_k, wr_eq, wr_of, sw_ne, sw_eq]; rw [gB, wr_eq]
        · obtain ⟨q, u1, u2, u3⟩ := i4 g g0 (by omega)
          exact ⟨q, by rw [wq_p _ (by omega)]; exact u1, by omega, u3.mem (hbig q u2) (fun _ => hbig _ (by omega)) (by funext x; rw [wq_p _ (by omega)]) rfl (fun _ => rfl)⟩
        · exact f3.mem (by rw [hσe]; simp (disch := omega) only [wr_p, wr_k, wr_eq, wr_of, sw_ne, sw_eq]) (by rw [hσe]; simp (disch := omega) only [wr_p, wr_k, wr_eq, wr_of, sw_ne, sw_eq]) (by rw [hσe]; simp (disch := omega) only [wr_p, wr_k, wr_eq, wr_of, sw_ne, sw_eq]) (by rw [hσe]; simp (disch := omega) only [wr_p, wr_k, wr_eq, wr_of, sw_ne, sw_eq])
        · have hrl := at_lt hrq3.1.2.1.2.2.2.2
          exact hrq3.mem (fun p p1 p2 => hfr p (by omega) (by omega)) (hrr rq (by omega) (by omega) (by omega)) (fun p p1 p2 => i1 p (by omega))
        · rw [hσe]; simp (disch := omega) only [wr_p, wr_k, wr_eq, wr_of, sw_ne, sw_eq]
        · rw [hσe]; simp (disch := omega) only [wr_p, wr_k, wr_eq, wr_of, sw_ne, sw_eq]
        · rw [hσe]; simp (disch := omega) only [wr_p, wr_k, wr_eq, wr_of, sw_ne, sw_eq]; rw [if_pos (by omega)]; exact y19b x x0 x1
        · rw [hσe]; simp (disch := omega) only [wr_p, wr_k, wr_eq, wr_of, sw_ne, sw_eq]
        · rw [hσe]; simp (disch := omega) only [wr_p, wr_k, wr_eq, wr_of, sw_ne, sw_eq]
        · rw [hσe]; simp (disch := omega) only [wr_p, wr_k, wr_eq, wr_of, sw_ne, sw_eq]
        · rw [hσe]; simp (disch := omega) only [wr_p, wr_k, wr_eq, wr_of, sw_ne, sw_eq]; rw [if_pos (by omega), if_pos (by omega), if_pos (by omega)]; exact y16b x x0 x1
        · rw [hσe]; simp (disch := omega) only [wr_p, wr_k, wr_eq, wr_of, sw_ne, sw_eq]
        · rw [hσe]; simp (disch := omega) only [wr_p, wr_k, wr_eq, wr_of, sw_ne, sw_eq]; rw [if_pos (by omega), if_pos (by omega)]; exact y17b x x0 x1
        · rw [hσe]; simp (disch := omega) only [wr_p, wr_k, wr_eq, wr_of, sw_ne, sw_eq]
        · rw [hσe]; simp (disch := omega) only [wr_p, wr_k, wr_eq, wr_of, sw_ne, sw_eq]; rw [if_pos (by omega), if_pos (by omega), if_pos (by omega)]; exact y18b x x0 x1
      · rintro p ⟨f, y, ⟨f0, f1'⟩, g1, g2⟩
        rw [wq_p _ (by omega)] at g1
        obtain ⟨q, u1, u2, u3⟩ := i4 f f0 (by omega)
        cases u1.symm.trans g1
        omega
    | succ i ih =>
      intro k j σk ρk ksk hj hki hI
      obtain ⟨⟨i1, i2⟩, i3, i4⟩ := id hI
      have hb := hbk.mem (ρ' := ρk) hB1 hl i1 (fun p j p1 p2 p3 _ => by rw [(i3 p (by omega)).2 p3])
      have hc := hck.mem (ρ' := ρk) hC1 hl i1 (fun p j p1 p2 p3 _ => by rw [(i3 p (by omega)).2 (by omega)])
      obtain ⟨kb0, kb1, rb0, rb2, sb, ⟨kb14, kb15, kb16, kb17⟩, rb5, rb9, rb11, rb13⟩ := id hb
      obtain ⟨kc0, kc1, rc0, rc2, sc, ⟨kc14, kc15, kc16, kc17⟩, rc5, rc9, rc11, rc13⟩ := id hc
      have ksb := sb.1
      have ksc := sc.1
      have hs1 : σk C = σ C := (i3 C (by omega)).1
      have hz1 : σ C 1 = z 13 := hz.1.1
      refine x_iload_n (pc := 2) hC dX1_resemble_2 rfl ?_
      refine x_aload_n (pc := 3) hC dX1_resemble_3 rfl ?_
      refine x_geti (K := 1) (pc := 4) hC fX1_17_1 (by assumption) dX1_resemble_4 rfl rfl ?_
      rw [hs1, hz1]
      refine x_icmp_ge (tgt := 31) (pc := 7) hC (by omega) (by omega) dX1_resemble_7 (by decide) (fun c7 => by (exfalso; omega)) (fun c7 => ?_)
      refine x_aload_n (pc := 10) hC dX1_resemble_10 rfl ?_
      refine x_getr (K := 0) (pc := 11) hC fX1_11_1 (by assumption) dX1_resemble_11 rfl rfl (by assumption) ?_
      obtain ⟨q, hq1, hq2, hq3⟩ := hz.1.2 j (by omega) (by omega)
      have hql := at_lt hq3.1
      have hq4 : ρk (C + 1) j = some q := by rw [(i3 (C + 1) (by omega)).2 (by omega)]; exact hq1
      have hfa : FanAt σk ρk ksk q j z := hq3.mem (i3 q hql).1 (fun h6 => (i3 _ (at_lt (hq3.2.2 h6).1)).1) ((i3 q hql).2 (by omega)) (i1 q hql) (fun h6 => i1 _ (at_lt (hq3.2.2 h6).1))
      have hfo := hfan.2 j (by omega) (by omega)
      refine x_iload_n (pc := 14) hC dX1_resemble_14 rfl ?_
      refine x_aload_n (pc := 15) hC dX1_resemble_15 rfl ?_
      refine x_getr (K := 0) (pc := 16) hC fX1_11_1 (by assumption) dX1_resemble_16 rfl rfl (by assumption) ?_
      refine x_iload_n (pc := 19) hC dX1_resemble_19 rfl ?_
      refine x_aald (pc := 20) hC (by assumption) (by omega) dX1_resemble_20 hq4 ?_
      refine x_callS (As := [_]) (Bs := [_]) (pc := 21) hC (c_copyOf E hfa hfo) wX1_69 pX1_copyOf rfl rfl (by exact Nat.le_of_ble_eq_true rfl) hR (by decide) (by decide) (by omega) rfl dX1_resemble_21 (fun r21 σ21 ρ21 ks21 q21 => ?_)
      obtain ⟨rfl, e1, e2, e3⟩ := q21
      have kb1' : ks21[B + 1]? = some (3, 4) := by rw [e2, ap_at (by omega)]; exact kb1
      have hnew := e3.1
      have hsb := kci_sub hfo.1
      refine x_aast (pc := 24) hC (by assumption) (by omega) (by assumption) (x_sub hC (by exact hsb)) dX1_resemble_24 ?_
      refine x_iinc (L' := [_, _, _]) (pc := 25) hC dX1_resemble_25 rfl rfl rfl ?_
      refine x_goto (tgt := 2) (pc := 28) hC dX1_resemble_28 (by decide) ?_
      have hnx : ∀ g : Int, 0 ≤ g → g < (k + 1 : Nat) → ∃ q, wq ρ21 (B + 1) j (some ksk.length) (B + 1) g = some q ∧ ks.length ≤ q ∧ FanAt σ21 (wq ρ21 (B + 1) j (some ksk.length)) ks21 q g z := fun g g0 g1 => by
        by_cases hg : g = j
        · refine ⟨ksk.length, by rw [hg, wq_eq], i2, ?_⟩
          rw [hg]
          exact e3.mem rfl (fun _ => rfl) (by funext x; rw [wq_p _ (by omega)]) rfl (fun _ => rfl)
        · obtain ⟨q2, g3, g4, g5⟩ := i4 g g0 (by omega)
          have hl2 := at_lt g5.1
          refine ⟨q2, by rw [wq_k _ _ _ hg, (e1 (B + 1) (by omega)).2]; exact g3, g4, g5.mem (e1 q2 hl2).1 (fun h6 => (e1 _ (at_lt (g5.2.2 h6).1)).1) (by funext x; rw [wq_p _ (by omega), (e1 q2 hl2).2]) (by rw [e2, ap_at hl2]) (fun h6 => by rw [e2, ap_at (at_lt (g5.2.2 h6).1)])⟩
      exact ih (k + 1) (j + 1) σ21 (wq ρ21 (B + 1) j (some ksk.length)) ks21 (by omega) (by omega) ⟨⟨fun p hp => by rw [e2, ap_at (by omega)]; exact i1 p hp, by rw [e2, List.length_append]; omega⟩, fun p hp => ⟨(e1 p (by omega)).1.trans (i3 p hp).1, fun h => by funext x; rw [wq_p _ h, (e1 p (by omega)).2, (i3 p hp).2 h]⟩, hnx⟩
  refine x_iconst (pc := 0) hC dX1_resemble_0 ?_
  refine x_istore_n (L' := [_, _, _]) (pc := 1) hC dX1_resemble_1 rfl rfl ?_
  exact loop (z 13).toNat 0 0 _ _ _ rfl (by omega) ⟨⟨fun _ _ => rfl, Nat.le_refl _⟩, fun _ _ => ⟨rfl, fun _ => rfl⟩, fun g g0 g1 => absurd g1 (by omega)⟩
