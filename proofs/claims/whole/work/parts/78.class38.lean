/-! image, undo -/
theorem HZ.mem2 {σ σ' : xM} {ρ ρ' : xR} {ks ks' : xKs} {B : Nat} {z : zS} (h : HZ σ ρ ks B z) (hB : B = 1 ∨ B = 19) (hl : 55 ≤ ks.length) (hm : ∀ p, p < ks.length → (9 ≤ p ∧ p ≤ 14 ∨ 27 ≤ p ∧ p ≤ 32 ∨ B ≤ p ∧ p ≤ B + 17 ∨ 55 ≤ p) → σ' p = σ p ∧ ρ' p = ρ p) (hk : ∀ p, p < ks.length → ks'[p]? = ks[p]?) : HZ σ' ρ' ks' B z := by
  have hb : ∀ p, B ≤ p → p ≤ B + 17 → σ' p = σ p ∧ ρ' p = ρ p := fun p p1 p2 => hm p (by omega) (by omega)
  obtain ⟨⟨a1, a2⟩, a3, ⟨rq, b1, b2, b3⟩, a4, a5, a6, a7, a8, a9, a10⟩ := id h
  unfold HZ
  rw [(hb B (by omega) (by omega)).1, (hb (B + 14) (by omega) (by omega)).1, (hb (B + 15) (by omega) (by omega)).1, (hb (B + 16) (by omega) (by omega)).1, (hb (B + 17) (by omega) (by omega)).1]
  refine ⟨⟨a1, fun f h0 h1 => ?_⟩, a3.mem (hb _ (by omega) (by omega)).1 (hb _ (by omega) (by omega)).1 (hb _ (by omega) (by omega)).1 (hb _ (by omega) (by omega)).1, ⟨rq, ?_, b2, ?_⟩, a4, a5, a6, a7, a8, a9, a10⟩
  · obtain ⟨q, c1, c2, c3⟩ := a2 f h0 h1
    have hq := hm q (at_lt c3.1) (by omega)
    refine ⟨q, by rw [(hb (B + 1) (by omega) (by omega)).2]; exact c1, c2, c3.mem hq.1 (fun h6 => (hm _ (at_lt (c3.2.2 h6).1) (by omega)).1) hq.2 (hk q (at_lt c3.1)) (fun h6 => hk _ (at_lt (c3.2.2 h6).1))⟩
  · rw [(hb B (by omega) (by omega)).2]; exact b1
  · have hl2 : rq + 5 < ks.length := at_lt b3.1.2.1.2.2.2.2
    exact b3.mem (fun p p1 p2 => (hm p (by omega) (by omega)).1) (hm rq (by omega) (by omega)).2 (fun p p1 p2 => hk p (by omega))
set_option maxHeartbeats 4000000 in
set_option maxRecDepth 100000 in
theorem c_image (E : xE) {σ : xM} {ρ : xR} {ks : xKs} (hw : WK ks ρ) {z : zS} (hz : HZ σ ρ ks 1 z) (hpl : PlOk z) (hcn : Cn z) (hl : 55 ≤ ks.length) : Sp E yX11_image kX11_image 7 8 48 [.ref 0] σ ρ ks (fun r σ' ρ' ks' => r = some (.int (iI (z 13))) ∧ HZ σ' ρ' ks' 1 z ∧ HZ σ' ρ' ks' 19 z ∧ WK ks' ρ' ∧ σ' 0 2 = 1 ∧ ((∀ p, p < ks.length → ks'[p]? = ks[p]?) ∧ ks.length ≤ ks'.length) ∧ (∀ p, p < ks.length → 37 ≤ p → σ' p = σ p ∧ ρ' p = ρ p) ∧ ∀ p, FPB 19 ρ' z p → ¬ FPB 1 ρ' z p) := by
  obtain ⟨w0, w43, ⟨wr0, wr1, wr3, wr4, wr5⟩, wh, wk, wn, wt⟩ := id hw
  have hk := wh.hk
  obtain ⟨k1, k2, r0, r2, hs3⟩ := id hk
  have hfs := hz.fans
  have hsz := hz.sit
  obtain ⟨⟨hz1, -⟩, -, ⟨rq, hrq, hrq2, hrm⟩, hz4, ⟨hz6, -⟩, hz7, hz8, ⟨hz10, -⟩, ⟨hz12, -⟩, ⟨hz14, -⟩⟩ := id hz
  have hfan := hpl.1
  have hsit := hpl.2.1
  have h13 := hpl.1.1
  have h14 := hpl.2.1.1
  have hz00 := hpl.2.2.2
  obtain ⟨n0, ⟨n1, n2, n3, n4, n5⟩, m0, m1, m2, m3, m4⟩ := id wn
  have k19 := wk.1
  refine x_enter (own := RX11) (L := [_]) (by decide +kernel) rfl (by exact Nat.le_of_ble_eq_true rfl) rfl (fun p e R s m args below meth c Z hZ hC hR hin => ?_)
  refine x_aload_n (pc := 0) hC dX11_image_0 rfl ?_
  refine x_getr (K := 1) (pc := 1) hC fX11_18_11 (by assumption) dX11_image_1 rfl rfl (by assumption) ?_
  refine x_aload_n (pc := 4) hC dX11_image_4 rfl ?_
  refine x_getr (K := 0) (pc := 5) hC fX11_12_11 (by assumption) dX11_image_5 rfl rfl (by assumption) ?_
  refine x_callV (As := [_]) (Bs := [_]) (pc := 8) hC (c_resembleH E (Or.inr ⟨rfl, rfl⟩) wk wh hl hz hpl hcn) wX11_272_1 pX1_resemble (by assumption) rfl rfl (by exact Nat.le_of_ble_eq_true rfl) hR (by decide) (by decide) (by decide) rfl dX11_image_8 (fun r8 σ8 ρ8 ks8 q8 => ?_)
  obtain ⟨rfl, ⟨⟨e1, e2⟩, e3, e4, e5⟩, e6, e7⟩ := q8
  have hw2 : WK ks8 ρ8 := hw.mem hl e1 (fun p j p1 p2 p3 p4 p5 => by
    by_cases hp : p = 19
    · rw [hp]; exact e5 j (p5 hp)
    · rw [e4 p (by omega) hp (by omega)])
  have hzk : HZ σ8 ρ8 ks8 1 z := hz.mem2 (by omega) hl (fun p h1 h2 => ⟨e3 p h1 (by omega), e4 p h1 (by omega) (by omega)⟩) e1
  obtain ⟨w0', -, ⟨wr0', wr1', -⟩, ⟨k1', -⟩, -⟩ := id hw2
  refine x_aload_n (pc := 11) hC dX11_image_11 rfl ?_
  refine x_iconst (pc := 12) hC dX11_image_12 ?_
  refine x_putz (K := 2) (pc := 13) hC rfl fX11_21_11 rfl (by assumption) dX11_image_13 rfl (by omega) ?_
  refine x_aload_n (pc := 16) hC dX11_image_16 rfl ?_
  refine x_getr (K := 0) (pc := 17) hC fX11_12_11 (by assumption) dX11_image_17 rfl rfl (by assumption) ?_
  refine x_geti (K := 1) (pc := 20) hC fX11_70_1 (by assumption) dX11_image_20 rfl rfl ?_
  rw [wr_p _ (by decide), hzk.1.1]
  refine x_ireturn hC hZ dX11_image_23 (by decide) (by decide) ?_
  have hlt : ∀ p, FPB 1 ρ8 z p → p < ks.length := fun p hp => by
    have : FPB 1 ρ z p := by
      obtain ⟨f, y, f0, h1, h2⟩ := hp
      exact ⟨f, y, f0, by rw [← e4 2 (by omega) (by omega) (by omega)]; exact h1, h2⟩
    exact (hz.fpb this).2
  refine ⟨rfl, hzk.mem2 (by omega) (by omega) (fun p h1 h2 => ⟨wr_of _ (by omega) _ _, rfl⟩) (fun _ _ => rfl), e6.mem2 (by omega) (by omega) (fun p h1 h2 => ⟨wr_of _ (by omega) _ _, rfl⟩) (fun _ _ => rfl), hw2, wr_eq _ _ _ _, ⟨e1, e2⟩, fun p h1 h2 => ⟨by rw [wr_of _ (by omega)]; exact e3 p h1 (by omega), e4 p h1 (by omega) (by omega)⟩, fun p h1 h2 => ?_⟩
  have := e7 p h1
  have := hlt p h2
  omega

set_option maxHeartbeats 4000000 in
set_option maxRecDepth 100000 in
theorem c_undo (E : xE) {σ : xM} {ρ : xR} {ks : xKs} (hw : WK ks ρ) {zi : zS} (hzi : HZ σ ρ ks 19 zi) (hpl : PlOk zi) (hcn : Cn zi) (hl : 55 ≤ ks.length) (h02 : σ 0 2 = 1) : Sp E yX11_undo kX11_undo 7 8 48 [.ref 0] σ ρ ks (fun r σ' ρ' ks' => r = some (.int (iI (zi 13))) ∧ HZ σ' ρ' ks' 1 zi ∧ HZ σ' ρ' ks' 19 zi ∧ WK ks' ρ' ∧ σ' 0 2 = 1 ∧ ((∀ p, p < ks.length → ks'[p]? = ks[p]?) ∧ ks.length ≤ ks'.length) ∧ (∀ p, p < ks.length → 37 ≤ p → σ' p = σ p ∧ ρ' p = ρ p) ∧ ∀ p, FPB 19 ρ' zi p → ¬ FPB 1 ρ' zi p) := by
  refine x_enter (own := RX11) (L := [_]) (by decide +kernel) rfl (by exact Nat.le_of_ble_eq_true rfl) rfl (fun p e R s m args below meth c Z hZ hC hR hin => ?_)
  obtain ⟨w0, w43, ⟨wr0, wr1, wr3, wr4, wr5⟩, wh, wk, wn, wt⟩ := id hw
  have k1 := wh.1
  refine x_aload_n (pc := 0) hC dX11_undo_0 rfl ?_
  refine x_geti (K := 2) (pc := 1) hC fX11_21_11 (by assumption) dX11_undo_1 rfl rfl ?_
  rw [h02]
  refine x_if_ne (tgt := 10) (pc := 4) hC (by decide) dX11_undo_4 (by decide) (fun c4 => ?_) (fun c4 => by (exact absurd c4 (by decide)))
  refine x_aload_n (pc := 10) hC dX11_undo_10 rfl ?_
  refine x_getr (K := 0) (pc := 11) hC fX11_12_11 (by assumption) dX11_undo_11 rfl rfl (by assumption) ?_
  refine x_aload_n (pc := 14) hC dX11_undo_14 rfl ?_
  refine x_getr (K := 1) (pc := 15) hC fX11_18_11 (by assumption) dX11_undo_15 rfl rfl (by assumption) ?_
  refine x_callV (As := [_]) (Bs := [_]) (pc := 18) hC (c_resembleH E (Or.inl ⟨rfl, rfl⟩) wh wk hl hzi hpl hcn) wX11_272_1 pX1_resemble (by assumption) rfl rfl (by exact Nat.le_of_ble_eq_true rfl) hR (by decide) (by decide) (by decide) rfl dX11_undo_18 (fun r18 σ18 ρ18 ks18 q18 => ?_)
  obtain ⟨rfl, ⟨⟨e1, e2⟩, e3, e4, e5⟩, e6, e7⟩ := q18
  have hw2 : WK ks18 ρ18 := hw.mem hl e1 (fun p j p1 p2 p3 p4 p5 => by
    by_cases hp : p = 1
    · rw [hp]; exact e5 j (p4 hp)
    · rw [e4 p (by omega) hp (by omega)])
  have hzk : HZ σ18 ρ18 ks18 19 zi := hzi.mem2 (by omega) hl (fun p h1 h2 => ⟨e3 p h1 (by omega), e4 p h1 (by omega) (by omega)⟩) e1
  obtain ⟨w0', -, ⟨wr0', wr1', -⟩, ⟨k1', -⟩, -⟩ := id hw2
  refine x_aload_n (pc := 21) hC dX11_undo_21 rfl ?_
  refine x_getr (K := 0) (pc := 22) hC fX11_12_11 (by assumption) dX11_undo_22 rfl rfl (by assumption) ?_
  refine x_geti (K := 1) (pc := 25) hC fX11_70_1 (by assumption) dX11_undo_25 rfl rfl ?_
  rw [e6.1.1]
  refine x_ireturn hC hZ dX11_undo_28 (by decide) (by decide) ?_
  have hlt : ∀ p, FPB 19 ρ18 zi p → p < ks.length := fun p hp => by
    have : FPB 19 ρ zi p := by
      obtain ⟨f, y, f0, h1, h2⟩ := hp
      exact ⟨f, y, f0, by rw [← e4 20 (by omega) (by omega) (by omega)]; exact h1, h2⟩
    exact (hzi.fpb this).2
  refine ⟨rfl, e6, hzk, hw2, by rw [e3 0 (by omega) (by omega)]; exact h02, ⟨e1, e2⟩, fun p h1 h2 => ⟨e3 p h1 (by omega), e4 p h1 (by omega) (by omega)⟩, fun p h1 h2 => ?_⟩
  have := e7 p h2
  have := hlt p h1
  omega

set_option maxHeartbeats 4000000 in
set_option maxRecDepth 100000 in
theorem c_undo0 (E : xE) {σ : xM} {ρ : xR} {ks : xKs} (hw : WK ks ρ) (h02 : σ 0 2 = 0) : Sp E yX11_undo kX11_undo 7 0 0 [.ref 0] σ ρ ks (Fn (some (.int (iI (-3)))) σ ρ ks) := by
  refine x_enter (own := RX11) (L := [_]) (by decide +kernel) rfl (by exact Nat.le_of_ble_eq_true rfl) rfl (fun p e R s m args below meth c Z hZ hC hR hin => ?_)
  obtain ⟨w0, w43, ⟨wr0, wr1, wr3, wr4, wr5⟩, wh, wk, wn, wt⟩ := id hw
  have k1 := wh.1
  refine x_aload_n (pc := 0) hC dX11_undo_0 rfl ?_
  refine x_geti (K := 2) (pc := 1) hC fX11_21_11 (by assumption) dX11_undo_1 rfl rfl ?_
  rw [h02]
  refine x_if_ne (tgt := 10) (pc := 4) hC (by decide) dX11_undo_4 (by decide) (fun c4 => by (exact absurd rfl c4)) (fun c4 => ?_)
  refine x_bipush (pc := 7) hC dX11_undo_7 (by decide +kernel) ?_
  refine x_ireturn hC hZ dX11_undo_9 (by decide) (by decide) ?_
  exact ⟨rfl, rfl, rfl, rfl⟩
