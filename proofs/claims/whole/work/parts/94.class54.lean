/-! room -/
theorem HZ.roomX {σ σ' : xM} {ρ ρ' : xR} {ks ks' : xKs} {z z1 : zS} (h : HZ σ ρ ks 1 z) (hl : 55 ≤ ks.length) (hcn : Cn z) (h13 : z 13 ≤ 4) (h14 : z 14 ≤ 6) (hm : ∀ p, p < ks.length → p ≠ 1 → σ' p = σ p ∧ ρ' p = ρ p) (hk : ∀ p, p < ks.length → ks'[p]? = ks[p]?) (hσ1 : ∀ j, j ≠ 4 → j ≠ 6 → σ' 1 j = σ 1 j) (he : ∀ j, j ≠ 15 → j ≠ 19 → j ≠ 20 → j < 218 → z1 j = z j) (h4 : σ' 1 4 = z1 15) (h6 : σ' 1 6 = z1 19) (h19 : z1 19 = 0) (hroom : ∃ rq, ρ' 1 3 = some rq ∧ (rq = 9 ∨ rq = 27 ∨ 55 ≤ rq) ∧ RmP σ' ρ' ks' rq z1) : HZ σ' ρ' ks' 1 z1 := by
  obtain ⟨⟨a1, a2⟩, a3, -, a4, a5, a6, a7, ⟨a8, a8b⟩, ⟨a9, a9b⟩, ⟨a10, a10b⟩⟩ := h
  obtain ⟨n15, n16, n17, n18, n19⟩ := hcn
  unfold HZ
  refine ⟨⟨by rw [hσ1 _ (by decide) (by decide), he 13 (by decide) (by decide) (by decide) (by decide)]; exact a1, fun f f0 f1 => ?_⟩, ?_, hroom, h4, ⟨h6, fun j j0 j1 => by omega⟩, by rw [hσ1 _ (by decide) (by decide), he 0 (by decide) (by decide) (by decide) (by decide)]; exact a6, by rw [hσ1 _ (by decide) (by decide), he 21 (by decide) (by decide) (by decide) (by decide)]; exact a7, ⟨by rw [hσ1 _ (by decide) (by decide), he 16 (by decide) (by decide) (by decide) (by decide)]; exact a8, fun k k0 k1 => ?_⟩, ⟨by rw [hσ1 _ (by decide) (by decide), he 17 (by decide) (by decide) (by decide) (by decide)]; exact a9, fun k k0 k1 => ?_⟩, ⟨by rw [hσ1 _ (by decide) (by decide), he 18 (by decide) (by decide) (by decide) (by decide)]; exact a10, fun k k0 k1 => ?_⟩⟩
  · rw [he 13 (by decide) (by decide) (by decide) (by decide)] at f1
    obtain ⟨q, d1, d2, d3⟩ := a2 f f0 f1
    have hq := at_lt d3.1
    obtain ⟨g1, g2, g3⟩ := d3.mem (hm q hq (by omega)).1 (fun h6 => (hm _ (at_lt (d3.2.2 h6).1) (by omega)).1) (hm q hq (by omega)).2 (hk q hq) (fun h6 => hk _ (at_lt (d3.2.2 h6).1))
    have ee : ∀ c : Int, (c = 22 ∨ c = 26 ∨ c = 30 ∨ c = 34 ∨ c = 38 ∨ c = 42) → z1 (c + f) = z (c + f) := fun c hc => he _ (by omega) (by omega) (by omega) (by omega)
    refine ⟨q, by rw [(hm 2 (by omega) (by decide)).2]; exact d1, d2, by rw [ee 22 (by omega)]; exact g1, ?_, fun h6 => ?_⟩
    · unfold FZ at *
      rw [ee 22 (by omega), ee 26 (by omega), ee 30 (by omega), ee 34 (by omega), ee 38 (by omega), ee 42 (by omega)]
      exact g2
    · rw [ee 22 (by omega)] at h6
      obtain ⟨t1, t2, t3⟩ := g3 h6
      exact ⟨t1, t2, fun k k0 k1 => by rw [he _ (by omega) (by omega) (by omega) (by omega)]; exact t3 k k0 k1⟩
  · obtain ⟨s1, s2⟩ := a3.mem (σ' := σ') (hm _ (by omega) (by omega)).1 (hm _ (by omega) (by omega)).1 (hm _ (by omega) (by omega)).1 (hm _ (by omega) (by omega)).1
    refine ⟨by rw [he 14 (by decide) (by decide) (by decide) (by decide)]; exact s1, fun j j0 j1 => ?_⟩
    rw [he 14 (by decide) (by decide) (by decide) (by decide)] at j1
    rw [he (62 + j) (by omega) (by omega) (by omega) (by omega), he (1 + j) (by omega) (by omega) (by omega) (by omega), he (7 + j) (by omega) (by omega) (by omega) (by omega)]
    exact s2 j j0 j1
  · rw [he 16 (by decide) (by decide) (by decide) (by decide)] at k1
    rw [(hm 16 (by omega) (by decide)).1, he _ (by omega) (by omega) (by omega) (by omega), he _ (by omega) (by omega) (by omega) (by omega), he _ (by omega) (by omega) (by omega) (by omega)]; exact a8b k k0 k1
  · rw [he 17 (by decide) (by decide) (by decide) (by decide)] at k1
    rw [(hm 17 (by omega) (by decide)).1, he _ (by omega) (by omega) (by omega) (by omega), he _ (by omega) (by omega) (by omega) (by omega)]; exact a9b k k0 k1
  · rw [he 18 (by decide) (by decide) (by decide) (by decide)] at k1
    rw [(hm 18 (by omega) (by decide)).1, he _ (by omega) (by omega) (by omega) (by omega), he _ (by omega) (by omega) (by omega) (by omega), he _ (by omega) (by omega) (by omega) (by omega)]; exact a10b k k0 k1
set_option maxHeartbeats 4000000 in
set_option maxRecDepth 100000 in
theorem c_room (E : xE) {σ : xM} {ρ : xR} {ks : xKs} (hw : WK ks ρ) {z : zS} (hz : HZ σ ρ ks 1 z) (hpl : PlOk z) (hcn : Cn z) (htp : TapeOk z) (h20 : z 20 < z 15) (hl : 55 ≤ ks.length) : Sp E yX11_room kX11_room 21 6 147 [.ref 0] σ ρ ks (fun r σ' ρ' ks' => r = some (.int (iI (roomA z))) ∧ RoomOk (roomZ z) ∧ HZ σ' ρ' ks' 1 (roomZ z) ∧ WK ks' ρ' ∧ Gx σ σ' ρ ρ' ks ks' z ∧ ∀ p, FP ρ' (roomZ z) p → FP ρ z p ∨ ks.length ≤ p) := by
  refine x_enter (own := RX11) (L := [_, _, _]) (by decide +kernel) rfl (by exact Nat.le_of_ble_eq_true rfl) rfl (fun p e R s m args below meth c Z hZ hC hR hin => ?_)
  obtain ⟨w0, w43, ⟨wr0, wr1, wr3, wr4, wr5⟩, wh, wk, wn, wt⟩ := id hw
  obtain ⟨k1, k2, ra0, ra2, hs3, ⟨k15, k16, k17, k18⟩, ra5, ra9, ra11, ra13⟩ := id wh
  obtain ⟨n15, n16, n17, n18, n19⟩ := id hcn
  have y15 : σ 1 4 = z 15 := hz.2.2.2.1
  have y19 : σ 1 6 = z 19 := hz.2.2.2.2.1.1
  have y19b : ∀ j, 0 ≤ j → j < z 19 → σ 15 j = z (118 + j) := hz.2.2.2.2.1.2
  refine x_aload_n (pc := 0) hC dX11_room_0 rfl ?_
  refine x_getr (K := 0) (pc := 1) hC fX11_12_11 (by assumption) dX11_room_1 rfl rfl (by assumption) ?_
  refine x_geti (K := 4) (pc := 4) hC fX11_50_1 (by assumption) dX11_room_4 rfl rfl ?_
  rw [y15]
  refine x_iconst (pc := 7) hC dX11_room_7 ?_
  refine x_icmp_lt (tgt := 14) (pc := 8) hC (by omega) (by omega) dX11_room_8 (by decide) (fun c8 => ?_) (fun c8 => ?_)
  · refine x_new (pc := 14) hC (by decide) uwX4 nX11_53 hR (by decide) dX11_room_14 ?_
    refine x_dup (pc := 17) hC dX11_room_17 rfl ?_
    refine x_callIN (As := []) (Bs := []) (pc := 18) hC (c_initR E (q := ks.length) (by simp) (by simp)) wX11_55 pX4_init rfl rfl (by exact Nat.le_of_ble_eq_true rfl) hR (by decide) (by decide) (by decide) rfl dX11_room_18 (fun r18 σ18 ρ18 ks18 q18 => ?_)
    obtain ⟨rfl, e18, fr18, ⟨⟨v5, v6, v8, v10, v11, v12⟩, va⟩, v0⟩ := q18
    have hk18 : ∀ p, p < ks.length → ks18[p]? = ks[p]? := fun p hp => by rw [e18, ap_at (by rw [List.length_append]; omega), ap_at hp]
    have hs18 : ∀ p, p < ks.length → σ18 p = σ p := fun p hp => by rw [(fr18 p hp).1]; funext j; exact zr_p _ (by omega) _
    have hr18 : ∀ p, p < ks.length → ρ18 p = ρ p := fun p hp => by rw [(fr18 p hp).2]; funext j; exact nr_o _ (by omega)
    have hrm : RmK ks18 ρ18 ks.length := by
      have hx : ∀ i, (ks ++ [(0, 4)] ++ [(1, 10), (1, 10), (1, 10), (1, 100), (1, 4)])[ks.length + 1 + i]? = _ := fun i => ap_ix (n := ks.length + 1) (by simp) i
      rw [e18]
      exact ⟨by rw [ap_at (by simp)]; simp, ⟨hx 0, hx 1, hx 2, hx 3, hx 4⟩, v0⟩
    have q0 : ks18[0]? = some (0, 11) := (hk18 0 (by omega)).trans w0
    have q1 : ks18[1]? = some (0, 1) := (hk18 1 (by omega)).trans k1
    have q15 : ks18[15]? = some (1, 100) := (hk18 15 (by omega)).trans k15
    have qq := hrm.1
    have rr0 : ρ18 0 0 = some 1 := by rw [hr18 0 (by omega)]; exact wr0
    have rr5 : ρ18 1 5 = some 15 := by rw [hr18 1 (by omega)]; exact ra5
    have h15 : 0 ≤ z 15 ∧ z 15 ≤ 4 := by omega
    have hpi := rmR0_in h15 n19 htp
    obtain ⟨i1, i2, i3, i4, i5, i6, i7⟩ := rmR0_v z h15
    have hC0 : RdC (wr σ18 ks.length 8 (z 19)) ks.length (z 19) (z 15) 0 (rmR0 z) 0 (fun _ => 0) := by
      have hRH : RdH (wr σ18 ks.length 8 (z 19)) ks.length (rmR0 z) 0 (z 19) := ⟨by rw [wr_k _ _ _ (by decide)]; exact v10, wr_eq _ _ _ _, fun j j0 j1 => by rw [wr_p _ (by omega), hs18 15 (by omega), i7 _ (by omega) (by omega)]; exact y19b j j0 j1, n19, ⟨Int.le_refl _, n19.1⟩, hpi.2.2.2.2⟩
      have f6 : wr σ18 ks.length 8 (z 19) ks.length 6 = 0 := by rw [wr_k _ _ _ (by decide)]; exact v6
      have f11 : wr σ18 ks.length 8 (z 19) ks.length 11 = 80 := by rw [wr_k _ _ _ (by decide)]; exact v11
      have f12 : wr σ18 ks.length 8 (z 19) ks.length 12 = 3 := by rw [wr_k _ _ _ (by decide)]; exact v12
      have f5 : ∀ j, wr σ18 ks.length 8 (z 19) (ks.length + 5) j = 0 := fun j => by rw [wr_p _ (by omega)]; exact va _ (by omega) (by omega) j
      unfold RdC
      rw [f6, f11, f12, f5, f5, i2, i3, i4, i5, i6]
      refine ⟨hRH, ⟨rfl, by decide, by decide, by decide⟩, ⟨rfl, rfl, fun k hk => ?_⟩, fun k hk => by omega, ⟨rfl, fun n hn => absurd (show n < 0 from hn) (Nat.not_lt_zero n)⟩, ⟨rfl, by decide, by decide⟩, ⟨rfl, by decide, by decide⟩, ⟨by decide, Or.inl rfl, by decide⟩, ⟨by decide, Or.inl rfl, by decide⟩⟩
      rw [show k = 0 by omega]
      exact ⟨Nat.le_refl _, Int.le_refl _⟩
    refine x_astore_n (L' := [_, _, _]) (pc := 21) hC dX11_room_21 rfl rfl ?_
    refine x_aload_n (pc := 22) hC dX11_room_22 rfl ?_
    refine x_aload_n (pc := 23) hC dX11_room_23 rfl ?_
    refine x_getr (K := 0) (pc := 24) hC fX11_12_11 (by assumption) dX11_room_24 rfl rfl (by assumption) ?_
    refine x_getr (K := 5) (pc := 27) hC fX11_47_1 (by assumption) dX11_room_27 rfl rfl (by assumption) ?_
    refine x_aload_n (pc := 30) hC dX11_room_30 rfl ?_
    refine x_getr (K := 0) (pc := 31) hC fX11_12_11 (by assumption) dX11_room_31 rfl rfl (by assumption) ?_
    refine x_geti (K := 6) (pc := 34) hC fX11_43_1 (by assumption) dX11_room_34 rfl rfl ?_
    rw [hs18 1 (by omega), y19]
    refine x_callV (As := [_, _]) (Bs := [_, _]) (pc := 37) hC (c_isRead E hrm q15 hl h15 n19 hpi hC0) wX11_56_4 pX4_isRead (by assumption) rfl rfl (by exact Nat.le_of_ble_eq_true rfl) hR (by decide) (by decide) (by decide) rfl dX11_room_37 (fun r37 σ37 ρ37 ks37 q37 => ?_)
    obtain ⟨rfl, e37, f37, fr37, n37, c37⟩ := q37
    obtain rfl := e37.symm
    obtain rfl := f37.symm
    have hs37 : ∀ p, p < ks.length → σ37 p = σ p := fun p hp => (fr37 p (by omega)).trans (hs18 p hp)
    have rw0 : wq ρ18 ks.length 7 (some 15) 0 0 = some 1 := by rw [wq_p _ (by omega)]; exact rr0
    obtain ⟨o19, olo, ohi⟩ := rmT_o h15 n19 htp
    have hWK : ∀ r, WK ks18 (wq (wq ρ18 ks.length 7 (some 15)) 1 3 r) := fun r => hw.mem hl hk18 (fun p j p1 p2 p3 p4 _ => by
      by_cases h1 : p = 1
      · rw [h1, wq_k _ _ _ (p4 h1), wq_p _ (by omega), hr18 1 (by omega)]
      · rw [wq_p _ h1, wq_p _ (by omega), hr18 p (by omega)])
    have hlen : ks.length ≤ ks18.length := by rw [e18]; simp
    refine x_istore_n (L' := [_, _, _]) (pc := 40) hC dX11_room_40 rfl rfl ?_
    refine x_aload_n (pc := 41) hC dX11_room_41 rfl ?_
    refine x_getr (K := 0) (pc := 42) hC fX11_12_11 (by assumption) dX11_room_42 rfl rfl (by assumption) ?_
    refine x_iconst (pc := 45) hC dX11_room_45 ?_
    refine x_puti (K := 6) (pc := 46) hC rfl fX11_43_1 rfl (by assumption) dX11_room_46 rfl ?_
    refine x_iload_n (pc := 49) hC dX11_room_49 rfl ?_
    refine x_ifB_ne (tgt := 61) (pc := 50) hC  dX11_room_50 (by decide) (fun c50 => ?_) (fun c50 => ?_)
    · refine x_aload_n (pc := 61) hC dX11_room_61 rfl ?_
      refine x_getr (K := 0) (pc := 62) hC fX11_12_11 (by assumption) dX11_room_62 rfl rfl (by assumption) ?_
      refine x_aload_n (pc := 65) hC dX11_room_65 rfl ?_
      refine x_putr (K := 3) (pc := 66) hC rfl (some _) fX11_62_1 (Or.inl rfl) (by assumption) dX11_room_66 rfl rfl ?_
      refine x_aload_n (pc := 69) hC dX11_room_69 rfl ?_
      refine x_getr (K := 0) (pc := 70) hC fX11_12_11 (by assumption) dX11_room_70 rfl rfl (by rw [wq_p _ (by decide)]; exact rw0) ?_
      refine x_dup (pc := 73) hC dX11_room_73 rfl ?_
      refine x_geti (K := 4) (pc := 74) hC fX11_50_1 (by assumption) dX11_room_74 rfl rfl ?_
      rw [wr_k _ _ _ (by decide), hs37 1 (by omega), y15]
      refine x_iconst (pc := 77) hC dX11_room_77 ?_
      refine x_iadd (pc := 78) hC dX11_room_78 ?_
      refine x_puti (K := 4) (pc := 79) hC rfl fX11_50_1 rfl (by assumption) dX11_room_79 rfl ?_
      refine x_aload_n (pc := 82) hC dX11_room_82 rfl ?_
      refine x_getr (K := 0) (pc := 83) hC fX11_12_11 (by assumption) dX11_room_83 rfl rfl (by rw [wq_p _ (by decide)]; exact rw0) ?_
      refine x_geti (K := 4) (pc := 86) hC fX11_50_1 (by assumption) dX11_room_86 rfl rfl ?_
      rw [wr_eq]
      refine x_iconst (pc := 89) hC dX11_room_89 ?_
      refine x_isub (pc := 90) hC dX11_room_90 ?_
      refine x_ireturn hC hZ dX11_room_91 (by decide) (by decide) ?_
      obtain ⟨cw, ce⟩ := c50
      obtain ⟨i, P, hi, h5, hC⟩ := c37 cw ce
      have hzz : roomZ z = up (up (rmT z).2.2.2 15 ((rmT z).2.2.2 15 + 1)) 20 (z 15) := by
        unfold roomZ; rw [if_neg (show ¬ z 15 = 5 by omega), if_neg (fun h => by rcases h with h | h; exact h cw; exact h ce)]
      obtain ⟨z1, hz1⟩ : ∃ z1, z1 = roomZ z := ⟨_, rfl⟩
      rw [← hz1]
      rw [← hz1] at hzz
      have l1 : ∀ j, j ≠ 15 → j ≠ 19 → j ≠ 20 → j < 218 → z1 j = z j := fun j j1 j2 j3 j4 => by
        rw [hzz, up_ne _ j3, up_ne _ j1]; exact olo j j2 j4
      have l15 : z1 15 = z 15 + 1 := by rw [hzz, up_ne _ (by decide), up_eq, olo 15 (by decide) (by decide)]
      have l19 : z1 19 = 0 := by rw [hzz, up_ne _ (by decide), up_ne _ (by decide)]; exact o19
      have hk0 : RmK ks18 (wq (wq ρ18 ks.length 7 (some 15)) 1 3 (some ks.length)) ks.length := by
        obtain ⟨u0, u1, u2, u3, u4, u5, u6⟩ := id hrm
        refine ⟨u0, u1, ?_, ?_, ?_, ?_, ?_⟩ <;> rw [wq_p _ (by omega), wq_k _ _ _ (by decide)] <;> assumption
      obtain ⟨g1, g2⟩ := hC.room (z' := z1) hk0 h15 hi.2 h5 (by rw [hzz, up_eq]) (fun j hj => by rw [hzz, up_ne _ (by omega), up_ne _ (by omega)]; rfl)
      have hmm : ∀ p, p < ks.length → p ≠ 1 → wr (wr σ37 1 6 0) 1 4 (z 15 + 1) p = σ p ∧ wq (wq ρ18 ks.length 7 (some 15)) 1 3 (some ks.length) p = ρ p := fun p p1 p2 =>
        ⟨by rw [wr_of _ p2, wr_of _ p2]; exact hs37 p p1, by funext j; rw [wq_p _ p2, wq_p _ (by omega), hr18 p p1]⟩
      refine ⟨congrArg (fun z => some (Value.int (iI z))) ?_, g2, ?_, hWK _, ⟨⟨hk18, hlen⟩, fun p p1 p2 _ _ => hmm p p1 (by omega)⟩, fun p hp => ?_⟩
      · unfold roomA; rw [if_neg (show ¬ z 15 = 5 by omega), if_neg (fun h => by rcases h with h | h; exact h cw; exact h ce)]; omega
      · refine hz.roomX hl hcn hpl.1.1.2 hpl.2.1.1.2 hmm hk18 (fun j j1 j2 => by rw [wr_k _ _ _ j1, wr_k _ _ _ j2, hs37 1 (by omega)]) l1 ?_ ?_ l19 ⟨ks.length, wq_eq _ _ _ _, by omega, ?_⟩
        · rw [wr_eq, l15]
        · rw [wr_k _ _ _ (by decide), wr_eq, l19]
        · exact g1.mem (fun p p1 p2 => by rw [wr_of _ (by omega), wr_of _ (by omega)]) rfl (fun _ _ _ => rfl)
      · obtain ⟨f, y, ⟨f0, f1⟩, x1, x2⟩ := hp
        have h13 := hpl.1.1
        rw [l1 13 (by decide) (by decide) (by decide) (by decide)] at f1
        rw [(hmm 2 (by omega) (by decide)).2] at x1
        rw [l1 (22 + f) (by omega) (by omega) (by omega) (by omega)] at x2
        exact Or.inl ⟨f, y, ⟨f0, f1⟩, x1, x2⟩
    · refine x_bipush (pc := 53) hC dX11_room_53 (by decide +kernel) ?_
      refine x_aload_n (pc := 55) hC dX11_room_55 rfl ?_
      refine x_geti (K := 10) (pc := 56) hC fX11_60_4 (by assumption) dX11_room_56 rfl rfl ?_
      rw [wr_p _ (by omega), n37]
      refine x_isub (pc := 59) hC dX11_room_59 ?_
      refine x_ireturn hC hZ dX11_room_60 (by decide) (by decide) ?_
      have cn : (rmT z).2.1 ≠ 0 ∨ (rmT z).1 ≠ z 19 := by
        by_cases h : (rmT z).2.1 = 0
        · exact Or.inr (fun h2 => c50 ⟨h, h2⟩)
        · exact Or.inl h
      have hzz : roomZ z = (rmT z).2.2.2 := by
        unfold roomZ; rw [if_neg (show ¬ z 15 = 5 by omega), if_pos cn]
      obtain ⟨z1, hz1⟩ : ∃ z1, z1 = roomZ z := ⟨_, rfl⟩
      rw [← hz1]
      rw [← hz1] at hzz
      rw [← hzz] at o19 olo ohi
      have hrs : Rs z z1 := by
        refine ⟨olo 20 (by decide) (by decide), ?_⟩
        have := hpl.2.2.1.1
        by_cases h : z 20 = -1
        · exact Or.inl h
        · exact Or.inr ⟨by omega, ohi _ (by omega) h20⟩
      have l1 : ∀ j, j ≠ 15 → j ≠ 19 → j ≠ 20 → j < 218 → z1 j = z j := fun j j1 j2 j3 j4 => olo j j2 j4
      have hmm : ∀ p, p < ks.length → p ≠ 1 → wr σ37 1 6 0 p = σ p ∧ wq ρ18 ks.length 7 (some 15) p = ρ p := fun p p1 p2 =>
        ⟨by rw [wr_of _ p2]; exact hs37 p p1, by funext j; rw [wq_p _ (by omega), hr18 p p1]⟩
      have hr1 : wq ρ18 ks.length 7 (some 15) 1 = ρ 1 := by funext j; rw [wq_p _ (by omega), hr18 1 (by omega)]
      have hwk : WK ks18 (wq ρ18 ks.length 7 (some 15)) := hw.mem hl hk18 (fun p j p1 p2 p3 p4 _ => by rw [wq_p _ (by omega), hr18 p (by omega)])
      refine ⟨congrArg (fun z => some (Value.int (iI z))) ?_, hrs.room hpl.2.2.1, ?_, hwk, ⟨⟨hk18, hlen⟩, fun p p1 p2 _ _ => hmm p p1 (by omega)⟩, fun p hp => ?_⟩
      · unfold roomA; rw [if_neg (show ¬ z 15 = 5 by omega), if_pos cn]; rfl
      · obtain ⟨rq, b1, b2, b3⟩ := hz.2.2.1
        have hlr : rq + 5 < ks.length := at_lt b3.1.2.1.2.2.2.2
        refine hz.roomX hl hcn hpl.1.1.2 hpl.2.1.1.2 hmm hk18 (fun j j1 j2 => by rw [wr_k _ _ _ j2, hs37 1 (by omega)]) l1 ?_ ?_ o19 ⟨rq, by rw [hr1]; exact b1, b2, ?_⟩
        · rw [wr_k _ _ _ (by decide), hs37 1 (by omega), y15, olo 15 (by decide) (by decide)]
        · rw [wr_eq, o19]
        · exact hrs.rmp hpl.2.2.1.2.1.2 (b3.mem (fun p p1 p2 => (hmm p (by omega) (by omega)).1) (hmm rq (by omega) (by omega)).2 (fun p p1 p2 => hk18 p (by omega)))
      · obtain ⟨f, y, ⟨f0, f1⟩, x1, x2⟩ := hp
        have h13 := hpl.1.1
        rw [l1 13 (by decide) (by decide) (by decide) (by decide)] at f1
        rw [(hmm 2 (by omega) (by decide)).2] at x1
        rw [l1 (22 + f) (by omega) (by omega) (by omega) (by omega)] at x2
        exact Or.inl ⟨f, y, ⟨f0, f1⟩, x1, x2⟩
  · refine x_bipush (pc := 11) hC dX11_room_11 (by decide +kernel) ?_
    refine x_ireturn hC hZ dX11_room_13 (by decide) (by decide) ?_
    have h5 : z 15 = 5 := by omega
    have hze : roomZ z = z := by unfold roomZ; rw [if_pos h5]
    rw [hze]
    exact ⟨congrArg (fun z => some (Value.int (iI z))) (by unfold roomA; rw [if_pos h5]), hpl.2.2.1, hz, hw, Gx.rf _ _ _ _, fun p hp => Or.inl hp⟩
