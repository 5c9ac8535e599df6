/-! the hall's own cells are written -/
/-- how many rows there are of each -/
def Cn (z : zS) : Prop := (0 ≤ z 15 ∧ z 15 ≤ 5) ∧ (0 ≤ z 16 ∧ z 16 ≤ 6) ∧ (0 ≤ z 17 ∧ z 17 ≤ 4) ∧ (0 ≤ z 18 ∧ z 18 ≤ 8) ∧ (0 ≤ z 19 ∧ z 19 ≤ 100)
theorem tells_c3 {z z' : zS} (h20 : z' 20 = z 20) (h : ∀ j, 218 ≤ j → z' j = z j) (h0 : -1 ≤ z 20) {a : Int} (ha : 218 ≤ a) (b : Int) : tellsF z' a b = tellsF z a b := by
  unfold tellsF
  rw [h20]
  split
  · rfl
  · next hm => exact h _ (by omega)
theorem RmP.row3 {σ : xM} {ρ : xR} {ks : xKs} {q : Nat} {z z' : zS} (hr : RmP σ ρ ks q z) (h20 : z' 20 = z 20) (h : ∀ j, 218 ≤ j → z' j = z j) (h0 : -1 ≤ z 20) : RmP σ ρ ks q z' := by
  obtain ⟨a1, a2, a3, a4, a5, a6, P, b1, b2, b3⟩ := hr
  refine ⟨a1, ?_, ?_, a4, ?_, ?_, P, b1, ?_, ?_⟩
  · rw [tells_c3 h20 h h0 (by decide)]; exact a2
  · unfold flyF; rw [tells_c3 h20 h h0 (by decide)]; exact a3
  · rw [tells_c3 h20 h h0 (by decide)]; exact a5
  · rw [tells_c3 h20 h h0 (by decide)]; exact a6
  · rw [tells_c3 h20 h h0 (by decide)]; exact b2
  · intro i hi
    rw [h20]
    by_cases hm : z 20 = -1
    · obtain ⟨c1, c2, c3, c4, c5⟩ := b3 i hi
      refine ⟨c1, c2, c3, c4, fun hw => ?_⟩
      exfalso
      have hP := P_mono b3 (i + 1) ((σ q 5).toNat - (i + 1)) (by omega)
      rw [show i + 1 + ((σ q 5).toNat - (i + 1)) = (σ q 5).toNat by omega] at hP
      obtain ⟨len, d1, -⟩ := c5 hw
      have : tellsF z 228 0 = 0 := if_pos hm
      omega
    · have hs : ∀ n : Nat, z' (243 + 140 * z 20 + n) = z (243 + 140 * z 20 + n) := fun n => h _ (by omega)
      obtain ⟨c1, c2, c3, c4, c5⟩ := b3 i hi
      refine ⟨c1, c2, c3, c4, fun hw => ?_⟩
      obtain ⟨len, d1, d2, d3, d4, d5, d6, d7⟩ := c5 hw
      refine ⟨len, d1, d2, by rw [hs]; exact d3, fun k hk => by rw [hs]; exact d4 k hk, by rw [lkT_congr hs]; exact d5, by rw [lkT_congr hs]; exact d6, fun k hk => by rw [lkT_congr hs]; exact d7 k hk⟩
theorem HZ.upd {σ σ' : xM} {ρ : xR} {ks : xKs} {z z1 : zS} (h : HZ σ ρ ks 1 z) (h13 : z 13 ≤ 4) (h0 : -1 ≤ z 20) (hm : ∀ p, (9 ≤ p ∧ p ≤ 14 ∨ 19 ≤ p) → σ' p = σ p) (e13 : z1 13 = z 13) (e20 : z1 20 = z 20) (e22 : ∀ j, 22 ≤ j → j < 62 → z1 j = z j) (e218 : ∀ j, 218 ≤ j → z1 j = z j)
    (c1 : σ' 1 1 = z 13) (cS : SZ σ' 3 4 z1) (c4 : σ' 1 4 = z1 15) (cT : σ' 1 6 = z1 19 ∧ ∀ j, 0 ≤ j → j < z1 19 → σ' 15 j = z1 (118 + j)) (c7 : σ' 1 7 = z1 0) (c8 : σ' 1 8 = z1 21)
    (cH : σ' 1 10 = z1 16 ∧ ∀ k, 0 ≤ k → k < z1 16 → σ' 16 (k * 3) = z1 (68 + k) ∧ σ' 16 (k * 3 + 1) = z1 (74 + k) ∧ σ' 16 (k * 3 + 2) = z1 (80 + k))
    (cR : σ' 1 12 = z1 17 ∧ ∀ k, 0 ≤ k → k < z1 17 → σ' 17 (k * 3) = z1 (86 + k) ∧ σ' 17 (k * 3 + 1) = z1 (90 + k))
    (cB : σ' 1 14 = z1 18 ∧ ∀ k, 0 ≤ k → k < z1 18 → σ' 18 (k * 3) = z1 (94 + k) ∧ σ' 18 (k * 3 + 1) = z1 (102 + k) ∧ σ' 18 (k * 3 + 2) = z1 (110 + k)) : HZ σ' ρ ks 1 z1 := by
  obtain ⟨⟨a1, a2⟩, -, ⟨rq, b1, b2, b3⟩, -⟩ := h
  refine ⟨⟨by rw [e13]; exact c1, fun f f0 f1 => ?_⟩, cS, ⟨rq, b1, b2, (b3.mem (fun p p1 p2 => hm p (by omega)) rfl (fun _ _ _ => rfl)).row3 e20 e218 h0⟩, c4, cT, c7, c8, cH, cR, cB⟩
  rw [e13] at f1
  obtain ⟨q, d1, d2, d3⟩ := a2 f f0 f1
  exact ⟨q, d1, d2, (d3.mem (hm q (by omega)) (fun _ => hm _ (by omega)) rfl rfl (fun _ => rfl)).row ⟨f0, by omega⟩ e22⟩
set_option maxHeartbeats 4000000 in
set_option maxRecDepth 100000 in
theorem c_feed (E : xE) {σ : xM} {ρ : xR} {ks : xKs} (hw : WK ks ρ) {z : zS} (hz : HZ σ ρ ks 1 z) (hpl : PlOk z) (hcn : Cn z) {x : Int} (hx0 : rg x) : Sp E yX11_feed kX11_feed 0 0 0 [.ref 0, .int (iI x)] σ ρ ks (fun r σ' ρ' ks' => r = some (.int (iI (feedA z x))) ∧ HZ σ' ρ ks 1 (feedZ z x) ∧ Hx σ σ' ρ z ∧ ρ' = ρ ∧ ks' = ks) := by
  obtain ⟨w0, w43, ⟨wr0, wr1, wr3, wr4, wr5⟩, wh, wk, wn, wt⟩ := id hw
  have hk := wh.hk
  obtain ⟨k1, k2, r0, r2, hs3⟩ := id hk
  have hfs := hz.fans
  have hsz := hz.sit
  obtain ⟨⟨hz1, -⟩, -, ⟨rq, hrq, hrq2, hrm⟩, hz4, ⟨hz6, -⟩, hz7, hz8, ⟨hz10, -⟩, ⟨hz12, -⟩, ⟨hz14, -⟩⟩ := id hz
  have hfan := hpl.1
  have hsit := hpl.2.1
  have h13 := hpl.1.1
  have h14 := hpl.2.1.1
  have hz00 := hpl.2.2.2
  obtain ⟨n0, ⟨n1, n2, n3, n4, n5⟩, m0, m1, m2, m3, m4⟩ := id wn
  obtain ⟨h15, h16, h17, h18, h19⟩ := id hcn
  obtain ⟨-, -, -, -, ⟨-, hz6b⟩, -, -, ⟨-, hz10b⟩, ⟨-, hz12b⟩, ⟨-, hz14b⟩⟩ := id hz
  obtain ⟨k15, k16, k17, k18⟩ := wh.2.2.2.2.2.1
  obtain ⟨r5, r9, r11, r13⟩ := wh.2.2.2.2.2.2
  refine x_enter (own := RX11) (L := [_, _]) (by decide +kernel) rfl (by exact Nat.le_of_ble_eq_true rfl) rfl (fun p e R s m args below meth c Z hZ hC hR hin => ?_)
  refine x_iload_n (pc := 0) hC dX11_feed_0 rfl ?_
  refine x_if_lt (tgt := 10) (pc := 1) hC (by omega) dX11_feed_1 (by decide) (fun c1 => ?_) (fun c1 => ?_)
  · refine x_bipush (pc := 10) hC dX11_feed_10 (by decide +kernel) ?_
    refine x_ireturn hC hZ dX11_feed_12 (by decide) (by decide) ?_
    refine ⟨congrArg (fun z => some (Value.int (iI z))) ?_, ?_, Hx.rf _ _ _, rfl, rfl⟩
    · unfold feedA
      (repeat (first | rw [if_pos (by omega)] | rw [if_neg (by omega)]))
      all_goals (first | rfl | omega | assumption)
    · unfold feedZ
      (repeat (first | rw [if_pos (by omega)] | rw [if_neg (by omega)]))
      exact hz
  · refine x_iload_n (pc := 4) hC dX11_feed_4 rfl ?_
    refine x_bipush (pc := 5) hC dX11_feed_5 (by decide +kernel) ?_
    refine x_icmp_le (tgt := 13) (pc := 7) hC (by omega) (by omega) dX11_feed_7 (by decide) (fun c7 => ?_) (fun c7 => ?_)
    · refine x_aload_n (pc := 13) hC dX11_feed_13 rfl ?_
      refine x_getr (K := 0) (pc := 14) hC fX11_12_11 (by assumption) dX11_feed_14 rfl rfl (by assumption) ?_
      refine x_geti (K := 6) (pc := 17) hC fX11_43_1 (by assumption) dX11_feed_17 rfl rfl ?_
      rw [hz6]
      refine x_bipush (pc := 20) hC dX11_feed_20 (by decide +kernel) ?_
      refine x_icmp_lt (tgt := 28) (pc := 22) hC (by omega) (by omega) dX11_feed_22 (by decide) (fun c22 => ?_) (fun c22 => ?_)
      · refine x_aload_n (pc := 28) hC dX11_feed_28 rfl ?_
        refine x_getr (K := 0) (pc := 29) hC fX11_12_11 (by assumption) dX11_feed_29 rfl rfl (by assumption) ?_
        refine x_getr (K := 5) (pc := 32) hC fX11_47_1 (by assumption) dX11_feed_32 rfl rfl (by assumption) ?_
        refine x_aload_n (pc := 35) hC dX11_feed_35 rfl ?_
        refine x_getr (K := 0) (pc := 36) hC fX11_12_11 (by assumption) dX11_feed_36 rfl rfl (by assumption) ?_
        refine x_geti (K := 6) (pc := 39) hC fX11_43_1 (by assumption) dX11_feed_39 rfl rfl ?_
        rw [hz6]
        refine x_iload_n (pc := 42) hC dX11_feed_42 rfl ?_
        refine x_iast (pc := 43) hC (by assumption) (by omega) dX11_feed_43 ?_
        refine x_aload_n (pc := 44) hC dX11_feed_44 rfl ?_
        refine x_getr (K := 0) (pc := 45) hC fX11_12_11 (by assumption) dX11_feed_45 rfl rfl (by assumption) ?_
        refine x_dup (pc := 48) hC dX11_feed_48 rfl ?_
        refine x_geti (K := 6) (pc := 49) hC fX11_43_1 (by assumption) dX11_feed_49 rfl rfl ?_
        simp (disch := omega) only [wr_p]
        rw [hz6]
        refine x_iconst (pc := 52) hC dX11_feed_52 ?_
        refine x_iadd (pc := 53) hC dX11_feed_53 ?_
        refine x_puti (K := 6) (pc := 54) hC rfl fX11_43_1 rfl (by assumption) dX11_feed_54 rfl ?_
        refine x_aload_n (pc := 57) hC dX11_feed_57 rfl ?_
        refine x_getr (K := 0) (pc := 58) hC fX11_12_11 (by assumption) dX11_feed_58 rfl rfl (by assumption) ?_
        refine x_geti (K := 6) (pc := 61) hC fX11_43_1 (by assumption) dX11_feed_61 rfl rfl ?_
        rw [wr_eq]
        refine x_ireturn hC hZ dX11_feed_64 (by decide) (by decide) ?_
        refine ⟨congrArg (fun z => some (Value.int (iI z))) ?_, ?_, fun p p1 p2 p3 => by simp (disch := omega) only [wr_of], rfl, rfl⟩
        · unfold feedA
          (repeat (first | rw [if_pos (by omega)] | rw [if_neg (by omega)]))
          all_goals (first | rfl | omega | assumption)
        · unfold feedZ
          (repeat (first | rw [if_pos (by omega)] | rw [if_neg (by omega)]))
          exact hz.upd h13.2 hpl.2.2.1.1.1 (fun p hp => by (try simp (disch := omega) only [wr_of, wr_p, wr_k, wr_eq, up_ne, up_eq])) (by (try simp (disch := omega) only [wr_of, wr_p, wr_k, wr_eq, up_ne, up_eq])) (by (try simp (disch := omega) only [wr_of, wr_p, wr_k, wr_eq, up_ne, up_eq])) (fun j j0 j1 => by (try simp (disch := omega) only [wr_of, wr_p, wr_k, wr_eq, up_ne, up_eq])) (fun j j0 => by (try simp (disch := omega) only [wr_of, wr_p, wr_k, wr_eq, up_ne, up_eq])) (by (try simp (disch := omega) only [wr_of, wr_p, wr_k, wr_eq, up_ne, up_eq]); exact hz1) ⟨by (try simp (disch := omega) only [wr_of, wr_p, wr_k, wr_eq, up_ne, up_eq]); exact hsz.1, fun j j0 j1 => by (try simp (disch := omega) only [wr_of, wr_p, wr_k, wr_eq, up_ne, up_eq] at j1); (try simp (disch := omega) only [wr_of, wr_p, wr_k, wr_eq, up_ne, up_eq]); exact hsz.2 j j0 j1⟩ (by (try simp (disch := omega) only [wr_of, wr_p, wr_k, wr_eq, up_ne, up_eq]); exact hz4) ⟨by (try simp (disch := omega) only [wr_of, wr_p, wr_k, wr_eq, up_ne, up_eq]), fun j j0 j1 => by
            (try simp (disch := omega) only [wr_of, wr_p, wr_k, wr_eq, up_ne, up_eq] at j1)
            by_cases hj : j = z 19
            · subst hj; simp (disch := omega) only [wr_of, wr_p, wr_k, wr_eq, up_ne, up_eq]
            · rw [wr_p _ (by decide), wr_k _ _ _ hj, up_ne _ (by omega), up_ne _ (by omega)]; exact hz6b j j0 (by omega)⟩ (by (try simp (disch := omega) only [wr_of, wr_p, wr_k, wr_eq, up_ne, up_eq]); exact hz7) (by (try simp (disch := omega) only [wr_of, wr_p, wr_k, wr_eq, up_ne, up_eq]); exact hz8) ⟨by (try simp (disch := omega) only [wr_of, wr_p, wr_k, wr_eq, up_ne, up_eq]); exact hz10, fun k k0 k1 => by (try simp (disch := omega) only [wr_of, wr_p, wr_k, wr_eq, up_ne, up_eq] at k1); (try simp (disch := omega) only [wr_of, wr_p, wr_k, wr_eq, up_ne, up_eq]); exact hz10b k k0 k1⟩ ⟨by (try simp (disch := omega) only [wr_of, wr_p, wr_k, wr_eq, up_ne, up_eq]); exact hz12, fun k k0 k1 => by (try simp (disch := omega) only [wr_of, wr_p, wr_k, wr_eq, up_ne, up_eq] at k1); (try simp (disch := omega) only [wr_of, wr_p, wr_k, wr_eq, up_ne, up_eq]); exact hz12b k k0 k1⟩ ⟨by (try simp (disch := omega) only [wr_of, wr_p, wr_k, wr_eq, up_ne, up_eq]); exact hz14, fun k k0 k1 => by (try simp (disch := omega) only [wr_of, wr_p, wr_k, wr_eq, up_ne, up_eq] at k1); (try simp (disch := omega) only [wr_of, wr_p, wr_k, wr_eq, up_ne, up_eq]); exact hz14b k k0 k1⟩
      · refine x_bipush (pc := 25) hC dX11_feed_25 (by decide +kernel) ?_
        refine x_ireturn hC hZ dX11_feed_27 (by decide) (by decide) ?_
        refine ⟨congrArg (fun z => some (Value.int (iI z))) ?_, ?_, Hx.rf _ _ _, rfl, rfl⟩
        · unfold feedA
          (repeat (first | rw [if_pos (by omega)] | rw [if_neg (by omega)]))
          all_goals (first | rfl | omega | assumption)
        · unfold feedZ
          (repeat (first | rw [if_pos (by omega)] | rw [if_neg (by omega)]))
          exact hz
    · refine x_bipush (pc := 10) hC dX11_feed_10 (by decide +kernel) ?_
      refine x_ireturn hC hZ dX11_feed_12 (by decide) (by decide) ?_
      refine ⟨congrArg (fun z => some (Value.int (iI z))) ?_, ?_, Hx.rf _ _ _, rfl, rfl⟩
      · unfold feedA
        (repeat (first | rw [if_pos (by omega)] | rw [if_neg (by omega)]))
        all_goals (first | rfl | omega | assumption)
      · unfold feedZ
        (repeat (first | rw [if_pos (by omega)] | rw [if_neg (by omega)]))
        exact hz

set_option maxHeartbeats 4000000 in
set_option maxRecDepth 100000 in
theorem c_move (E : xE) {σ : xM} {ρ : xR} {ks : xKs} (hw : WK ks ρ) {z : zS} (hz : HZ σ ρ ks 1 z) (hpl : PlOk z) (hcn : Cn z) {y x : Int} (hy0 : rg y) (hx0 : rg x) : Sp E yX11_move kX11_move 1 0 0 [.ref 0, .int (iI y), .int (iI x)] σ ρ ks (fun r σ' ρ' ks' => r = some (.int (iI (moveA z y x))) ∧ HZ σ' ρ ks 1 (moveZ z y x) ∧ Hx σ σ' ρ z ∧ ρ' = ρ ∧ ks' = ks) := by
  obtain ⟨w0, w43, ⟨wr0, wr1, wr3, wr4, wr5⟩, wh, wk, wn, wt⟩ := id hw
  have hk := wh.hk
  obtain ⟨k1, k2, r0, r2, hs3⟩ := id hk
  have hfs := hz.fans
  have hsz := hz.sit
  obtain ⟨⟨hz1, -⟩, -, ⟨rq, hrq, hrq2, hrm⟩, hz4, ⟨hz6, -⟩, hz7, hz8, ⟨hz10, -⟩, ⟨hz12, -⟩, ⟨hz14, -⟩⟩ := id hz
  have hfan := hpl.1
  have hsit := hpl.2.1
  have h13 := hpl.1.1
  have h14 := hpl.2.1.1
  have hz00 := hpl.2.2.2
  obtain ⟨n0, ⟨n1, n2, n3, n4, n5⟩, m0, m1, m2, m3, m4⟩ := id wn
  obtain ⟨h15, h16, h17, h18, h19⟩ := id hcn
  obtain ⟨-, -, -, -, ⟨-, hz6b⟩, -, -, ⟨-, hz10b⟩, ⟨-, hz12b⟩, ⟨-, hz14b⟩⟩ := id hz
  obtain ⟨k15, k16, k17, k18⟩ := wh.2.2.2.2.2.1
  obtain ⟨r5, r9, r11, r13⟩ := wh.2.2.2.2.2.2
  obtain ⟨h30, ⟨h31, h32, h33, h34, h35⟩, h36, h37, h38, h39, h3a⟩ := id hs3
  refine x_enter (own := RX11) (L := [_, _, _, _]) (by decide +kernel) rfl (by exact Nat.le_of_ble_eq_true rfl) rfl (fun p e R s m args below meth c Z hZ hC hR hin => ?_)
  refine x_aload_n (pc := 0) hC dX11_move_0 rfl ?_
  refine x_getr (K := 0) (pc := 1) hC fX11_12_11 (by assumption) dX11_move_1 rfl rfl (by assumption) ?_
  refine x_getr (K := 2) (pc := 4) hC fX11_108_1 (by assumption) dX11_move_4 rfl rfl (by assumption) ?_
  refine x_iload_n (pc := 7) hC dX11_move_7 rfl ?_
  refine x_callV1 (As := [_]) (Bs := [_]) (pc := 8) hC (c_has E hs3 hsz hsit (by omega)) wX11_139_5 pX5_has (by assumption) rfl rfl (by exact Nat.le_of_ble_eq_true rfl) hR (by decide) (by decide) (by decide) rfl dX11_move_8 ?_
  refine x_ifB_eq (tgt := 21) (pc := 11) hC  dX11_move_11 (by decide) (fun c11 => ?_) (fun c11 => ?_)
  · refine x_iconst (pc := 21) hC dX11_move_21 ?_
    refine x_ireturn hC hZ dX11_move_22 (by decide) (by decide) ?_
    refine ⟨congrArg (fun z => some (Value.int (iI z))) ?_, ?_, Hx.rf _ _ _, rfl, rfl⟩
    · unfold moveA
      (repeat (first | rw [if_pos (by omega)] | rw [if_neg (by omega)]))
      all_goals (first | rfl | omega | assumption)
    · unfold moveZ
      (repeat (first | rw [if_pos (by omega)] | rw [if_neg (by omega)]))
      exact hz
  · refine x_iload_n (pc := 14) hC dX11_move_14 rfl ?_
    refine x_callS1 (As := [_]) (Bs := [_]) (pc := 15) hC (c_isPlace E (by omega)) wX11_115 pX11_isPlace rfl rfl (by exact Nat.le_of_ble_eq_true rfl) hR (by decide) (by decide) (by decide) rfl dX11_move_15 ?_
    refine x_ifB_ne (tgt := 23) (pc := 18) hC  dX11_move_18 (by decide) (fun c18 => ?_) (fun c18 => ?_)
    · refine x_aload_n (pc := 23) hC dX11_move_23 rfl ?_
      refine x_getr (K := 0) (pc := 24) hC fX11_12_11 (by assumption) dX11_move_24 rfl rfl (by assumption) ?_
      refine x_getr (K := 2) (pc := 27) hC fX11_108_1 (by assumption) dX11_move_27 rfl rfl (by assumption) ?_
      refine x_getr (K := 0) (pc := 30) hC fX11_130_5 (by assumption) dX11_move_30 rfl rfl (by assumption) ?_
      refine x_iload_n (pc := 33) hC dX11_move_33 rfl ?_
      refine x_iald (pc := 34) hC (by assumption) (by omega) dX11_move_34 ?_
      refine x_istore_n (L' := [_, _, _, _]) (pc := 35) hC dX11_move_35 rfl rfl ?_
      refine x_aload_n (pc := 36) hC dX11_move_36 rfl ?_
      refine x_getr (K := 0) (pc := 37) hC fX11_12_11 (by assumption) dX11_move_37 rfl rfl (by assumption) ?_
      refine x_getr (K := 2) (pc := 40) hC fX11_108_1 (by assumption) dX11_move_40 rfl rfl (by assumption) ?_
      refine x_getr (K := 0) (pc := 43) hC fX11_130_5 (by assumption) dX11_move_43 rfl rfl (by assumption) ?_
      refine x_iload_n (pc := 46) hC dX11_move_46 rfl ?_
      refine x_iload_n (pc := 47) hC dX11_move_47 rfl ?_
      refine x_iast (pc := 48) hC (by assumption) (by omega) dX11_move_48 ?_
      refine x_iload_n (pc := 49) hC dX11_move_49 rfl ?_
      refine x_ireturn hC hZ dX11_move_50 (by decide) (by decide) ?_
      obtain ⟨e0, e1, e2⟩ := hsz.2 y (by omega) (by omega)
      refine ⟨congrArg (fun z => some (Value.int (iI z))) ?_, ?_, fun p p1 p2 p3 => by simp (disch := omega) only [wr_of], rfl, rfl⟩
      · unfold moveA
        (repeat (first | rw [if_pos (by omega)] | rw [if_neg (by omega)]))
        all_goals (first | rfl | omega | assumption)
      · unfold moveZ
        (repeat (first | rw [if_pos (by omega)] | rw [if_neg (by omega)]))
        exact hz.upd h13.2 hpl.2.2.1.1.1 (fun p hp => by (try simp (disch := omega) only [wr_of, wr_p, wr_k, wr_eq, up_ne, up_eq])) (by (try simp (disch := omega) only [wr_of, wr_p, wr_k, wr_eq, up_ne, up_eq])) (by (try simp (disch := omega) only [wr_of, wr_p, wr_k, wr_eq, up_ne, up_eq])) (fun j j0 j1 => by (try simp (disch := omega) only [wr_of, wr_p, wr_k, wr_eq, up_ne, up_eq])) (fun j j0 => by (try simp (disch := omega) only [wr_of, wr_p, wr_k, wr_eq, up_ne, up_eq])) (by (try simp (disch := omega) only [wr_of, wr_p, wr_k, wr_eq, up_ne, up_eq]); exact hz1) ⟨by (try simp (disch := omega) only [wr_of, wr_p, wr_k, wr_eq, up_ne, up_eq]); exact hsz.1, fun j j0 j1 => by
          (try simp (disch := omega) only [wr_of, wr_p, wr_k, wr_eq, up_ne, up_eq] at j1)
          obtain ⟨e0, e1, e2⟩ := hsz.2 j j0 j1
          by_cases hj : j = y
          · subst hj; simp (disch := omega) only [wr_of, wr_p, wr_k, wr_eq, up_ne, up_eq]; exact ⟨trivial, e1, e2⟩
          · rw [wr_k _ _ _ hj, up_ne _ (by omega), wr_p _ (by decide), wr_p _ (by decide), up_ne _ (by omega), up_ne _ (by omega)]; exact ⟨e0, e1, e2⟩⟩ (by (try simp (disch := omega) only [wr_of, wr_p, wr_k, wr_eq, up_ne, up_eq]); exact hz4) ⟨by (try simp (disch := omega) only [wr_of, wr_p, wr_k, wr_eq, up_ne, up_eq]); exact hz6, fun j j0 j1 => by (try simp (disch := omega) only [wr_of, wr_p, wr_k, wr_eq, up_ne, up_eq] at j1); (try simp (disch := omega) only [wr_of, wr_p, wr_k, wr_eq, up_ne, up_eq]); exact hz6b j j0 j1⟩ (by (try simp (disch := omega) only [wr_of, wr_p, wr_k, wr_eq, up_ne, up_eq]); exact hz7) (by (try simp (disch := omega) only [wr_of, wr_p, wr_k, wr_eq, up_ne, up_eq]); exact hz8) ⟨by (try simp (disch := omega) only [wr_of, wr_p, wr_k, wr_eq, up_ne, up_eq]); exact hz10, fun k k0 k1 => by (try simp (disch := omega) only [wr_of, wr_p, wr_k, wr_eq, up_ne, up_eq] at k1); (try simp (disch := omega) only [wr_of, wr_p, wr_k, wr_eq, up_ne, up_eq]); exact hz10b k k0 k1⟩ ⟨by (try simp (disch := omega) only [wr_of, wr_p, wr_k, wr_eq, up_ne, up_eq]); exact hz12, fun k k0 k1 => by (try simp (disch := omega) only [wr_of, wr_p, wr_k, wr_eq, up_ne, up_eq] at k1); (try simp (disch := omega) only [wr_of, wr_p, wr_k, wr_eq, up_ne, up_eq]); exact hz12b k k0 k1⟩ ⟨by (try simp (disch := omega) only [wr_of, wr_p, wr_k, wr_eq, up_ne, up_eq]); exact hz14, fun k k0 k1 => by (try simp (disch := omega) only [wr_of, wr_p, wr_k, wr_eq, up_ne, up_eq] at k1); (try simp (disch := omega) only [wr_of, wr_p, wr_k, wr_eq, up_ne, up_eq]); exact hz14b k k0 k1⟩
    · refine x_iconst (pc := 21) hC dX11_move_21 ?_
      refine x_ireturn hC hZ dX11_move_22 (by decide) (by decide) ?_
      refine ⟨congrArg (fun z => some (Value.int (iI z))) ?_, ?_, Hx.rf _ _ _, rfl, rfl⟩
      · unfold moveA
        (repeat (first | rw [if_pos (by omega)] | rw [if_neg (by omega)]))
        all_goals (first | rfl | omega | assumption)
      · unfold moveZ
        (repeat (first | rw [if_pos (by omega)] | rw [if_neg (by omega)]))
        exact hz

set_option maxHeartbeats 4000000 in
set_option maxRecDepth 100000 in
theorem c_heat (E : xE) {σ : xM} {ρ : xR} {ks : xKs} (hw : WK ks ρ) {z : zS} (hz : HZ σ ρ ks 1 z) (hpl : PlOk z) (hcn : Cn z) {y x : Int} (hy0 : rg y) (hx0 : rg x) : Sp E yX11_heat kX11_heat 1 0 0 [.ref 0, .int (iI y), .int (iI x)] σ ρ ks (fun r σ' ρ' ks' => r = some (.int (iI (heatA z y x))) ∧ HZ σ' ρ ks 1 (heatZ z y x) ∧ Hx σ σ' ρ z ∧ ρ' = ρ ∧ ks' = ks) := by
  obtain ⟨w0, w43, ⟨wr0, wr1, wr3, wr4, wr5⟩, wh, wk, wn, wt⟩ := id hw
  have hk := wh.hk
  obtain ⟨k1, k2, r0, r2, hs3⟩ := id hk
  have hfs := hz.fans
  have hsz := hz.sit
  obtain ⟨⟨hz1, -⟩, -, ⟨rq, hrq, hrq2, hrm⟩, hz4, ⟨hz6, -⟩, hz7, hz8, ⟨hz10, -⟩, ⟨hz12, -⟩, ⟨hz14, -⟩⟩ := id hz
  have hfan := hpl.1
  have hsit := hpl.2.1
  have h13 := hpl.1.1
  have h14 := hpl.2.1.1
  have hz00 := hpl.2.2.2
  obtain ⟨n0, ⟨n1, n2, n3, n4, n5⟩, m0, m1, m2, m3, m4⟩ := id wn
  obtain ⟨h15, h16, h17, h18, h19⟩ := id hcn
  obtain ⟨-, -, -, -, ⟨-, hz6b⟩, -, -, ⟨-, hz10b⟩, ⟨-, hz12b⟩, ⟨-, hz14b⟩⟩ := id hz
  obtain ⟨k15, k16, k17, k18⟩ := wh.2.2.2.2.2.1
  obtain ⟨r5, r9, r11, r13⟩ := wh.2.2.2.2.2.2
  obtain ⟨h30, ⟨h31, h32, h33, h34, h35⟩, h36, h37, h38, h39, h3a⟩ := id hs3
  refine x_enter (own := RX11) (L := [_, _, _, _]) (by decide +kernel) rfl (by exact Nat.le_of_ble_eq_true rfl) rfl (fun p e R s m args below meth c Z hZ hC hR hin => ?_)
  refine x_aload_n (pc := 0) hC dX11_heat_0 rfl ?_
  refine x_getr (K := 0) (pc := 1) hC fX11_12_11 (by assumption) dX11_heat_1 rfl rfl (by assumption) ?_
  refine x_getr (K := 2) (pc := 4) hC fX11_108_1 (by assumption) dX11_heat_4 rfl rfl (by assumption) ?_
  refine x_iload_n (pc := 7) hC dX11_heat_7 rfl ?_
  refine x_callV1 (As := [_]) (Bs := [_]) (pc := 8) hC (c_has E hs3 hsz hsit (by omega)) wX11_139_5 pX5_has (by assumption) rfl rfl (by exact Nat.le_of_ble_eq_true rfl) hR (by decide) (by decide) (by decide) rfl dX11_heat_8 ?_
  refine x_ifB_ne (tgt := 16) (pc := 11) hC  dX11_heat_11 (by decide) (fun c11 => ?_) (fun c11 => ?_)
  · refine x_iload_n (pc := 16) hC dX11_heat_16 rfl ?_
    refine x_callS1 (As := [_]) (Bs := [_]) (pc := 17) hC (c_isHeat E (by omega)) wX11_124 pX11_isHeat rfl rfl (by exact Nat.le_of_ble_eq_true rfl) hR (by decide) (by decide) (by decide) rfl dX11_heat_17 ?_
    refine x_ifB_ne (tgt := 26) (pc := 20) hC  dX11_heat_20 (by decide) (fun c20 => ?_) (fun c20 => ?_)
    · refine x_aload_n (pc := 26) hC dX11_heat_26 rfl ?_
      refine x_getr (K := 0) (pc := 27) hC fX11_12_11 (by assumption) dX11_heat_27 rfl rfl (by assumption) ?_
      refine x_getr (K := 2) (pc := 30) hC fX11_108_1 (by assumption) dX11_heat_30 rfl rfl (by assumption) ?_
      refine x_getr (K := 1) (pc := 33) hC fX11_133_5 (by assumption) dX11_heat_33 rfl rfl (by assumption) ?_
      refine x_iload_n (pc := 36) hC dX11_heat_36 rfl ?_
      refine x_iald (pc := 37) hC (by assumption) (by omega) dX11_heat_37 ?_
      refine x_istore_n (L' := [_, _, _, _]) (pc := 38) hC dX11_heat_38 rfl rfl ?_
      refine x_aload_n (pc := 39) hC dX11_heat_39 rfl ?_
      refine x_getr (K := 0) (pc := 40) hC fX11_12_11 (by assumption) dX11_heat_40 rfl rfl (by assumption) ?_
      refine x_getr (K := 2) (pc := 43) hC fX11_108_1 (by assumption) dX11_heat_43 rfl rfl (by assumption) ?_
      refine x_getr (K := 1) (pc := 46) hC fX11_133_5 (by assumption) dX11_heat_46 rfl rfl (by assumption) ?_
      refine x_iload_n (pc := 49) hC dX11_heat_49 rfl ?_
      refine x_iload_n (pc := 50) hC dX11_heat_50 rfl ?_
      refine x_iast (pc := 51) hC (by assumption) (by omega) dX11_heat_51 ?_
      refine x_iload_n (pc := 52) hC dX11_heat_52 rfl ?_
      refine x_ireturn hC hZ dX11_heat_53 (by decide) (by decide) ?_
      obtain ⟨e0, e1, e2⟩ := hsz.2 y (by omega) (by omega)
      refine ⟨congrArg (fun z => some (Value.int (iI z))) ?_, ?_, fun p p1 p2 p3 => by simp (disch := omega) only [wr_of], rfl, rfl⟩
      · unfold heatA
        (repeat (first | rw [if_pos (by omega)] | rw [if_neg (by omega)]))
        all_goals (first | rfl | omega | assumption)
      · unfold heatZ
        (repeat (first | rw [if_pos (by omega)] | rw [if_neg (by omega)]))
        exact hz.upd h13.2 hpl.2.2.1.1.1 (fun p hp => by (try simp (disch := omega) only [wr_of, wr_p, wr_k, wr_eq, up_ne, up_eq])) (by (try simp (disch := omega) only [wr_of, wr_p, wr_k, wr_eq, up_ne, up_eq])) (by (try simp (disch := omega) only [wr_of, wr_p, wr_k, wr_eq, up_ne, up_eq])) (fun j j0 j1 => by (try simp (disch := omega) only [wr_of, wr_p, wr_k, wr_eq, up_ne, up_eq])) (fun j j0 => by (try simp (disch := omega) only [wr_of, wr_p, wr_k, wr_eq, up_ne, up_eq])) (by (try simp (disch := omega) only [wr_of, wr_p, wr_k, wr_eq, up_ne, up_eq]); exact hz1) ⟨by (try simp (disch := omega) only [wr_of, wr_p, wr_k, wr_eq, up_ne, up_eq]); exact hsz.1, fun j j0 j1 => by
          (try simp (disch := omega) only [wr_of, wr_p, wr_k, wr_eq, up_ne, up_eq] at j1)
          obtain ⟨e0, e1, e2⟩ := hsz.2 j j0 j1
          by_cases hj : j = y
          · subst hj; simp (disch := omega) only [wr_of, wr_p, wr_k, wr_eq, up_ne, up_eq]; exact ⟨e0, trivial, e2⟩
          · rw [wr_p _ (by decide), up_ne _ (by omega), wr_k _ _ _ hj, wr_p _ (by decide), up_ne _ (by omega), up_ne _ (by omega)]; exact ⟨e0, e1, e2⟩⟩ (by (try simp (disch := omega) only [wr_of, wr_p, wr_k, wr_eq, up_ne, up_eq]); exact hz4) ⟨by (try simp (disch := omega) only [wr_of, wr_p, wr_k, wr_eq, up_ne, up_eq]); exact hz6, fun j j0 j1 => by (try simp (disch := omega) only [wr_of, wr_p, wr_k, wr_eq, up_ne, up_eq] at j1); (try simp (disch := omega) only [wr_of, wr_p, wr_k, wr_eq, up_ne, up_eq]); exact hz6b j j0 j1⟩ (by (try simp (disch := omega) only [wr_of, wr_p, wr_k, wr_eq, up_ne, up_eq]); exact hz7) (by (try simp (disch := omega) only [wr_of, wr_p, wr_k, wr_eq, up_ne, up_eq]); exact hz8) ⟨by (try simp (disch := omega) only [wr_of, wr_p, wr_k, wr_eq, up_ne, up_eq]); exact hz10, fun k k0 k1 => by (try simp (disch := omega) only [wr_of, wr_p, wr_k, wr_eq, up_ne, up_eq] at k1); (try simp (disch := omega) only [wr_of, wr_p, wr_k, wr_eq, up_ne, up_eq]); exact hz10b k k0 k1⟩ ⟨by (try simp (disch := omega) only [wr_of, wr_p, wr_k, wr_eq, up_ne, up_eq]); exact hz12, fun k k0 k1 => by (try simp (disch := omega) only [wr_of, wr_p, wr_k, wr_eq, up_ne, up_eq] at k1); (try simp (disch := omega) only [wr_of, wr_p, wr_k, wr_eq, up_ne, up_eq]); exact hz12b k k0 k1⟩ ⟨by (try simp (disch := omega) only [wr_of, wr_p, wr_k, wr_eq, up_ne, up_eq]); exact hz14, fun k k0 k1 => by (try simp (disch := omega) only [wr_of, wr_p, wr_k, wr_eq, up_ne, up_eq] at k1); (try simp (disch := omega) only [wr_of, wr_p, wr_k, wr_eq, up_ne, up_eq]); exact hz14b k k0 k1⟩
    · refine x_bipush (pc := 23) hC dX11_heat_23 (by decide +kernel) ?_
      refine x_ireturn hC hZ dX11_heat_25 (by decide) (by decide) ?_
      refine ⟨congrArg (fun z => some (Value.int (iI z))) ?_, ?_, Hx.rf _ _ _, rfl, rfl⟩
      · unfold heatA
        (repeat (first | rw [if_pos (by omega)] | rw [if_neg (by omega)]))
        all_goals (first | rfl | omega | assumption)
      · unfold heatZ
        (repeat (first | rw [if_pos (by omega)] | rw [if_neg (by omega)]))
        exact hz
  · refine x_iconst (pc := 14) hC dX11_heat_14 ?_
    refine x_ireturn hC hZ dX11_heat_15 (by decide) (by decide) ?_
    refine ⟨congrArg (fun z => some (Value.int (iI z))) ?_, ?_, Hx.rf _ _ _, rfl, rfl⟩
    · unfold heatA
      (repeat (first | rw [if_pos (by omega)] | rw [if_neg (by omega)]))
      all_goals (first | rfl | omega | assumption)
    · unfold heatZ
      (repeat (first | rw [if_pos (by omega)] | rw [if_neg (by omega)]))
      exact hz

set_option maxHeartbeats 4000000 in
set_option maxRecDepth 100000 in
theorem c_flown (E : xE) {σ : xM} {ρ : xR} {ks : xKs} (hw : WK ks ρ) {z : zS} (hz : HZ σ ρ ks 1 z) (hpl : PlOk z) (hcn : Cn z) {x : Int} (hx0 : rg x) : Sp E yX11_flown kX11_flown 1 0 0 [.ref 0, .int (iI x)] σ ρ ks (fun r σ' ρ' ks' => r = some (.int (iI (flownA z x))) ∧ HZ σ' ρ ks 1 (flownZ z x) ∧ Hx σ σ' ρ z ∧ ρ' = ρ ∧ ks' = ks) := by
  obtain ⟨w0, w43, ⟨wr0, wr1, wr3, wr4, wr5⟩, wh, wk, wn, wt⟩ := id hw
  have hk := wh.hk
  obtain ⟨k1, k2, r0, r2, hs3⟩ := id hk
  have hfs := hz.fans
  have hsz := hz.sit
  obtain ⟨⟨hz1, -⟩, -, ⟨rq, hrq, hrq2, hrm⟩, hz4, ⟨hz6, -⟩, hz7, hz8, ⟨hz10, -⟩, ⟨hz12, -⟩, ⟨hz14, -⟩⟩ := id hz
  have hfan := hpl.1
  have hsit := hpl.2.1
  have h13 := hpl.1.1
  have h14 := hpl.2.1.1
  have hz00 := hpl.2.2.2
  obtain ⟨n0, ⟨n1, n2, n3, n4, n5⟩, m0, m1, m2, m3, m4⟩ := id wn
  obtain ⟨h15, h16, h17, h18, h19⟩ := id hcn
  obtain ⟨-, -, -, -, ⟨-, hz6b⟩, -, -, ⟨-, hz10b⟩, ⟨-, hz12b⟩, ⟨-, hz14b⟩⟩ := id hz
  obtain ⟨k15, k16, k17, k18⟩ := wh.2.2.2.2.2.1
  obtain ⟨r5, r9, r11, r13⟩ := wh.2.2.2.2.2.2
  refine x_enter (own := RX11) (L := [_, _, _]) (by decide +kernel) rfl (by exact Nat.le_of_ble_eq_true rfl) rfl (fun p e R s m args below meth c Z hZ hC hR hin => ?_)
  refine x_iload_n (pc := 0) hC dX11_flown_0 rfl ?_
  refine x_iconst (pc := 1) hC dX11_flown_1 ?_
  refine x_sipush (pc := 2) hC dX11_flown_2 (by decide +kernel) ?_
  refine x_callS1 (As := [_, _, _]) (Bs := [_, _, _]) (pc := 5) hC (c_isIn E (by omega) (by omega) (by omega)) wX11_152 pX11_isIn rfl rfl (by exact Nat.le_of_ble_eq_true rfl) hR (by decide) (by decide) (by decide) rfl dX11_flown_5 ?_
  refine x_ifB_ne (tgt := 14) (pc := 8) hC  dX11_flown_8 (by decide) (fun c8 => ?_) (fun c8 => ?_)
  · refine x_aload_n (pc := 14) hC dX11_flown_14 rfl ?_
    refine x_getr (K := 0) (pc := 15) hC fX11_12_11 (by assumption) dX11_flown_15 rfl rfl (by assumption) ?_
    refine x_geti (K := 8) (pc := 18) hC fX11_209_1 (by assumption) dX11_flown_18 rfl rfl ?_
    refine x_istore_n (L' := [_, _, _]) (pc := 21) hC dX11_flown_21 rfl rfl ?_
    refine x_aload_n (pc := 22) hC dX11_flown_22 rfl ?_
    refine x_getr (K := 0) (pc := 23) hC fX11_12_11 (by assumption) dX11_flown_23 rfl rfl (by assumption) ?_
    refine x_iload_n (pc := 26) hC dX11_flown_26 rfl ?_
    refine x_puti (K := 8) (pc := 27) hC rfl fX11_209_1 rfl (by assumption) dX11_flown_27 rfl ?_
    refine x_iload_n (pc := 30) hC dX11_flown_30 rfl ?_
    refine x_ireturn hC hZ dX11_flown_31 (by decide) (by decide) ?_
    refine ⟨congrArg (fun z => some (Value.int (iI z))) ?_, ?_, fun p p1 p2 p3 => by simp (disch := omega) only [wr_of], rfl, rfl⟩
    · unfold flownA
      (repeat (first | rw [if_pos (by omega)] | rw [if_neg (by omega)]))
      all_goals (first | rfl | omega | assumption)
    · unfold flownZ
      (repeat (first | rw [if_pos (by omega)] | rw [if_neg (by omega)]))
      exact hz.upd h13.2 hpl.2.2.1.1.1 (fun p hp => by (try simp (disch := omega) only [wr_of, wr_p, wr_k, wr_eq, up_ne, up_eq])) (by (try simp (disch := omega) only [wr_of, wr_p, wr_k, wr_eq, up_ne, up_eq])) (by (try simp (disch := omega) only [wr_of, wr_p, wr_k, wr_eq, up_ne, up_eq])) (fun j j0 j1 => by (try simp (disch := omega) only [wr_of, wr_p, wr_k, wr_eq, up_ne, up_eq])) (fun j j0 => by (try simp (disch := omega) only [wr_of, wr_p, wr_k, wr_eq, up_ne, up_eq])) (by (try simp (disch := omega) only [wr_of, wr_p, wr_k, wr_eq, up_ne, up_eq]); exact hz1) ⟨by (try simp (disch := omega) only [wr_of, wr_p, wr_k, wr_eq, up_ne, up_eq]); exact hsz.1, fun j j0 j1 => by (try simp (disch := omega) only [wr_of, wr_p, wr_k, wr_eq, up_ne, up_eq] at j1); (try simp (disch := omega) only [wr_of, wr_p, wr_k, wr_eq, up_ne, up_eq]); exact hsz.2 j j0 j1⟩ (by (try simp (disch := omega) only [wr_of, wr_p, wr_k, wr_eq, up_ne, up_eq]); exact hz4) ⟨by (try simp (disch := omega) only [wr_of, wr_p, wr_k, wr_eq, up_ne, up_eq]); exact hz6, fun j j0 j1 => by (try simp (disch := omega) only [wr_of, wr_p, wr_k, wr_eq, up_ne, up_eq] at j1); (try simp (disch := omega) only [wr_of, wr_p, wr_k, wr_eq, up_ne, up_eq]); exact hz6b j j0 j1⟩ (by (try simp (disch := omega) only [wr_of, wr_p, wr_k, wr_eq, up_ne, up_eq]); exact hz7) (by (try simp (disch := omega) only [wr_of, wr_p, wr_k, wr_eq, up_ne, up_eq])) ⟨by (try simp (disch := omega) only [wr_of, wr_p, wr_k, wr_eq, up_ne, up_eq]); exact hz10, fun k k0 k1 => by (try simp (disch := omega) only [wr_of, wr_p, wr_k, wr_eq, up_ne, up_eq] at k1); (try simp (disch := omega) only [wr_of, wr_p, wr_k, wr_eq, up_ne, up_eq]); exact hz10b k k0 k1⟩ ⟨by (try simp (disch := omega) only [wr_of, wr_p, wr_k, wr_eq, up_ne, up_eq]); exact hz12, fun k k0 k1 => by (try simp (disch := omega) only [wr_of, wr_p, wr_k, wr_eq, up_ne, up_eq] at k1); (try simp (disch := omega) only [wr_of, wr_p, wr_k, wr_eq, up_ne, up_eq]); exact hz12b k k0 k1⟩ ⟨by (try simp (disch := omega) only [wr_of, wr_p, wr_k, wr_eq, up_ne, up_eq]); exact hz14, fun k k0 k1 => by (try simp (disch := omega) only [wr_of, wr_p, wr_k, wr_eq, up_ne, up_eq] at k1); (try simp (disch := omega) only [wr_of, wr_p, wr_k, wr_eq, up_ne, up_eq]); exact hz14b k k0 k1⟩
  · refine x_bipush (pc := 11) hC dX11_flown_11 (by decide +kernel) ?_
    refine x_ireturn hC hZ dX11_flown_13 (by decide) (by decide) ?_
    refine ⟨congrArg (fun z => some (Value.int (iI z))) ?_, ?_, Hx.rf _ _ _, rfl, rfl⟩
    · unfold flownA
      (repeat (first | rw [if_pos (by omega)] | rw [if_neg (by omega)]))
      all_goals (first | rfl | omega | assumption)
    · unfold flownZ
      (repeat (first | rw [if_pos (by omega)] | rw [if_neg (by omega)]))
      exact hz

set_option maxHeartbeats 4000000 in
set_option maxRecDepth 100000 in
theorem c_sitter (E : xE) {σ : xM} {ρ : xR} {ks : xKs} (hw : WK ks ρ) {z : zS} (hz : HZ σ ρ ks 1 z) (hpl : PlOk z) (hcn : Cn z) {x h : Int} (hx0 : rg x) (hh0 : rg h) : Sp E yX11_sitter kX11_sitter 1 0 0 [.ref 0, .int (iI x), .int (iI h)] σ ρ ks (fun r σ' ρ' ks' => r = some (.int (iI (sitterA z x h))) ∧ HZ σ' ρ ks 1 (sitterZ z x h) ∧ Hx σ σ' ρ z ∧ ρ' = ρ ∧ ks' = ks) := by
  obtain ⟨w0, w43, ⟨wr0, wr1, wr3, wr4, wr5⟩, wh, wk, wn, wt⟩ := id hw
  have hk := wh.hk
  obtain ⟨k1, k2, r0, r2, hs3⟩ := id hk
  have hfs := hz.fans
  have hsz := hz.sit
  obtain ⟨⟨hz1, -⟩, -, ⟨rq, hrq, hrq2, hrm⟩, hz4, ⟨hz6, -⟩, hz7, hz8, ⟨hz10, -⟩, ⟨hz12, -⟩, ⟨hz14, -⟩⟩ := id hz
  have hfan := hpl.1
  have hsit := hpl.2.1
  have h13 := hpl.1.1
  have h14 := hpl.2.1.1
  have hz00 := hpl.2.2.2
  obtain ⟨n0, ⟨n1, n2, n3, n4, n5⟩, m0, m1, m2, m3, m4⟩ := id wn
  obtain ⟨h15, h16, h17, h18, h19⟩ := id hcn
  obtain ⟨-, -, -, -, ⟨-, hz6b⟩, -, -, ⟨-, hz10b⟩, ⟨-, hz12b⟩, ⟨-, hz14b⟩⟩ := id hz
  obtain ⟨k15, k16, k17, k18⟩ := wh.2.2.2.2.2.1
  obtain ⟨r5, r9, r11, r13⟩ := wh.2.2.2.2.2.2
  obtain ⟨h30, ⟨h31, h32, h33, h34, h35⟩, h36, h37, h38, h39, h3a⟩ := id hs3
  have z5 := hsz.1
  refine x_enter (own := RX11) (L := [_, _, _, _]) (by decide +kernel) rfl (by exact Nat.le_of_ble_eq_true rfl) rfl (fun p e R s m args below meth c Z hZ hC hR hin => ?_)
  refine x_iload_n (pc := 0) hC dX11_sitter_0 rfl ?_
  refine x_callS1 (As := [_]) (Bs := [_]) (pc := 1) hC (c_isPlace E (by omega)) wX11_115 pX11_isPlace rfl rfl (by exact Nat.le_of_ble_eq_true rfl) hR (by decide) (by decide) (by decide) rfl dX11_sitter_1 ?_
  refine x_ifB_ne (tgt := 9) (pc := 4) hC  dX11_sitter_4 (by decide) (fun c4 => ?_) (fun c4 => ?_)
  · refine x_iload_n (pc := 9) hC dX11_sitter_9 rfl ?_
    refine x_callS1 (As := [_]) (Bs := [_]) (pc := 10) hC (c_isHeat E (by omega)) wX11_124 pX11_isHeat rfl rfl (by exact Nat.le_of_ble_eq_true rfl) hR (by decide) (by decide) (by decide) rfl dX11_sitter_10 ?_
    refine x_ifB_ne (tgt := 19) (pc := 13) hC  dX11_sitter_13 (by decide) (fun c13 => ?_) (fun c13 => ?_)
    · refine x_aload_n (pc := 19) hC dX11_sitter_19 rfl ?_
      refine x_getr (K := 0) (pc := 20) hC fX11_12_11 (by assumption) dX11_sitter_20 rfl rfl (by assumption) ?_
      refine x_getr (K := 2) (pc := 23) hC fX11_108_1 (by assumption) dX11_sitter_23 rfl rfl (by assumption) ?_
      refine x_astore_n (L' := [_, _, _, _]) (pc := 26) hC dX11_sitter_26 rfl rfl ?_
      refine x_aload_n (pc := 27) hC dX11_sitter_27 rfl ?_
      refine x_geti (K := 5) (pc := 28) hC fX11_127_5 (by assumption) dX11_sitter_28 rfl rfl ?_
      rw [z5]
      refine x_bipush (pc := 31) hC dX11_sitter_31 (by decide +kernel) ?_
      refine x_icmp_lt (tgt := 39) (pc := 33) hC (by omega) (by omega) dX11_sitter_33 (by decide) (fun c33 => ?_) (fun c33 => ?_)
      · refine x_aload_n (pc := 39) hC dX11_sitter_39 rfl ?_
        refine x_getr (K := 0) (pc := 40) hC fX11_130_5 (by assumption) dX11_sitter_40 rfl rfl (by assumption) ?_
        refine x_aload_n (pc := 43) hC dX11_sitter_43 rfl ?_
        refine x_geti (K := 5) (pc := 44) hC fX11_127_5 (by assumption) dX11_sitter_44 rfl rfl ?_
        rw [z5]
        refine x_iload_n (pc := 47) hC dX11_sitter_47 rfl ?_
        refine x_iast (pc := 48) hC (by assumption) (by omega) dX11_sitter_48 ?_
        refine x_aload_n (pc := 49) hC dX11_sitter_49 rfl ?_
        refine x_getr (K := 1) (pc := 50) hC fX11_133_5 (by assumption) dX11_sitter_50 rfl rfl (by assumption) ?_
        refine x_aload_n (pc := 53) hC dX11_sitter_53 rfl ?_
        refine x_geti (K := 5) (pc := 54) hC fX11_127_5 (by assumption) dX11_sitter_54 rfl rfl ?_
        (try simp (disch := omega) only [wr_of, wr_p, wr_k, wr_eq, up_ne, up_eq])
        rw [z5]
        refine x_iload_n (pc := 57) hC dX11_sitter_57 rfl ?_
        refine x_iast (pc := 58) hC (by assumption) (by omega) dX11_sitter_58 ?_
        refine x_aload_n (pc := 59) hC dX11_sitter_59 rfl ?_
        refine x_getr (K := 2) (pc := 60) hC fX11_136_5 (by assumption) dX11_sitter_60 rfl rfl (by assumption) ?_
        refine x_aload_n (pc := 63) hC dX11_sitter_63 rfl ?_
        refine x_geti (K := 5) (pc := 64) hC fX11_127_5 (by assumption) dX11_sitter_64 rfl rfl ?_
        (try simp (disch := omega) only [wr_of, wr_p, wr_k, wr_eq, up_ne, up_eq])
        rw [z5]
        refine x_iconst (pc := 67) hC dX11_sitter_67 ?_
        refine x_iast (pc := 68) hC (by assumption) (by omega) dX11_sitter_68 ?_
        refine x_aload_n (pc := 69) hC dX11_sitter_69 rfl ?_
        refine x_dup (pc := 70) hC dX11_sitter_70 rfl ?_
        refine x_geti (K := 5) (pc := 71) hC fX11_127_5 (by assumption) dX11_sitter_71 rfl rfl ?_
        (try simp (disch := omega) only [wr_of, wr_p, wr_k, wr_eq, up_ne, up_eq])
        rw [z5]
        refine x_iconst (pc := 74) hC dX11_sitter_74 ?_
        refine x_iadd (pc := 75) hC dX11_sitter_75 ?_
        refine x_puti (K := 5) (pc := 76) hC rfl fX11_127_5 rfl (by assumption) dX11_sitter_76 rfl ?_
        refine x_aload_n (pc := 79) hC dX11_sitter_79 rfl ?_
        refine x_geti (K := 5) (pc := 80) hC fX11_127_5 (by assumption) dX11_sitter_80 rfl rfl ?_
        (try simp (disch := omega) only [wr_of, wr_p, wr_k, wr_eq, up_ne, up_eq])
        refine x_iconst (pc := 83) hC dX11_sitter_83 ?_
        refine x_isub (pc := 84) hC dX11_sitter_84 ?_
        refine x_ireturn hC hZ dX11_sitter_85 (by decide) (by decide) ?_
        refine ⟨congrArg (fun z => some (Value.int (iI z))) ?_, ?_, fun p p1 p2 p3 => by simp (disch := omega) only [wr_of], rfl, rfl⟩
        · unfold sitterA
          (repeat (first | rw [if_pos (by omega)] | rw [if_neg (by omega)]))
          all_goals (first | rfl | omega | assumption)
        · unfold sitterZ
          (repeat (first | rw [if_pos (by omega)] | rw [if_neg (by omega)]))
          exact hz.upd h13.2 hpl.2.2.1.1.1 (fun p hp => by (try simp (disch := omega) only [wr_of, wr_p, wr_k, wr_eq, up_ne, up_eq])) (by (try simp (disch := omega) only [wr_of, wr_p, wr_k, wr_eq, up_ne, up_eq])) (by (try simp (disch := omega) only [wr_of, wr_p, wr_k, wr_eq, up_ne, up_eq])) (fun j j0 j1 => by (try simp (disch := omega) only [wr_of, wr_p, wr_k, wr_eq, up_ne, up_eq])) (fun j j0 => by (try simp (disch := omega) only [wr_of, wr_p, wr_k, wr_eq, up_ne, up_eq])) (by (try simp (disch := omega) only [wr_of, wr_p, wr_k, wr_eq, up_ne, up_eq]); exact hz1) ⟨by (try simp (disch := omega) only [wr_of, wr_p, wr_k, wr_eq, up_ne, up_eq]), fun j j0 j1 => by
            (try simp (disch := omega) only [wr_of, wr_p, wr_k, wr_eq, up_ne, up_eq] at j1)
            by_cases hj : j = z 14
            · subst hj; simp (disch := omega) only [wr_of, wr_p, wr_k, wr_eq, up_ne, up_eq]; exact ⟨trivial, trivial, trivial⟩
            · obtain ⟨e0, e1, e2⟩ := hsz.2 j j0 (by omega)
              simp (disch := omega) only [wr_of, wr_p, wr_k, up_ne]
              exact ⟨e0, e1, e2⟩⟩ (by (try simp (disch := omega) only [wr_of, wr_p, wr_k, wr_eq, up_ne, up_eq]); exact hz4) ⟨by (try simp (disch := omega) only [wr_of, wr_p, wr_k, wr_eq, up_ne, up_eq]); exact hz6, fun j j0 j1 => by (try simp (disch := omega) only [wr_of, wr_p, wr_k, wr_eq, up_ne, up_eq] at j1); (try simp (disch := omega) only [wr_of, wr_p, wr_k, wr_eq, up_ne, up_eq]); exact hz6b j j0 j1⟩ (by (try simp (disch := omega) only [wr_of, wr_p, wr_k, wr_eq, up_ne, up_eq]); exact hz7) (by (try simp (disch := omega) only [wr_of, wr_p, wr_k, wr_eq, up_ne, up_eq]); exact hz8) ⟨by (try simp (disch := omega) only [wr_of, wr_p, wr_k, wr_eq, up_ne, up_eq]); exact hz10, fun k k0 k1 => by (try simp (disch := omega) only [wr_of, wr_p, wr_k, wr_eq, up_ne, up_eq] at k1); (try simp (disch := omega) only [wr_of, wr_p, wr_k, wr_eq, up_ne, up_eq]); exact hz10b k k0 k1⟩ ⟨by (try simp (disch := omega) only [wr_of, wr_p, wr_k, wr_eq, up_ne, up_eq]); exact hz12, fun k k0 k1 => by (try simp (disch := omega) only [wr_of, wr_p, wr_k, wr_eq, up_ne, up_eq] at k1); (try simp (disch := omega) only [wr_of, wr_p, wr_k, wr_eq, up_ne, up_eq]); exact hz12b k k0 k1⟩ ⟨by (try simp (disch := omega) only [wr_of, wr_p, wr_k, wr_eq, up_ne, up_eq]); exact hz14, fun k k0 k1 => by (try simp (disch := omega) only [wr_of, wr_p, wr_k, wr_eq, up_ne, up_eq] at k1); (try simp (disch := omega) only [wr_of, wr_p, wr_k, wr_eq, up_ne, up_eq]); exact hz14b k k0 k1⟩
      · refine x_bipush (pc := 36) hC dX11_sitter_36 (by decide +kernel) ?_
        refine x_ireturn hC hZ dX11_sitter_38 (by decide) (by decide) ?_
        refine ⟨congrArg (fun z => some (Value.int (iI z))) ?_, ?_, Hx.rf _ _ _, rfl, rfl⟩
        · unfold sitterA
          (repeat (first | rw [if_pos (by omega)] | rw [if_neg (by omega)]))
          all_goals (first | rfl | omega | assumption)
        · unfold sitterZ
          (repeat (first | rw [if_pos (by omega)] | rw [if_neg (by omega)]))
          exact hz
    · refine x_bipush (pc := 16) hC dX11_sitter_16 (by decide +kernel) ?_
      refine x_ireturn hC hZ dX11_sitter_18 (by decide) (by decide) ?_
      refine ⟨congrArg (fun z => some (Value.int (iI z))) ?_, ?_, Hx.rf _ _ _, rfl, rfl⟩
      · unfold sitterA
        (repeat (first | rw [if_pos (by omega)] | rw [if_neg (by omega)]))
        all_goals (first | rfl | omega | assumption)
      · unfold sitterZ
        (repeat (first | rw [if_pos (by omega)] | rw [if_neg (by omega)]))
        exact hz
  · refine x_iconst (pc := 7) hC dX11_sitter_7 ?_
    refine x_ireturn hC hZ dX11_sitter_8 (by decide) (by decide) ?_
    refine ⟨congrArg (fun z => some (Value.int (iI z))) ?_, ?_, Hx.rf _ _ _, rfl, rfl⟩
    · unfold sitterA
      (repeat (first | rw [if_pos (by omega)] | rw [if_neg (by omega)]))
      all_goals (first | rfl | omega | assumption)
    · unfold sitterZ
      (repeat (first | rw [if_pos (by omega)] | rw [if_neg (by omega)]))
      exact hz
