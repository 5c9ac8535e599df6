theorem mnF_start {g : Int → Int} {b l b' l' k0 : Int} (h1 : g (k0 + (0 : Nat)) < l) (h2 : g (k0 + (0 : Nat)) < l') : ∀ n : Nat, mnF g b l k0 (n + 1) = mnF g b' l' k0 (n + 1)
  | 0 => by
    rw [mnF_s, mnF_s]
    show (if g (k0 + (0 : Nat)) < l then _ else _) = (if g (k0 + (0 : Nat)) < l' then _ else _)
    rw [if_pos h1, if_pos h2]
  | n + 1 => by
    have ih := mnF_start (b := b) (b' := b') h1 h2 n
    rw [mnF_s, mnF_s g b' l', ih]
set_option maxHeartbeats 4000000 in
set_option maxRecDepth 100000 in
theorem c_seat (E : xE) {σ : xM} {ρ : xR} {ks : xKs} (hw : WK ks ρ) {z : zS} (hz : HZ σ ρ ks 1 z) (hpl : PlOk z) {y n w : Int} (hy0 : rg y) (hn0 : rg n) (hw0 : rg w) (ht : z 0 + 100 < 900000) : Sp E yX11_seat kX11_seat 7 0 0 [.ref 0, .int (iI y), .int (iI n), .int (iI w)] σ ρ ks (fun r σ' ρ' ks' => r = some (.int (iI (seatA z y n w))) ∧ Nx σ σ' ∧ ρ' = ρ ∧ ks' = ks) := by
  obtain ⟨w0, w43, ⟨wr0, wr1, wr3, wr4, wr5⟩, wh, wk, wn, wt⟩ := id hw
  have hk := wh.hk
  obtain ⟨k1, k2, r0, r2, hs3⟩ := id hk
  have hfs := hz.fans
  have hsz := hz.sit
  obtain ⟨⟨hz1, -⟩, -, ⟨rq, hrq, hrq2, hrm⟩, hz4, ⟨hz6, -⟩, hz7, hz8, ⟨hz10, -⟩, ⟨hz12, -⟩, ⟨hz14, -⟩⟩ := id hz
  have hfan := hpl.1
  have hsit := hpl.2.1
  have h13 := hpl.1.1
  have h14 := hpl.2.1.1
  have hz00 := hpl.2.2.2
  obtain ⟨n0, ⟨n1, n2, n3, n4, n5⟩, m0, m1, m2, m3, m4⟩ := id wn
  obtain ⟨h30, ⟨h31, h32, h33, h34, h35⟩, h36, h37, h38, h39, h3a⟩ := id hs3
  refine x_enter (own := RX11) (L := [_, _, _, _, _, _, _, _]) (by decide +kernel) rfl (by exact Nat.le_of_ble_eq_true rfl) rfl (fun p e R s m args below meth c Z hZ hC hR hin => ?_)
  refine x_aload_n (pc := 0) hC dX11_seat_0 rfl ?_
  refine x_getr (K := 0) (pc := 1) hC fX11_12_11 (by assumption) dX11_seat_1 rfl rfl (by assumption) ?_
  refine x_getr (K := 2) (pc := 4) hC fX11_108_1 (by assumption) dX11_seat_4 rfl rfl (by assumption) ?_
  refine x_iload_n (pc := 7) hC dX11_seat_7 rfl ?_
  refine x_callV1 (As := [_]) (Bs := [_]) (pc := 8) hC (c_has E hs3 hsz hsit (by omega)) wX11_139_5 pX5_has (by assumption) rfl rfl (by exact Nat.le_of_ble_eq_true rfl) hR (by decide) (by decide) (by decide) rfl dX11_seat_8 ?_
  refine x_ifB_eq (tgt := 21) (pc := 11) hC  dX11_seat_11 (by decide) (fun c11 => ?_) (fun c11 => ?_)
  · refine x_iconst (pc := 21) hC dX11_seat_21 ?_
    refine x_ireturn hC hZ dX11_seat_22 (by decide) (by decide) ?_
    refine ⟨congrArg (fun z => some (Value.int (iI z))) ?_, Nx.rf _, rfl, rfl⟩
    unfold seatA
    (repeat (first | rw [if_pos (by omega)] | rw [if_neg (by omega)]))
    all_goals (first | rfl | omega | assumption)
  · refine x_iload_n (pc := 14) hC dX11_seat_14 rfl ?_
    refine x_callS1 (As := [_]) (Bs := [_]) (pc := 15) hC (c_isEither E (by omega)) wX11_181 pX11_isEither rfl rfl (by exact Nat.le_of_ble_eq_true rfl) hR (by decide) (by decide) (by decide) rfl dX11_seat_15 ?_
    refine x_ifB_ne (tgt := 23) (pc := 18) hC  dX11_seat_18 (by decide) (fun c18 => ?_) (fun c18 => ?_)
    · refine x_iload_n (pc := 23) hC dX11_seat_23 rfl ?_
      refine x_iconst (pc := 24) hC dX11_seat_24 ?_
      refine x_bipush (pc := 25) hC dX11_seat_25 (by decide +kernel) ?_
      refine x_callS1 (As := [_, _, _]) (Bs := [_, _, _]) (pc := 27) hC (c_isIn E (by omega) (by omega) (by omega)) wX11_152 pX11_isIn rfl rfl (by exact Nat.le_of_ble_eq_true rfl) hR (by decide) (by decide) (by decide) rfl dX11_seat_27 ?_
      refine x_ifB_ne (tgt := 36) (pc := 30) hC  dX11_seat_30 (by decide) (fun c30 => ?_) (fun c30 => ?_)
      · refine x_ldc (pc := 36) hC (1000000) qX11_184 (by decide +kernel) dX11_seat_36 ?_
        refine x_istore (L' := [_, _, _, _, _, _, _, _]) (pc := 38) hC dX11_seat_38 rfl rfl ?_
        refine x_iconst (pc := 40) hC dX11_seat_40 ?_
        refine x_istore (L' := [_, _, _, _, _, _, _, _]) (pc := 41) hC dX11_seat_41 rfl rfl ?_
        refine x_iconst (pc := 43) hC dX11_seat_43 ?_
        refine x_istore (L' := [_, _, _, _, _, _, _, _]) (pc := 44) hC dX11_seat_44 rfl rfl ?_
        have hg : ∀ x : Nat, x < 10 → 0 ≤ seatF z y (0 + (x : Int)) n.toNat ∧ seatF z y (0 + (x : Int)) n.toNat < 1000000 := by
          intro x hx
          have := seatF_in hpl (p := y) (x := 0 + (x : Int)) (by omega) (by omega) n.toNat (by omega)
          omega
        have loop : ∀ (i k : Nat) (j : Int) (σ' : xM), j = 0 + k → k + i = 10 → Nx σ σ' → ∀ fo be : Int, mnF (fun x => seatF z y x n.toNat) 0 1000000 0 k = (fo, be) → X E p e R s m args below meth c Z 0 0 σ' ρ ks 46 [some (.ref 0), some (.int (iI y)), some (.int (iI n)), some (.int (iI w)), some (.int (iI be)), some (.int (iI fo)), some (.int (iI j)), none] [] := by
          intro i
          induction i with
          | zero =>
            intro k j σ' hj hi hnx fo be hb
            have hst : mnF (fun x => seatF z y x n.toNat) (-1) 1000000 0 10 = (fo, be) := (mnF_start (g := fun x => seatF z y x n.toNat) (b := -1) (l := 1000000) (b' := 0) (l' := 1000000) (k0 := 0) (hg 0 (by decide)).2 (by have := (hg 0 (by decide)).2; omega) 9).trans (by rw [show 9 + 1 = k by omega]; exact hb)
            refine x_iload (pc := 46) hC dX11_seat_46 rfl ?_
            refine x_bipush (pc := 48) hC dX11_seat_48 (by decide +kernel) ?_
            refine x_icmp_ge (tgt := 84) (pc := 50) hC (by omega) (by omega) dX11_seat_50 (by decide) (fun c50 => ?_) (fun c50 => by (exfalso; omega))
            refine x_iload_n (pc := 84) hC dX11_seat_84 rfl ?_
            refine x_if_ne (tgt := 93) (pc := 85) hC (by omega) dX11_seat_85 (by decide) (fun c85 => ?_) (fun c85 => ?_)
            · refine x_iload (pc := 93) hC dX11_seat_93 rfl ?_
              refine x_ireturn hC hZ dX11_seat_95 (by decide) (by decide) ?_
              refine ⟨congrArg (fun z => some (Value.int (iI z))) ?_, hnx, rfl, rfl⟩
              unfold seatA
              rw [if_neg (by omega), if_neg (by omega), if_neg (by omega)]
              exact (congrArg Prod.snd hst).symm
            · refine x_iload (pc := 88) hC dX11_seat_88 rfl ?_
              refine x_goto (tgt := 95) (pc := 90) hC dX11_seat_90 (by decide) ?_
              refine x_ireturn hC hZ dX11_seat_95 (by decide) (by decide) ?_
              refine ⟨congrArg (fun z => some (Value.int (iI z))) ?_, hnx, rfl, rfl⟩
              unfold seatA
              rw [if_neg (by omega), if_neg (by omega), if_pos (by omega)]
              exact (congrArg Prod.fst hst).symm
          | succ i ih =>
            intro k j σ' hj hi hnx fo be hb
            have hbl := mnF_le (fun x => seatF z y x n.toNat) 0 1000000 0 k
            have hbg := mnF_ge (g := fun x => seatF z y x n.toNat) (b := 0) (l := 1000000) (k0 := 0) (M := 0) (N := 10) (by decide) (fun x hx => (hg x hx).1) k (by omega)
            rw [hb] at hbl hbg
            have hgk := hg k (by omega)
            rw [← hj] at hgk
            refine x_iload (pc := 46) hC dX11_seat_46 rfl ?_
            refine x_bipush (pc := 48) hC dX11_seat_48 (by decide +kernel) ?_
            refine x_icmp_ge (tgt := 84) (pc := 50) hC (by omega) (by omega) dX11_seat_50 (by decide) (fun c50 => by (exfalso; omega)) (fun c50 => ?_)
            refine x_aload_n (pc := 53) hC dX11_seat_53 rfl ?_
            refine x_iload_n (pc := 54) hC dX11_seat_54 rfl ?_
            refine x_iload (pc := 55) hC dX11_seat_55 rfl ?_
            refine x_iload_n (pc := 57) hC dX11_seat_57 rfl ?_
            refine x_callV (As := [_, _, _]) (Bs := [_, _, _]) (pc := 58) hC (c_heatSeated E hw (hz.nx (by decide) hnx) hpl (y := y) (x := j) (by omega) (by omega) (n := n) (by omega) (by omega)) wX11_188_11 pX11_heatSeated (by assumption) rfl rfl (by exact Nat.le_of_ble_eq_true rfl) hR (by decide) (by decide) (by decide) rfl dX11_seat_58 (fun r58 σ58 ρ58 ks58 q58 => ?_)
            obtain ⟨rfl, hnx58, hρ58, hks58⟩ := q58
            obtain rfl := hρ58.symm
            obtain rfl := hks58.symm
            refine x_istore (L' := [_, _, _, _, _, _, _, _]) (pc := 61) hC dX11_seat_61 rfl rfl ?_
            refine x_iload (pc := 63) hC dX11_seat_63 rfl ?_
            refine x_iload (pc := 65) hC dX11_seat_65 rfl ?_
            refine x_icmp_ge (tgt := 78) (pc := 67) hC (by omega) (by omega) dX11_seat_67 (by decide) (fun c67 => ?_) (fun c67 => ?_)
            · refine x_iinc (L' := [_, _, _, _, _, _, _, _]) (pc := 78) hC dX11_seat_78 rfl rfl rfl ?_
              refine x_goto (tgt := 46) (pc := 81) hC dX11_seat_81 (by decide) ?_
              refine X.drop (xLe_s (xLe_s (xLe_s (xLe_s (xLe_s (xLe_s (xLe_s (xLe_n xLe_0)))))))) (ih (k + 1) (j + 1) _ (by omega) (by omega) (hnx.tr hnx58) fo be ?_)
              rw [mnF_s, hb, if_neg (show ¬ seatF z y (0 + (k : Int)) n.toNat < be by rw [← hj]; omega)]
            · refine x_iload (pc := 70) hC dX11_seat_70 rfl ?_
              refine x_istore (L' := [_, _, _, _, _, _, _, _]) (pc := 72) hC dX11_seat_72 rfl rfl ?_
              refine x_iload (pc := 74) hC dX11_seat_74 rfl ?_
              refine x_istore (L' := [_, _, _, _, _, _, _, _]) (pc := 76) hC dX11_seat_76 rfl rfl ?_
              refine x_iinc (L' := [_, _, _, _, _, _, _, _]) (pc := 78) hC dX11_seat_78 rfl rfl rfl ?_
              refine x_goto (tgt := 46) (pc := 81) hC dX11_seat_81 (by decide) ?_
              refine X.drop (xLe_s (xLe_s (xLe_s (xLe_s (xLe_s (xLe_s (xLe_s (xLe_n xLe_0)))))))) (ih (k + 1) (j + 1) _ (by omega) (by omega) (hnx.tr hnx58) j _ ?_)
              rw [mnF_s, hb, if_pos (show seatF z y (0 + (k : Int)) n.toNat < be by rw [← hj]; omega), ← hj]
        exact loop 10 0 0 σ rfl (by omega) (Nx.rf _) 0 1000000 rfl
      · refine x_bipush (pc := 33) hC dX11_seat_33 (by decide +kernel) ?_
        refine x_ireturn hC hZ dX11_seat_35 (by decide) (by decide) ?_
        refine ⟨congrArg (fun z => some (Value.int (iI z))) ?_, Nx.rf _, rfl, rfl⟩
        unfold seatA
        (repeat (first | rw [if_pos (by omega)] | rw [if_neg (by omega)]))
        all_goals (first | rfl | omega | assumption)
    · refine x_iconst (pc := 21) hC dX11_seat_21 ?_
      refine x_ireturn hC hZ dX11_seat_22 (by decide) (by decide) ?_
      refine ⟨congrArg (fun z => some (Value.int (iI z))) ?_, Nx.rf _, rfl, rfl⟩
      unfold seatA
      (repeat (first | rw [if_pos (by omega)] | rw [if_neg (by omega)]))
      all_goals (first | rfl | omega | assumption)

set_option maxHeartbeats 4000000 in
set_option maxRecDepth 100000 in
theorem c_round (E : xE) {σ : xM} {ρ : xR} {ks : xKs} (hw : WK ks ρ) {z : zS} (hz : HZ σ ρ ks 1 z) (hpl : PlOk z) {n w : Int} (hn0 : rg n) (hw0 : rg w) (ht : z 0 + 100 < 900000) : Sp E yX11_round kX11_round 6 0 0 [.ref 0, .int (iI n), .int (iI w)] σ ρ ks (fun r σ' ρ' ks' => r = some (.int (iI (roundA z n w))) ∧ Nx σ σ' ∧ ρ' = ρ ∧ ks' = ks) := by
  obtain ⟨w0, w43, ⟨wr0, wr1, wr3, wr4, wr5⟩, wh, wk, wn, wt⟩ := id hw
  have hk := wh.hk
  obtain ⟨k1, k2, r0, r2, hs3⟩ := id hk
  have hfs := hz.fans
  have hsz := hz.sit
  obtain ⟨⟨hz1, -⟩, -, ⟨rq, hrq, hrq2, hrm⟩, hz4, ⟨hz6, -⟩, hz7, hz8, ⟨hz10, -⟩, ⟨hz12, -⟩, ⟨hz14, -⟩⟩ := id hz
  have hfan := hpl.1
  have hsit := hpl.2.1
  have h13 := hpl.1.1
  have h14 := hpl.2.1.1
  have hz00 := hpl.2.2.2
  obtain ⟨n0, ⟨n1, n2, n3, n4, n5⟩, m0, m1, m2, m3, m4⟩ := id wn
  obtain ⟨h30, ⟨h31, h32, h33, h34, h35⟩, h36, h37, h38, h39, h3a⟩ := id hs3
  refine x_enter (own := RX11) (L := [_, _, _, _, _, _, _]) (by decide +kernel) rfl (by exact Nat.le_of_ble_eq_true rfl) rfl (fun p e R s m args below meth c Z hZ hC hR hin => ?_)
  refine x_iload_n (pc := 0) hC dX11_round_0 rfl ?_
  refine x_callS1 (As := [_]) (Bs := [_]) (pc := 1) hC (c_isEither E (by omega)) wX11_181 pX11_isEither rfl rfl (by exact Nat.le_of_ble_eq_true rfl) hR (by decide) (by decide) (by decide) rfl dX11_round_1 ?_
  refine x_ifB_ne (tgt := 9) (pc := 4) hC  dX11_round_4 (by decide) (fun c4 => ?_) (fun c4 => ?_)
  · refine x_iload_n (pc := 9) hC dX11_round_9 rfl ?_
    refine x_iconst (pc := 10) hC dX11_round_10 ?_
    refine x_bipush (pc := 11) hC dX11_round_11 (by decide +kernel) ?_
    refine x_callS1 (As := [_, _, _]) (Bs := [_, _, _]) (pc := 13) hC (c_isIn E (by omega) (by omega) (by omega)) wX11_152 pX11_isIn rfl rfl (by exact Nat.le_of_ble_eq_true rfl) hR (by decide) (by decide) (by decide) rfl dX11_round_13 ?_
    refine x_ifB_ne (tgt := 22) (pc := 16) hC  dX11_round_16 (by decide) (fun c16 => ?_) (fun c16 => ?_)
    · refine x_aload_n (pc := 22) hC dX11_round_22 rfl ?_
      refine x_getr (K := 0) (pc := 23) hC fX11_12_11 (by assumption) dX11_round_23 rfl rfl (by assumption) ?_
      refine x_getr (K := 2) (pc := 26) hC fX11_108_1 (by assumption) dX11_round_26 rfl rfl (by assumption) ?_
      refine x_geti (K := 5) (pc := 29) hC fX11_127_5 (by assumption) dX11_round_29 rfl rfl ?_
      rw [hsz.1]
      refine x_if_ne (tgt := 38) (pc := 32) hC (by omega) dX11_round_32 (by decide) (fun c32 => ?_) (fun c32 => ?_)
      · refine x_ldc (pc := 38) hC (1000000) qX11_184 (by decide +kernel) dX11_round_38 ?_
        refine x_istore_n (L' := [_, _, _, _, _, _, _]) (pc := 40) hC dX11_round_40 rfl rfl ?_
        refine x_iconst (pc := 41) hC dX11_round_41 ?_
        refine x_istore (L' := [_, _, _, _, _, _, _]) (pc := 42) hC dX11_round_42 rfl rfl ?_
        refine x_iconst (pc := 44) hC dX11_round_44 ?_
        refine x_istore (L' := [_, _, _, _, _, _, _]) (pc := 45) hC dX11_round_45 rfl rfl ?_
        have hg : ∀ x : Nat, x < 20 → 0 ≤ rbF z n.toNat (1 + (x : Int)) ∧ rbF z n.toNat (1 + (x : Int)) < 1000000 := by
          intro x hx
          have := rb_in hpl n.toNat (1 + (x : Int)) (by omega)
          omega
        have loop : ∀ (i k : Nat) (j : Int) (σ' : xM), j = 1 + k → k + i = 20 → Nx σ σ' → ∀ fo be : Int, mnF (fun x => rbF z n.toNat x) 1 1000000 1 k = (fo, be) → X E p e R s m args below meth c Z 0 0 σ' ρ ks 47 [some (.ref 0), some (.int (iI n)), some (.int (iI w)), some (.int (iI be)), some (.int (iI fo)), some (.int (iI j)), none] [] := by
          intro i
          induction i with
          | zero =>
            intro k j σ' hj hi hnx fo be hb
            have hst : mnF (fun x => rbF z n.toNat x) (-5) 1000000 1 20 = (fo, be) := (mnF_start (g := fun x => rbF z n.toNat x) (b := -5) (l := 1000000) (b' := 1) (l' := 1000000) (k0 := 1) (hg 0 (by decide)).2 (by have := (hg 0 (by decide)).2; omega) 19).trans (by rw [show 19 + 1 = k by omega]; exact hb)
            refine x_iload (pc := 47) hC dX11_round_47 rfl ?_
            refine x_bipush (pc := 49) hC dX11_round_49 (by decide +kernel) ?_
            refine x_icmp_gt (tgt := 82) (pc := 51) hC (by omega) (by omega) dX11_round_51 (by decide) (fun c51 => ?_) (fun c51 => by (exfalso; omega))
            refine x_iload_n (pc := 82) hC dX11_round_82 rfl ?_
            refine x_if_ne (tgt := 91) (pc := 83) hC (by omega) dX11_round_83 (by decide) (fun c83 => ?_) (fun c83 => ?_)
            · refine x_iload_n (pc := 91) hC dX11_round_91 rfl ?_
              refine x_ireturn hC hZ dX11_round_92 (by decide) (by decide) ?_
              refine ⟨congrArg (fun z => some (Value.int (iI z))) ?_, hnx, rfl, rfl⟩
              unfold roundA
              rw [if_neg (by omega), if_neg (by omega), if_neg (by omega), if_neg (by omega)]
              exact (congrArg Prod.snd hst).symm
            · refine x_iload (pc := 86) hC dX11_round_86 rfl ?_
              refine x_goto (tgt := 92) (pc := 88) hC dX11_round_88 (by decide) ?_
              refine x_ireturn hC hZ dX11_round_92 (by decide) (by decide) ?_
              refine ⟨congrArg (fun z => some (Value.int (iI z))) ?_, hnx, rfl, rfl⟩
              unfold roundA
              rw [if_neg (by omega), if_neg (by omega), if_neg (by omega), if_pos (by omega)]
              exact (congrArg Prod.fst hst).symm
          | succ i ih =>
            intro k j σ' hj hi hnx fo be hb
            have hbl := mnF_le (fun x => rbF z n.toNat x) 1 1000000 1 k
            have hbg := mnF_ge (g := fun x => rbF z n.toNat x) (b := 1) (l := 1000000) (k0 := 1) (M := 0) (N := 20) (by decide) (fun x hx => (hg x hx).1) k (by omega)
            rw [hb] at hbl hbg
            have hgk := hg k (by omega)
            rw [← hj] at hgk
            refine x_iload (pc := 47) hC dX11_round_47 rfl ?_
            refine x_bipush (pc := 49) hC dX11_round_49 (by decide +kernel) ?_
            refine x_icmp_gt (tgt := 82) (pc := 51) hC (by omega) (by omega) dX11_round_51 (by decide) (fun c51 => by (exfalso; omega)) (fun c51 => ?_)
            refine x_aload_n (pc := 54) hC dX11_round_54 rfl ?_
            refine x_iload (pc := 55) hC dX11_round_55 rfl ?_
            refine x_iload_n (pc := 57) hC dX11_round_57 rfl ?_
            refine x_callV (As := [_, _]) (Bs := [_, _]) (pc := 58) hC (c_greatestRound E hw (hz.nx (by decide) hnx) hpl (kk0 := j) (by omega) (n := n) (by omega) (by omega) (by omega)) wX11_195_11 pX11_greatestRound (by assumption) rfl rfl (by exact Nat.le_of_ble_eq_true rfl) hR (by decide) (by decide) (by decide) rfl dX11_round_58 (fun r58 σ58 ρ58 ks58 q58 => ?_)
            obtain ⟨rfl, hnx58, hρ58, hks58⟩ := q58
            obtain rfl := hρ58.symm
            obtain rfl := hks58.symm
            refine x_istore (L' := [_, _, _, _, _, _, _]) (pc := 61) hC dX11_round_61 rfl rfl ?_
            refine x_iload (pc := 63) hC dX11_round_63 rfl ?_
            refine x_iload_n (pc := 65) hC dX11_round_65 rfl ?_
            refine x_icmp_ge (tgt := 76) (pc := 66) hC (by omega) (by omega) dX11_round_66 (by decide) (fun c66 => ?_) (fun c66 => ?_)
            · refine x_iinc (L' := [_, _, _, _, _, _, _]) (pc := 76) hC dX11_round_76 rfl rfl rfl ?_
              refine x_goto (tgt := 47) (pc := 79) hC dX11_round_79 (by decide) ?_
              refine X.drop (xLe_s (xLe_s (xLe_s (xLe_s (xLe_s (xLe_s (xLe_n xLe_0))))))) (ih (k + 1) (j + 1) _ (by omega) (by omega) (hnx.tr hnx58) fo be ?_)
              rw [mnF_s, hb, if_neg (show ¬ rbF z n.toNat (1 + (k : Int)) < be by rw [← hj]; omega)]
            · refine x_iload (pc := 69) hC dX11_round_69 rfl ?_
              refine x_istore_n (L' := [_, _, _, _, _, _, _]) (pc := 71) hC dX11_round_71 rfl rfl ?_
              refine x_iload (pc := 72) hC dX11_round_72 rfl ?_
              refine x_istore (L' := [_, _, _, _, _, _, _]) (pc := 74) hC dX11_round_74 rfl rfl ?_
              refine x_iinc (L' := [_, _, _, _, _, _, _]) (pc := 76) hC dX11_round_76 rfl rfl rfl ?_
              refine x_goto (tgt := 47) (pc := 79) hC dX11_round_79 (by decide) ?_
              refine X.drop (xLe_s (xLe_s (xLe_s (xLe_s (xLe_s (xLe_s (xLe_n xLe_0))))))) (ih (k + 1) (j + 1) _ (by omega) (by omega) (hnx.tr hnx58) j _ ?_)
              rw [mnF_s, hb, if_pos (show rbF z n.toNat (1 + (k : Int)) < be by rw [← hj]; omega), ← hj]
        exact loop 20 0 1 σ rfl (by omega) (Nx.rf _) 1 1000000 rfl
      · refine x_bipush (pc := 35) hC dX11_round_35 (by decide +kernel) ?_
        refine x_ireturn hC hZ dX11_round_37 (by decide) (by decide) ?_
        refine ⟨congrArg (fun z => some (Value.int (iI z))) ?_, Nx.rf _, rfl, rfl⟩
        unfold roundA
        (repeat (first | rw [if_pos (by omega)] | rw [if_neg (by omega)]))
        all_goals (first | rfl | omega | assumption)
    · refine x_bipush (pc := 19) hC dX11_round_19 (by decide +kernel) ?_
      refine x_ireturn hC hZ dX11_round_21 (by decide) (by decide) ?_
      refine ⟨congrArg (fun z => some (Value.int (iI z))) ?_, Nx.rf _, rfl, rfl⟩
      unfold roundA
      (repeat (first | rw [if_pos (by omega)] | rw [if_neg (by omega)]))
      all_goals (first | rfl | omega | assumption)
  · refine x_iconst (pc := 7) hC dX11_round_7 ?_
    refine x_ireturn hC hZ dX11_round_8 (by decide) (by decide) ?_
    refine ⟨congrArg (fun z => some (Value.int (iI z))) ?_, Nx.rf _, rfl, rfl⟩
    unfold roundA
    (repeat (first | rw [if_pos (by omega)] | rw [if_neg (by omega)]))
    all_goals (first | rfl | omega | assumption)

set_option maxHeartbeats 4000000 in
set_option maxRecDepth 100000 in
theorem c_late (E : xE) {σ : xM} {ρ : xR} {ks : xKs} (hw : WK ks ρ) {z : zS} (hz : HZ σ ρ ks 1 z) (hpl : PlOk z) {f f2 n w : Int} (hf0 : rg f) (hf20 : rg f2) (hn0 : rg n) (hw0 : rg w) (ht : z 0 + 100 < 900000) : Sp E yX11_late kX11_late 3 0 0 [.ref 0, .int (iI f), .int (iI f2), .int (iI n), .int (iI w)] σ ρ ks (fun r σ' ρ' ks' => r = some (.int (iI (lateA z f f2 n w))) ∧ Nx σ σ' ∧ ρ' = ρ ∧ ks' = ks) := by
  obtain ⟨w0, w43, ⟨wr0, wr1, wr3, wr4, wr5⟩, wh, wk, wn, wt⟩ := id hw
  have hk := wh.hk
  obtain ⟨k1, k2, r0, r2, hs3⟩ := id hk
  have hfs := hz.fans
  have hsz := hz.sit
  obtain ⟨⟨hz1, -⟩, -, ⟨rq, hrq, hrq2, hrm⟩, hz4, ⟨hz6, -⟩, hz7, hz8, ⟨hz10, -⟩, ⟨hz12, -⟩, ⟨hz14, -⟩⟩ := id hz
  have hfan := hpl.1
  have hsit := hpl.2.1
  have h13 := hpl.1.1
  have h14 := hpl.2.1.1
  have hz00 := hpl.2.2.2
  obtain ⟨n0, ⟨n1, n2, n3, n4, n5⟩, m0, m1, m2, m3, m4⟩ := id wn
  refine x_enter (own := RX11) (L := [_, _, _, _, _, _, _, _, _, _, _]) (by decide +kernel) rfl (by exact Nat.le_of_ble_eq_true rfl) rfl (fun p e R s m args below meth c Z hZ hC hR hin => ?_)
  by_cases hf : 0 ≤ f ∧ f ≤ z 13 - 1
  · obtain ⟨y, hy, hfa⟩ := hfs.2 f (by omega) (by omega)
    obtain ⟨hyk, hfz, htz⟩ := id hfa
    have hci := kci_fam (z (22 + f))
    obtain ⟨a0, a1, a2, a3, a4, a5, a6⟩ := id hfz
    have hfo := hfan.2 f (by omega) (by omega)
    obtain ⟨b1, b2, b3, b4, b5, b6⟩ := id hfo
    have hf4 : 0 ≤ f ∧ f < 4 := ⟨by omega, by omega⟩
    by_cases hf2 : 0 ≤ f2 ∧ f2 ≤ z 13 - 1
    · obtain ⟨y2, hy2, hfa2⟩ := hfs.2 f2 (by omega) (by omega)
      have hyk2 := hfa2.1
      refine x_aload_n (pc := 0) hC dX11_late_0 rfl ?_
      refine x_getr (K := 0) (pc := 1) hC fX11_12_11 (by assumption) dX11_late_1 rfl rfl (by assumption) ?_
      refine x_iload_n (pc := 4) hC dX11_late_4 rfl ?_
      refine x_callV1 (As := [_]) (Bs := [_]) (pc := 5) hC (c_fanOf E hk hfs hfan (f := f) ⟨by omega, by omega⟩ hy) wX11_81_1 pX1_fanOf (by assumption) rfl rfl (by exact Nat.le_of_ble_eq_true rfl) hR (by decide) (by decide) (by decide) rfl dX11_late_5 ?_
      refine x_astore (L' := [_, _, _, _, _, _, _, _, _, _, _]) (pc := 8) hC dX11_late_8 rfl rfl ?_
      refine x_aload_n (pc := 10) hC dX11_late_10 rfl ?_
      refine x_getr (K := 0) (pc := 11) hC fX11_12_11 (by assumption) dX11_late_11 rfl rfl (by assumption) ?_
      refine x_iload_n (pc := 14) hC dX11_late_14 rfl ?_
      refine x_callV1 (As := [_]) (Bs := [_]) (pc := 15) hC (c_fanOf E hk hfs hfan (f := f2) ⟨by omega, by omega⟩ hy2) wX11_81_1 pX1_fanOf (by assumption) rfl rfl (by exact Nat.le_of_ble_eq_true rfl) hR (by decide) (by decide) (by decide) rfl dX11_late_15 ?_
      refine x_astore (L' := [_, _, _, _, _, _, _, _, _, _, _]) (pc := 18) hC dX11_late_18 rfl rfl ?_
      refine x_aload (pc := 20) hC dX11_late_20 rfl ?_
      refine x_ifnull_r (pc := 22) hC dX11_late_22 ?_
      refine x_aload (pc := 25) hC dX11_late_25 rfl ?_
      refine x_ifnull_r (pc := 27) hC dX11_late_27 ?_
      refine x_iload (pc := 30) hC dX11_late_30 rfl ?_
      refine x_callS1 (As := [_]) (Bs := [_]) (pc := 32) hC (c_isEither E (by omega)) wX11_181 pX11_isEither rfl rfl (by exact Nat.le_of_ble_eq_true rfl) hR (by decide) (by decide) (by decide) rfl dX11_late_32 ?_
      refine x_ifB_ne (tgt := 40) (pc := 35) hC  dX11_late_35 (by decide) (fun c35 => ?_) (fun c35 => ?_)
      · refine x_iload_n (pc := 40) hC dX11_late_40 rfl ?_
        refine x_iload_n (pc := 41) hC dX11_late_41 rfl ?_
        refine x_icmp_eq (tgt := 55) (pc := 42) hC (by omega) (by omega) dX11_late_42 (by decide) (fun c42 => ?_) (fun c42 => ?_)
        · refine x_bipush (pc := 55) hC dX11_late_55 (by decide +kernel) ?_
          refine x_ireturn hC hZ dX11_late_57 (by decide) (by decide) ?_
          refine ⟨congrArg (fun z => some (Value.int (iI z))) ?_, Nx.rf _, rfl, rfl⟩
          unfold lateA
          (repeat (first | rw [if_pos (by omega)] | rw [if_neg (by omega)]))
          all_goals (first | rfl | omega | assumption)
        · refine x_iload_n (pc := 45) hC dX11_late_45 rfl ?_
          refine x_iconst (pc := 46) hC dX11_late_46 ?_
          refine x_bipush (pc := 47) hC dX11_late_47 (by decide +kernel) ?_
          refine x_callS1 (As := [_, _, _]) (Bs := [_, _, _]) (pc := 49) hC (c_isIn E (by omega) (by omega) (by omega)) wX11_152 pX11_isIn rfl rfl (by exact Nat.le_of_ble_eq_true rfl) hR (by decide) (by decide) (by decide) rfl dX11_late_49 ?_
          refine x_ifB_ne (tgt := 58) (pc := 52) hC  dX11_late_52 (by decide) (fun c52 => ?_) (fun c52 => ?_)
          · refine x_ldc (pc := 58) hC (1000000) qX11_184 (by decide +kernel) dX11_late_58 ?_
            refine x_istore (L' := [_, _, _, _, _, _, _, _, _, _, _]) (pc := 60) hC dX11_late_60 rfl rfl ?_
            refine x_iconst (pc := 62) hC dX11_late_62 ?_
            refine x_istore (L' := [_, _, _, _, _, _, _, _, _, _, _]) (pc := 63) hC dX11_late_63 rfl rfl ?_
            refine x_iconst (pc := 65) hC dX11_late_65 ?_
            refine x_istore (L' := [_, _, _, _, _, _, _, _, _, _, _]) (pc := 66) hC dX11_late_66 rfl rfl ?_
            have hg : ∀ x : Nat, x < 30 → 0 ≤ mtF z f f2 (0 + (x : Int)) n.toNat ∧ mtF z f f2 (0 + (x : Int)) n.toNat < 1000000 := by
              intro x hx
              have := mtF_in z f f2 (0 + (x : Int)) n.toNat
              omega
            have loop : ∀ (i k : Nat) (j : Int), j = 0 + k → k + i = 30 → ∀ fo be : Int, mnF (fun x => mtF z f f2 x n.toNat) 0 1000000 0 k = (fo, be) → X E p e R s m args below meth c Z 0 0 σ ρ ks 68 [some (.ref 0), some (.int (iI f)), some (.int (iI f2)), some (.int (iI n)), some (.int (iI w)), some (.ref y), some (.ref y2), some (.int (iI be)), some (.int (iI fo)), some (.int (iI j)), none] [] := by
              intro i
              induction i with
              | zero =>
                intro k j hj hi fo be hb
                have hst : mnF (fun x => mtF z f f2 x n.toNat) (0) 1000000 0 30 = (fo, be) := (mnF_start (g := fun x => mtF z f f2 x n.toNat) (b := 0) (l := 1000000) (b' := 0) (l' := 1000000) (k0 := 0) (hg 0 (by decide)).2 (by have := (hg 0 (by decide)).2; omega) 29).trans (by rw [show 29 + 1 = k by omega]; exact hb)
                refine x_iload (pc := 68) hC dX11_late_68 rfl ?_
                refine x_bipush (pc := 70) hC dX11_late_70 (by decide +kernel) ?_
                refine x_icmp_ge (tgt := 109) (pc := 72) hC (by omega) (by omega) dX11_late_72 (by decide) (fun c72 => ?_) (fun c72 => by (exfalso; omega))
                refine x_iload (pc := 109) hC dX11_late_109 rfl ?_
                refine x_if_ne (tgt := 119) (pc := 111) hC (by omega) dX11_late_111 (by decide) (fun c111 => ?_) (fun c111 => ?_)
                · refine x_iload (pc := 119) hC dX11_late_119 rfl ?_
                  refine x_ireturn hC hZ dX11_late_121 (by decide) (by decide) ?_
                  refine ⟨congrArg (fun z => some (Value.int (iI z))) ?_, Nx.rf _, rfl, rfl⟩
                  unfold lateA
                  rw [if_neg (by omega), if_neg (by omega), if_neg (by omega)]
                  exact (congrArg Prod.snd hst).symm
                · refine x_iload (pc := 114) hC dX11_late_114 rfl ?_
                  refine x_goto (tgt := 121) (pc := 116) hC dX11_late_116 (by decide) ?_
                  refine x_ireturn hC hZ dX11_late_121 (by decide) (by decide) ?_
                  refine ⟨congrArg (fun z => some (Value.int (iI z))) ?_, Nx.rf _, rfl, rfl⟩
                  unfold lateA
                  rw [if_neg (by omega), if_neg (by omega), if_pos (by omega)]
                  exact (congrArg Prod.fst hst).symm
              | succ i ih =>
                intro k j hj hi fo be hb
                have hbl := mnF_le (fun x => mtF z f f2 x n.toNat) 0 1000000 0 k
                have hbg := mnF_ge (g := fun x => mtF z f f2 x n.toNat) (b := 0) (l := 1000000) (k0 := 0) (M := 0) (N := 30) (by decide) (fun x hx => (hg x hx).1) k (by omega)
                rw [hb] at hbl hbg
                have hgk := hg k (by omega)
                rw [← hj] at hgk
                refine x_iload (pc := 68) hC dX11_late_68 rfl ?_
                refine x_bipush (pc := 70) hC dX11_late_70 (by decide +kernel) ?_
                refine x_icmp_ge (tgt := 109) (pc := 72) hC (by omega) (by omega) dX11_late_72 (by decide) (fun c72 => by (exfalso; omega)) (fun c72 => ?_)
                refine x_aload_n (pc := 75) hC dX11_late_75 rfl ?_
                refine x_aload (pc := 76) hC dX11_late_76 rfl ?_
                refine x_aload (pc := 78) hC dX11_late_78 rfl ?_
                refine x_iload_n (pc := 80) hC dX11_late_80 rfl ?_
                refine x_iload (pc := 81) hC dX11_late_81 rfl ?_
                refine x_callV1 (As := [_, _, _, _]) (Bs := [_, _, _, _]) (pc := 83) hC (c_meetings E hw hz hpl hfa (by omega) hfa2 (by omega) (n := n) (l := j) (by omega) (by omega)) wX11_198_11 pX11_meetings (by assumption) rfl rfl (by exact Nat.le_of_ble_eq_true rfl) hR (by decide) (by decide) (by decide) rfl dX11_late_83 ?_
                refine x_istore (L' := [_, _, _, _, _, _, _, _, _, _, _]) (pc := 86) hC dX11_late_86 rfl rfl ?_
                refine x_iload (pc := 88) hC dX11_late_88 rfl ?_
                refine x_iload (pc := 90) hC dX11_late_90 rfl ?_
                refine x_icmp_ge (tgt := 103) (pc := 92) hC (by omega) (by omega) dX11_late_92 (by decide) (fun c92 => ?_) (fun c92 => ?_)
                · refine x_iinc (L' := [_, _, _, _, _, _, _, _, _, _, _]) (pc := 103) hC dX11_late_103 rfl rfl rfl ?_
                  refine x_goto (tgt := 68) (pc := 106) hC dX11_late_106 (by decide) ?_
                  refine X.drop (xLe_s (xLe_s (xLe_s (xLe_s (xLe_s (xLe_s (xLe_s (xLe_s (xLe_s (xLe_s (xLe_n xLe_0))))))))))) (ih (k + 1) (j + 1) (by omega) (by omega) fo be ?_)
                  rw [mnF_s, hb, if_neg (show ¬ mtF z f f2 (0 + (k : Int)) n.toNat < be by rw [← hj]; omega)]
                · refine x_iload (pc := 95) hC dX11_late_95 rfl ?_
                  refine x_istore (L' := [_, _, _, _, _, _, _, _, _, _, _]) (pc := 97) hC dX11_late_97 rfl rfl ?_
                  refine x_iload (pc := 99) hC dX11_late_99 rfl ?_
                  refine x_istore (L' := [_, _, _, _, _, _, _, _, _, _, _]) (pc := 101) hC dX11_late_101 rfl rfl ?_
                  refine x_iinc (L' := [_, _, _, _, _, _, _, _, _, _, _]) (pc := 103) hC dX11_late_103 rfl rfl rfl ?_
                  refine x_goto (tgt := 68) (pc := 106) hC dX11_late_106 (by decide) ?_
                  refine X.drop (xLe_s (xLe_s (xLe_s (xLe_s (xLe_s (xLe_s (xLe_s (xLe_s (xLe_s (xLe_s (xLe_n xLe_0))))))))))) (ih (k + 1) (j + 1) (by omega) (by omega) j _ ?_)
                  rw [mnF_s, hb, if_pos (show mtF z f f2 (0 + (k : Int)) n.toNat < be by rw [← hj]; omega), ← hj]
            exact loop 30 0 0 rfl (by omega) 0 1000000 rfl
          · refine x_bipush (pc := 55) hC dX11_late_55 (by decide +kernel) ?_
            refine x_ireturn hC hZ dX11_late_57 (by decide) (by decide) ?_
            refine ⟨congrArg (fun z => some (Value.int (iI z))) ?_, Nx.rf _, rfl, rfl⟩
            unfold lateA
            (repeat (first | rw [if_pos (by omega)] | rw [if_neg (by omega)]))
            all_goals (first | rfl | omega | assumption)
      · refine x_iconst (pc := 38) hC dX11_late_38 ?_
        refine x_ireturn hC hZ dX11_late_39 (by decide) (by decide) ?_
        refine ⟨congrArg (fun z => some (Value.int (iI z))) ?_, Nx.rf _, rfl, rfl⟩
        unfold lateA
        (repeat (first | rw [if_pos (by omega)] | rw [if_neg (by omega)]))
        all_goals (first | rfl | omega | assumption)
    · refine x_aload_n (pc := 0) hC dX11_late_0 rfl ?_
      refine x_getr (K := 0) (pc := 1) hC fX11_12_11 (by assumption) dX11_late_1 rfl rfl (by assumption) ?_
      refine x_iload_n (pc := 4) hC dX11_late_4 rfl ?_
      refine x_callV1 (As := [_]) (Bs := [_]) (pc := 5) hC (c_fanOf E hk hfs hfan (f := f) ⟨by omega, by omega⟩ hy) wX11_81_1 pX1_fanOf (by assumption) rfl rfl (by exact Nat.le_of_ble_eq_true rfl) hR (by decide) (by decide) (by decide) rfl dX11_late_5 ?_
      refine x_astore (L' := [_, _, _, _, _, _, _, _, _, _, _]) (pc := 8) hC dX11_late_8 rfl rfl ?_
      refine x_aload_n (pc := 10) hC dX11_late_10 rfl ?_
      refine x_getr (K := 0) (pc := 11) hC fX11_12_11 (by assumption) dX11_late_11 rfl rfl (by assumption) ?_
      refine x_iload_n (pc := 14) hC dX11_late_14 rfl ?_
      refine x_callV1 (As := [_]) (Bs := [_]) (pc := 15) hC (c_fanOfN E hk hfs hfan (f := f2) hf20 hf2) wX11_81_1 pX1_fanOf (by assumption) rfl rfl (by exact Nat.le_of_ble_eq_true rfl) hR (by decide) (by decide) (by decide) rfl dX11_late_15 ?_
      refine x_astoreN (L' := [_, _, _, _, _, _, _, _, _, _, _]) (pc := 18) hC dX11_late_18 rfl rfl ?_
      refine x_aload (pc := 20) hC dX11_late_20 rfl ?_
      refine x_ifnull_r (pc := 22) hC dX11_late_22 ?_
      refine x_aloadN (pc := 25) hC dX11_late_25 rfl ?_
      refine x_ifnull_n (tgt := 38) (pc := 27) hC dX11_late_27 (by decide) ?_
      refine x_iconst (pc := 38) hC dX11_late_38 ?_
      refine x_ireturn hC hZ dX11_late_39 (by decide) (by decide) ?_
      refine ⟨congrArg (fun z => some (Value.int (iI z))) ?_, Nx.rf _, rfl, rfl⟩
      unfold lateA
      (repeat (first | rw [if_pos (by omega)] | rw [if_neg (by omega)]))
      all_goals (first | rfl | omega | assumption)
  · by_cases hf2 : 0 ≤ f2 ∧ f2 ≤ z 13 - 1
    · obtain ⟨y2, hy2, hfa2⟩ := hfs.2 f2 (by omega) (by omega)
      refine x_aload_n (pc := 0) hC dX11_late_0 rfl ?_
      refine x_getr (K := 0) (pc := 1) hC fX11_12_11 (by assumption) dX11_late_1 rfl rfl (by assumption) ?_
      refine x_iload_n (pc := 4) hC dX11_late_4 rfl ?_
      refine x_callV1 (As := [_]) (Bs := [_]) (pc := 5) hC (c_fanOfN E hk hfs hfan (f := f) hf0 hf) wX11_81_1 pX1_fanOf (by assumption) rfl rfl (by exact Nat.le_of_ble_eq_true rfl) hR (by decide) (by decide) (by decide) rfl dX11_late_5 ?_
      refine x_astoreN (L' := [_, _, _, _, _, _, _, _, _, _, _]) (pc := 8) hC dX11_late_8 rfl rfl ?_
      refine x_aload_n (pc := 10) hC dX11_late_10 rfl ?_
      refine x_getr (K := 0) (pc := 11) hC fX11_12_11 (by assumption) dX11_late_11 rfl rfl (by assumption) ?_
      refine x_iload_n (pc := 14) hC dX11_late_14 rfl ?_
      refine x_callV1 (As := [_]) (Bs := [_]) (pc := 15) hC (c_fanOf E hk hfs hfan (f := f2) ⟨by omega, by omega⟩ hy2) wX11_81_1 pX1_fanOf (by assumption) rfl rfl (by exact Nat.le_of_ble_eq_true rfl) hR (by decide) (by decide) (by decide) rfl dX11_late_15 ?_
      refine x_astore (L' := [_, _, _, _, _, _, _, _, _, _, _]) (pc := 18) hC dX11_late_18 rfl rfl ?_
      refine x_aloadN (pc := 20) hC dX11_late_20 rfl ?_
      refine x_ifnull_n (tgt := 38) (pc := 22) hC dX11_late_22 (by decide) ?_
      refine x_iconst (pc := 38) hC dX11_late_38 ?_
      refine x_ireturn hC hZ dX11_late_39 (by decide) (by decide) ?_
      refine ⟨congrArg (fun z => some (Value.int (iI z))) ?_, Nx.rf _, rfl, rfl⟩
      unfold lateA
      (repeat (first | rw [if_pos (by omega)] | rw [if_neg (by omega)]))
      all_goals (first | rfl | omega | assumption)
    · refine x_aload_n (pc := 0) hC dX11_late_0 rfl ?_
      refine x_getr (K := 0) (pc := 1) hC fX11_12_11 (by assumption) dX11_late_1 rfl rfl (by assumption) ?_
      refine x_iload_n (pc := 4) hC dX11_late_4 rfl ?_
      refine x_callV1 (As := [_]) (Bs := [_]) (pc := 5) hC (c_fanOfN E hk hfs hfan (f := f) hf0 hf) wX11_81_1 pX1_fanOf (by assumption) rfl rfl (by exact Nat.le_of_ble_eq_true rfl) hR (by decide) (by decide) (by decide) rfl dX11_late_5 ?_
      refine x_astoreN (L' := [_, _, _, _, _, _, _, _, _, _, _]) (pc := 8) hC dX11_late_8 rfl rfl ?_
      refine x_aload_n (pc := 10) hC dX11_late_10 rfl ?_
      refine x_getr (K := 0) (pc := 11) hC fX11_12_11 (by assumption) dX11_late_11 rfl rfl (by assumption) ?_
      refine x_iload_n (pc := 14) hC dX11_late_14 rfl ?_
      refine x_callV1 (As := [_]) (Bs := [_]) (pc := 15) hC (c_fanOfN E hk hfs hfan (f := f2) hf20 hf2) wX11_81_1 pX1_fanOf (by assumption) rfl rfl (by exact Nat.le_of_ble_eq_true rfl) hR (by decide) (by decide) (by decide) rfl dX11_late_15 ?_
      refine x_astoreN (L' := [_, _, _, _, _, _, _, _, _, _, _]) (pc := 18) hC dX11_late_18 rfl rfl ?_
      refine x_aloadN (pc := 20) hC dX11_late_20 rfl ?_
      refine x_ifnull_n (tgt := 38) (pc := 22) hC dX11_late_22 (by decide) ?_
      refine x_iconst (pc := 38) hC dX11_late_38 ?_
      refine x_ireturn hC hZ dX11_late_39 (by decide) (by decide) ?_
      refine ⟨congrArg (fun z => some (Value.int (iI z))) ?_, Nx.rf _, rfl, rfl⟩
      unfold lateA
      (repeat (first | rw [if_pos (by omega)] | rw [if_neg (by omega)]))
      all_goals (first | rfl | omega | assumption)

set_option maxHeartbeats 4000000 in
set_option maxRecDepth 100000 in
theorem c_period (E : xE) {σ : xM} {ρ : xR} {ks : xKs} (hw : WK ks ρ) {z : zS} (hz : HZ σ ρ ks 1 z) (hpl : PlOk z) {f : Int} (hf0 : rg f) : Sp E yX11_period kX11_period 3 0 0 [.ref 0, .int (iI f)] σ ρ ks (fun r σ' ρ' ks' => r = some (.int (iI (periodA z f))) ∧ Nx σ σ' ∧ ρ' = ρ ∧ ks' = ks) := by
  obtain ⟨w0, w43, ⟨wr0, wr1, wr3, wr4, wr5⟩, wh, wk, wn, wt⟩ := id hw
  have hk := wh.hk
  obtain ⟨k1, k2, r0, r2, hs3⟩ := id hk
  have hfs := hz.fans
  have hsz := hz.sit
  obtain ⟨⟨hz1, -⟩, -, ⟨rq, hrq, hrq2, hrm⟩, hz4, ⟨hz6, -⟩, hz7, hz8, ⟨hz10, -⟩, ⟨hz12, -⟩, ⟨hz14, -⟩⟩ := id hz
  have hfan := hpl.1
  have hsit := hpl.2.1
  have h13 := hpl.1.1
  have h14 := hpl.2.1.1
  have hz00 := hpl.2.2.2
  obtain ⟨n0, ⟨n1, n2, n3, n4, n5⟩, m0, m1, m2, m3, m4⟩ := id wn
  refine x_enter (own := RX11) (L := [_, _, _, _]) (by decide +kernel) rfl (by exact Nat.le_of_ble_eq_true rfl) rfl (fun p e R s m args below meth c Z hZ hC hR hin => ?_)
  by_cases hf : 0 ≤ f ∧ f ≤ z 13 - 1
  · obtain ⟨y, hy, hfa⟩ := hfs.2 f (by omega) (by omega)
    obtain ⟨hyk, hfz, htz⟩ := id hfa
    have hci := kci_fam (z (22 + f))
    obtain ⟨a0, a1, a2, a3, a4, a5, a6⟩ := id hfz
    have hfo := hfan.2 f (by omega) (by omega)
    obtain ⟨b1, b2, b3, b4, b5, b6⟩ := id hfo
    have hf4 : 0 ≤ f ∧ f < 4 := ⟨by omega, by omega⟩
    refine x_aload_n (pc := 0) hC dX11_period_0 rfl ?_
    refine x_getr (K := 0) (pc := 1) hC fX11_12_11 (by assumption) dX11_period_1 rfl rfl (by assumption) ?_
    refine x_iload_n (pc := 4) hC dX11_period_4 rfl ?_
    refine x_callV1 (As := [_]) (Bs := [_]) (pc := 5) hC (c_fanOf E hk hfs hfan (f := f) ⟨by omega, by omega⟩ hy) wX11_81_1 pX1_fanOf (by assumption) rfl rfl (by exact Nat.le_of_ble_eq_true rfl) hR (by decide) (by decide) (by decide) rfl dX11_period_5 ?_
    refine x_astore_n (L' := [_, _, _, _]) (pc := 8) hC dX11_period_8 rfl rfl ?_
    refine x_aload_n (pc := 9) hC dX11_period_9 rfl ?_
    refine x_ifnonnull_r (tgt := 15) (pc := 10) hC dX11_period_10 (by decide) ?_
    refine x_iconst (pc := 15) hC dX11_period_15 ?_
    refine x_istore_n (L' := [_, _, _, _]) (pc := 16) hC dX11_period_16 rfl rfl ?_
    have loop : ∀ (i : Nat) (j : Int), j + i = 201 → 1 ≤ j → (i = 0 → perS (isAtF z f) 199 1 = -5) → (∀ x : Nat, i = x + 1 → perS (isAtF z f) x j = perS (isAtF z f) 199 1) → X E p e R s m args below meth c Z 0 0 σ ρ ks 17 [some (.ref 0), some (.int (iI f)), some (.ref y), some (.int (iI j))] [] := by
      intro i
      induction i with
      | zero =>
        intro j hj hj1 h0 hx
        refine x_iload_n (pc := 17) hC dX11_period_17 rfl ?_
        refine x_sipush (pc := 18) hC dX11_period_18 (by decide +kernel) ?_
        refine x_icmp_gt (tgt := 41) (pc := 21) hC (by omega) (by omega) dX11_period_21 (by decide) (fun c21 => ?_) (fun c21 => by (exfalso; omega))
        refine x_bipush (pc := 41) hC dX11_period_41 (by decide +kernel) ?_
        refine x_ireturn hC hZ dX11_period_43 (by decide) (by decide) ?_
        refine ⟨congrArg (fun z => some (Value.int (iI z))) ?_, Nx.rf _, rfl, rfl⟩
        unfold periodA
        rw [if_neg (by omega), h0 rfl]
      | succ i ih =>
        intro j hj hj1 h0 hx
        have hxx := hx i rfl
        refine x_iload_n (pc := 17) hC dX11_period_17 rfl ?_
        refine x_sipush (pc := 18) hC dX11_period_18 (by decide +kernel) ?_
        refine x_icmp_gt (tgt := 41) (pc := 21) hC (by omega) (by omega) dX11_period_21 (by decide) (fun c21 => by (exfalso; omega)) (fun c21 => ?_)
        refine x_aload_n (pc := 24) hC dX11_period_24 rfl ?_
        refine x_aload_n (pc := 25) hC dX11_period_25 rfl ?_
        refine x_iload_n (pc := 26) hC dX11_period_26 rfl ?_
        refine x_callV1 (As := [_, _]) (Bs := [_, _]) (pc := 27) hC (c_comesAgain E hw hz hpl hfa (by omega) (l := j) (by omega)) wX11_202_11 pX11_comesAgain (by assumption) rfl rfl (by exact Nat.le_of_ble_eq_true rfl) hR (by decide) (by decide) (by decide) rfl dX11_period_27 ?_
        refine x_ifB_eq (tgt := 35) (pc := 30) hC  dX11_period_30 (by decide) (fun c30 => ?_) (fun c30 => ?_)
        · refine x_iinc (L' := [_, _, _, _]) (pc := 35) hC dX11_period_35 rfl rfl rfl ?_
          refine x_goto (tgt := 17) (pc := 38) hC dX11_period_38 (by decide) ?_
          refine ih (j + 1) (by omega) (by omega) (fun hi0 => ?_) (fun x hx2 => ?_)
          · subst hi0
            rw [← hxx]
            exact if_neg c30
          · subst hx2
            rw [← hxx]
            exact (if_neg c30).symm
        · refine x_iload_n (pc := 33) hC dX11_period_33 rfl ?_
          refine x_ireturn hC hZ dX11_period_34 (by decide) (by decide) ?_
          refine ⟨congrArg (fun z => some (Value.int (iI z))) ?_, Nx.rf _, rfl, rfl⟩
          unfold periodA
          rw [if_neg (by omega), ← hxx]
          cases i with
          | zero => exact (if_pos c30).symm
          | succ i => exact (if_pos c30).symm
    exact loop 200 1 (by decide) (by decide) (fun h => absurd h (by decide)) (fun x hx => by rw [show x = 199 by omega])
  · refine x_aload_n (pc := 0) hC dX11_period_0 rfl ?_
    refine x_getr (K := 0) (pc := 1) hC fX11_12_11 (by assumption) dX11_period_1 rfl rfl (by assumption) ?_
    refine x_iload_n (pc := 4) hC dX11_period_4 rfl ?_
    refine x_callV1 (As := [_]) (Bs := [_]) (pc := 5) hC (c_fanOfN E hk hfs hfan (f := f) hf0 hf) wX11_81_1 pX1_fanOf (by assumption) rfl rfl (by exact Nat.le_of_ble_eq_true rfl) hR (by decide) (by decide) (by decide) rfl dX11_period_5 ?_
    refine x_astoreN_n (L' := [_, _, _, _]) (pc := 8) hC dX11_period_8 rfl rfl ?_
    refine x_aloadN_n (pc := 9) hC dX11_period_9 rfl ?_
    refine x_ifnonnull_n (pc := 10) hC dX11_period_10 ?_
    refine x_iconst (pc := 13) hC dX11_period_13 ?_
    refine x_ireturn hC hZ dX11_period_14 (by decide) (by decide) ?_
    refine ⟨congrArg (fun z => some (Value.int (iI z))) ?_, Nx.rf _, rfl, rfl⟩
    unfold periodA
    (repeat (first | rw [if_pos (by omega)] | rw [if_neg (by omega)]))
    all_goals (first | rfl | omega | assumption)

set_option maxHeartbeats 4000000 in
set_option maxRecDepth 100000 in
theorem c_mean (E : xE) {σ : xM} {ρ : xR} {ks : xKs} (hw : WK ks ρ) {z : zS} (hz : HZ σ ρ ks 1 z) (hpl : PlOk z) {f n w : Int} (hf0 : rg f) (hn0 : rg n) (hw0 : rg w) (ht : z 0 + 100 < 900000) : Sp E yX11_mean kX11_mean 2 0 0 [.ref 0, .int (iI f), .int (iI n), .int (iI w)] σ ρ ks (fun r σ' ρ' ks' => r = some (.long (lL (meanA z f n w))) ∧ Nx σ σ' ∧ ρ' = ρ ∧ ks' = ks) := by
  obtain ⟨w0, w43, ⟨wr0, wr1, wr3, wr4, wr5⟩, wh, wk, wn, wt⟩ := id hw
  have hk := wh.hk
  obtain ⟨k1, k2, r0, r2, hs3⟩ := id hk
  have hfs := hz.fans
  have hsz := hz.sit
  obtain ⟨⟨hz1, -⟩, -, ⟨rq, hrq, hrq2, hrm⟩, hz4, ⟨hz6, -⟩, hz7, hz8, ⟨hz10, -⟩, ⟨hz12, -⟩, ⟨hz14, -⟩⟩ := id hz
  have hfan := hpl.1
  have hsit := hpl.2.1
  have h13 := hpl.1.1
  have h14 := hpl.2.1.1
  have hz00 := hpl.2.2.2
  obtain ⟨n0, ⟨n1, n2, n3, n4, n5⟩, m0, m1, m2, m3, m4⟩ := id wn
  refine x_enter (own := RX11) (L := [_, _, _, _, _, _, _]) (by decide +kernel) rfl (by exact Nat.le_of_ble_eq_true rfl) rfl (fun p e R s m args below meth c Z hZ hC hR hin => ?_)
  by_cases hf : 0 ≤ f ∧ f ≤ z 13 - 1
  · obtain ⟨y, hy, hfa⟩ := hfs.2 f (by omega) (by omega)
    obtain ⟨hyk, hfz, htz⟩ := id hfa
    have hci := kci_fam (z (22 + f))
    obtain ⟨a0, a1, a2, a3, a4, a5, a6⟩ := id hfz
    have hfo := hfan.2 f (by omega) (by omega)
    obtain ⟨b1, b2, b3, b4, b5, b6⟩ := id hfo
    have hf4 : 0 ≤ f ∧ f < 4 := ⟨by omega, by omega⟩
    refine x_aload_n (pc := 0) hC dX11_mean_0 rfl ?_
    refine x_getr (K := 0) (pc := 1) hC fX11_12_11 (by assumption) dX11_mean_1 rfl rfl (by assumption) ?_
    refine x_iload_n (pc := 4) hC dX11_mean_4 rfl ?_
    refine x_callV1 (As := [_]) (Bs := [_]) (pc := 5) hC (c_fanOf E hk hfs hfan (f := f) ⟨by omega, by omega⟩ hy) wX11_81_1 pX1_fanOf (by assumption) rfl rfl (by exact Nat.le_of_ble_eq_true rfl) hR (by decide) (by decide) (by decide) rfl dX11_mean_5 ?_
    refine x_astore (L' := [_, _, _, _, _, _, _]) (pc := 8) hC dX11_mean_8 rfl rfl ?_
    refine x_aload (pc := 10) hC dX11_mean_10 rfl ?_
    refine x_ifnull_r (pc := 12) hC dX11_mean_12 ?_
    refine x_iload_n (pc := 15) hC dX11_mean_15 rfl ?_
    refine x_iconst (pc := 16) hC dX11_mean_16 ?_
    refine x_bipush (pc := 17) hC dX11_mean_17 (by decide +kernel) ?_
    refine x_callS1 (As := [_, _, _]) (Bs := [_, _, _]) (pc := 19) hC (c_isIn E (by omega) (by omega) (by omega)) wX11_152 pX11_isIn rfl rfl (by exact Nat.le_of_ble_eq_true rfl) hR (by decide) (by decide) (by decide) rfl dX11_mean_19 ?_
    refine x_ifB_eq (tgt := 32) (pc := 22) hC  dX11_mean_22 (by decide) (fun c22 => ?_) (fun c22 => ?_)
    · refine x_ldc2 (pc := 32) hC (-9223372036854775808) qX11_222 (by decide +kernel) dX11_mean_32 ?_
      refine x_lreturn hC hZ dX11_mean_35 (by decide) (by decide) ?_
      refine ⟨congrArg (fun z => some (Value.long (lL z))) ?_, Nx.rf _, rfl, rfl⟩
      unfold meanA
      (repeat (first | rw [if_pos (by omega)] | rw [if_neg (by omega)]))
      all_goals (first | rfl | omega | assumption)
    · refine x_iload_n (pc := 25) hC dX11_mean_25 rfl ?_
      refine x_callS1 (As := [_]) (Bs := [_]) (pc := 26) hC (c_isEither E (by omega)) wX11_181 pX11_isEither rfl rfl (by exact Nat.le_of_ble_eq_true rfl) hR (by decide) (by decide) (by decide) rfl dX11_mean_26 ?_
      refine x_ifB_ne (tgt := 36) (pc := 29) hC  dX11_mean_29 (by decide) (fun c29 => ?_) (fun c29 => ?_)
      · refine x_iconst (pc := 36) hC dX11_mean_36 ?_
        refine x_istore (L' := [_, _, _, _, _, _, _]) (pc := 37) hC dX11_mean_37 rfl rfl ?_
        refine x_iconst (pc := 39) hC dX11_mean_39 ?_
        refine x_istore (L' := [_, _, _, _, _, _, _]) (pc := 40) hC dX11_mean_40 rfl rfl ?_
        have loop : ∀ (i k : Nat) (j a : Int), j = k → (k : Int) + i = n → a = sumTo (fun x => isAtF z f (z 0 + x)) k → (0 ≤ a ∧ a ≤ 9 * k) → X E p e R s m args below meth c Z 0 0 σ ρ ks 42 [some (.ref 0), some (.int (iI f)), some (.int (iI n)), some (.int (iI w)), some (.ref y), some (.int (iI a)), some (.int (iI j))] [] := by
          intro i
          induction i with
          | zero =>
            intro k j a hj hi ha har
            refine x_iload (pc := 42) hC dX11_mean_42 rfl ?_
            refine x_iload_n (pc := 44) hC dX11_mean_44 rfl ?_
            refine x_icmp_ge (tgt := 81) (pc := 45) hC (by omega) (by omega) dX11_mean_45 (by decide) (fun c45 => ?_) (fun c45 => by (exfalso; omega))
            refine x_iload (pc := 81) hC dX11_mean_81 rfl ?_
            refine x_iload_n (pc := 83) hC dX11_mean_83 rfl ?_
            refine x_iload_n (pc := 84) hC dX11_mean_84 rfl ?_
            refine x_callS1 (As := [_, _, _]) (Bs := [_, _, _]) (pc := 85) hC (c_lowest E (a := a) (b := n) (w := w) (by omega) (by omega) hw0) wX11_227 pX11_lowest rfl rfl (by exact Nat.le_of_ble_eq_true rfl) hR (by decide) (by decide) (by decide) rfl dX11_mean_85 ?_
            refine x_lreturn hC hZ dX11_mean_88 (by decide) (by decide) ?_
            refine ⟨congrArg (fun z => some (Value.long (lL z))) ?_, Nx.rf _, rfl, rfl⟩
            unfold meanA
            rw [if_neg (by omega), ha, show n.toNat = k by omega]
          | succ i ih =>
            intro k j a hj hi ha har
            refine x_iload (pc := 42) hC dX11_mean_42 rfl ?_
            refine x_iload_n (pc := 44) hC dX11_mean_44 rfl ?_
            refine x_icmp_ge (tgt := 81) (pc := 45) hC (by omega) (by omega) dX11_mean_45 (by decide) (fun c45 => by (exfalso; omega)) (fun c45 => ?_)
            refine x_iload (pc := 48) hC dX11_mean_48 rfl ?_
            refine x_aload (pc := 50) hC dX11_mean_50 rfl ?_
            refine x_aload_n (pc := 52) hC dX11_mean_52 rfl ?_
            refine x_getr (K := 0) (pc := 53) hC fX11_12_11 (by assumption) dX11_mean_53 rfl rfl (by assumption) ?_
            refine x_geti (K := 7) (pc := 56) hC fX11_105_1 (by assumption) dX11_mean_56 rfl rfl ?_
            rw [hz7]
            refine x_iload (pc := 59) hC dX11_mean_59 rfl ?_
            refine x_iadd (pc := 61) hC dX11_mean_61 ?_
            refine x_aload_n (pc := 62) hC dX11_mean_62 rfl ?_
            refine x_getr (K := 0) (pc := 63) hC fX11_12_11 (by assumption) dX11_mean_63 rfl rfl (by assumption) ?_
            refine x_getr (K := 2) (pc := 66) hC fX11_108_1 (by assumption) dX11_mean_66 rfl rfl (by assumption) ?_
            refine x_fanX11_111 (pc := 69) hC hfa hfo hf4 hs3 hsz hsit ⟨by omega, by omega⟩ hR (by decide) (by exact Nat.le_of_ble_eq_true rfl) (by decide) rfl dX11_mean_69 ?_
            have ia := isAt_in (t := z 0 + j) hfo hsit (by omega)
            refine x_iadd (pc := 72) hC dX11_mean_72 ?_
            refine x_istore (L' := [_, _, _, _, _, _, _]) (pc := 73) hC dX11_mean_73 rfl rfl ?_
            refine x_iinc (L' := [_, _, _, _, _, _, _]) (pc := 75) hC dX11_mean_75 rfl rfl rfl ?_
            refine x_goto (tgt := 42) (pc := 78) hC dX11_mean_78 (by decide) ?_
            refine ih (k + 1) (j + 1) _ (by omega) (by omega) ?_ (by omega)
            rw [sumTo_s, ← ha, hj]
        exact loop n.toNat 0 0 0 rfl (by omega) rfl (by decide)
      · refine x_ldc2 (pc := 32) hC (-9223372036854775808) qX11_222 (by decide +kernel) dX11_mean_32 ?_
        refine x_lreturn hC hZ dX11_mean_35 (by decide) (by decide) ?_
        refine ⟨congrArg (fun z => some (Value.long (lL z))) ?_, Nx.rf _, rfl, rfl⟩
        unfold meanA
        (repeat (first | rw [if_pos (by omega)] | rw [if_neg (by omega)]))
        all_goals (first | rfl | omega | assumption)
  · refine x_aload_n (pc := 0) hC dX11_mean_0 rfl ?_
    refine x_getr (K := 0) (pc := 1) hC fX11_12_11 (by assumption) dX11_mean_1 rfl rfl (by assumption) ?_
    refine x_iload_n (pc := 4) hC dX11_mean_4 rfl ?_
    refine x_callV1 (As := [_]) (Bs := [_]) (pc := 5) hC (c_fanOfN E hk hfs hfan (f := f) hf0 hf) wX11_81_1 pX1_fanOf (by assumption) rfl rfl (by exact Nat.le_of_ble_eq_true rfl) hR (by decide) (by decide) (by decide) rfl dX11_mean_5 ?_
    refine x_astoreN (L' := [_, _, _, _, _, _, _]) (pc := 8) hC dX11_mean_8 rfl rfl ?_
    refine x_aloadN (pc := 10) hC dX11_mean_10 rfl ?_
    refine x_ifnull_n (tgt := 32) (pc := 12) hC dX11_mean_12 (by decide) ?_
    refine x_ldc2 (pc := 32) hC (-9223372036854775808) qX11_222 (by decide +kernel) dX11_mean_32 ?_
    refine x_lreturn hC hZ dX11_mean_35 (by decide) (by decide) ?_
    refine ⟨congrArg (fun z => some (Value.long (lL z))) ?_, Nx.rf _, rfl, rfl⟩
    unfold meanA
    (repeat (first | rw [if_pos (by omega)] | rw [if_neg (by omega)]))
    all_goals (first | rfl | omega | assumption)

theorem mt_sum_in (z : zS) (p : Int) (n : Nat) : ∀ k : Nat, 0 ≤ sumTo (fun s => mtAny z p s n) k ∧ sumTo (fun s => mtAny z p s n) k ≤ k
  | 0 => by simp [sumTo]
  | k + 1 => by
    have ih := mt_sum_in z p n k
    rw [sumTo_s]
    rcases mtAny_01 z p k n with h | h <;> rw [h] <;> omega
set_option maxHeartbeats 4000000 in
set_option maxRecDepth 100000 in
theorem c_odds (E : xE) {σ : xM} {ρ : xR} {ks : xKs} (hw : WK ks ρ) {z : zS} (hz : HZ σ ρ ks 1 z) (hpl : PlOk z) {y n w : Int} (hy0 : rg y) (hn0 : rg n) (hw0 : rg w) : Sp E yX11_odds kX11_odds 5 0 0 [.ref 0, .int (iI y), .int (iI n), .int (iI w)] σ ρ ks (fun r σ' ρ' ks' => r = some (.long (lL (oddsA z y n w))) ∧ Nx σ σ' ∧ ρ' = ρ ∧ ks' = ks) := by
  obtain ⟨w0, w43, ⟨wr0, wr1, wr3, wr4, wr5⟩, wh, wk, wn, wt⟩ := id hw
  have hk := wh.hk
  obtain ⟨k1, k2, r0, r2, hs3⟩ := id hk
  have hfs := hz.fans
  have hsz := hz.sit
  obtain ⟨⟨hz1, -⟩, -, ⟨rq, hrq, hrq2, hrm⟩, hz4, ⟨hz6, -⟩, hz7, hz8, ⟨hz10, -⟩, ⟨hz12, -⟩, ⟨hz14, -⟩⟩ := id hz
  have hfan := hpl.1
  have hsit := hpl.2.1
  have h13 := hpl.1.1
  have h14 := hpl.2.1.1
  have hz00 := hpl.2.2.2
  obtain ⟨n0, ⟨n1, n2, n3, n4, n5⟩, m0, m1, m2, m3, m4⟩ := id wn
  obtain ⟨h30, ⟨h31, h32, h33, h34, h35⟩, h36, h37, h38, h39, h3a⟩ := id hs3
  refine x_enter (own := RX11) (L := [_, _, _, _, _, _]) (by decide +kernel) rfl (by exact Nat.le_of_ble_eq_true rfl) rfl (fun p e R s m args below meth c Z hZ hC hR hin => ?_)
  refine x_aload_n (pc := 0) hC dX11_odds_0 rfl ?_
  refine x_getr (K := 0) (pc := 1) hC fX11_12_11 (by assumption) dX11_odds_1 rfl rfl (by assumption) ?_
  refine x_getr (K := 2) (pc := 4) hC fX11_108_1 (by assumption) dX11_odds_4 rfl rfl (by assumption) ?_
  refine x_iload_n (pc := 7) hC dX11_odds_7 rfl ?_
  refine x_callV1 (As := [_]) (Bs := [_]) (pc := 8) hC (c_has E hs3 hsz hsit (by omega)) wX11_139_5 pX5_has (by assumption) rfl rfl (by exact Nat.le_of_ble_eq_true rfl) hR (by decide) (by decide) (by decide) rfl dX11_odds_8 ?_
  refine x_ifB_eq (tgt := 31) (pc := 11) hC  dX11_odds_11 (by decide) (fun c11 => ?_) (fun c11 => ?_)
  · refine x_ldc2 (pc := 31) hC (-9223372036854775808) qX11_222 (by decide +kernel) dX11_odds_31 ?_
    refine x_lreturn hC hZ dX11_odds_34 (by decide) (by decide) ?_
    refine ⟨congrArg (fun z => some (Value.long (lL z))) ?_, Nx.rf _, rfl, rfl⟩
    unfold oddsA
    (repeat (first | rw [if_pos (by omega)] | rw [if_neg (by omega)]))
    all_goals (first | rfl | omega | assumption)
  · refine x_iload_n (pc := 14) hC dX11_odds_14 rfl ?_
    refine x_iconst (pc := 15) hC dX11_odds_15 ?_
    refine x_bipush (pc := 16) hC dX11_odds_16 (by decide +kernel) ?_
    refine x_callS1 (As := [_, _, _]) (Bs := [_, _, _]) (pc := 18) hC (c_isIn E (by omega) (by omega) (by omega)) wX11_152 pX11_isIn rfl rfl (by exact Nat.le_of_ble_eq_true rfl) hR (by decide) (by decide) (by decide) rfl dX11_odds_18 ?_
    refine x_ifB_eq (tgt := 31) (pc := 21) hC  dX11_odds_21 (by decide) (fun c21 => ?_) (fun c21 => ?_)
    · refine x_ldc2 (pc := 31) hC (-9223372036854775808) qX11_222 (by decide +kernel) dX11_odds_31 ?_
      refine x_lreturn hC hZ dX11_odds_34 (by decide) (by decide) ?_
      refine ⟨congrArg (fun z => some (Value.long (lL z))) ?_, Nx.rf _, rfl, rfl⟩
      unfold oddsA
      (repeat (first | rw [if_pos (by omega)] | rw [if_neg (by omega)]))
      all_goals (first | rfl | omega | assumption)
    · refine x_iload_n (pc := 24) hC dX11_odds_24 rfl ?_
      refine x_callS1 (As := [_]) (Bs := [_]) (pc := 25) hC (c_isEither E (by omega)) wX11_181 pX11_isEither rfl rfl (by exact Nat.le_of_ble_eq_true rfl) hR (by decide) (by decide) (by decide) rfl dX11_odds_25 ?_
      refine x_ifB_ne (tgt := 35) (pc := 28) hC  dX11_odds_28 (by decide) (fun c28 => ?_) (fun c28 => ?_)
      · refine x_iconst (pc := 35) hC dX11_odds_35 ?_
        refine x_istore (L' := [_, _, _, _, _, _]) (pc := 36) hC dX11_odds_36 rfl rfl ?_
        refine x_iconst (pc := 38) hC dX11_odds_38 ?_
        refine x_istore (L' := [_, _, _, _, _, _]) (pc := 39) hC dX11_odds_39 rfl rfl ?_
        have loop : ∀ (i k : Nat) (j a : Int), j = k → k + i = 20 → a = sumTo (fun s => mtAny z y s n.toNat) k → X E p e R s m args below meth c Z 0 0 σ ρ ks 41 [some (.ref 0), some (.int (iI y)), some (.int (iI n)), some (.int (iI w)), some (.int (iI a)), some (.int (iI j))] [] := by
          intro i
          induction i with
          | zero =>
            intro k j a hj hi ha
            have har := mt_sum_in z y n.toNat k
            rw [← ha] at har
            refine x_iload (pc := 41) hC dX11_odds_41 rfl ?_
            refine x_bipush (pc := 43) hC dX11_odds_43 (by decide +kernel) ?_
            refine x_icmp_ge (tgt := 68) (pc := 45) hC (by omega) (by omega) dX11_odds_45 (by decide) (fun c45 => ?_) (fun c45 => by (exfalso; omega))
            refine x_iload (pc := 68) hC dX11_odds_68 rfl ?_
            refine x_bipush (pc := 70) hC dX11_odds_70 (by decide +kernel) ?_
            refine x_iload_n (pc := 72) hC dX11_odds_72 rfl ?_
            refine x_callS1 (As := [_, _, _]) (Bs := [_, _, _]) (pc := 73) hC (c_lowest E (a := a) (b := 20) (w := w) (by omega) (by omega) hw0) wX11_227 pX11_lowest rfl rfl (by exact Nat.le_of_ble_eq_true rfl) hR (by decide) (by decide) (by decide) rfl dX11_odds_73 ?_
            refine x_lreturn hC hZ dX11_odds_76 (by decide) (by decide) ?_
            refine ⟨congrArg (fun z => some (Value.long (lL z))) ?_, Nx.rf _, rfl, rfl⟩
            unfold oddsA
            rw [if_neg (by omega), ha, show k = 20 by omega]
          | succ i ih =>
            intro k j a hj hi ha
            have har := mt_sum_in z y n.toNat k
            rw [← ha] at har
            have h01 := mtAny_01 z y j n.toNat
            refine x_iload (pc := 41) hC dX11_odds_41 rfl ?_
            refine x_bipush (pc := 43) hC dX11_odds_43 (by decide +kernel) ?_
            refine x_icmp_ge (tgt := 68) (pc := 45) hC (by omega) (by omega) dX11_odds_45 (by decide) (fun c45 => by (exfalso; omega)) (fun c45 => ?_)
            refine x_aload_n (pc := 48) hC dX11_odds_48 rfl ?_
            refine x_iload_n (pc := 49) hC dX11_odds_49 rfl ?_
            refine x_iload (pc := 50) hC dX11_odds_50 rfl ?_
            refine x_iload_n (pc := 52) hC dX11_odds_52 rfl ?_
            refine x_callV1 (As := [_, _, _]) (Bs := [_, _, _]) (pc := 53) hC (c_isMetFrom E hw hz hpl (y := y) (s0 := j) (n := n) (by omega) (by omega) (by omega)) wX11_224_11 pX11_isMetFrom (by assumption) rfl rfl (by exact Nat.le_of_ble_eq_true rfl) hR (by decide) (by decide) (by decide) rfl dX11_odds_53 ?_
            refine x_ifB_eq (tgt := 62) (pc := 56) hC  dX11_odds_56 (by decide) (fun c56 => ?_) (fun c56 => ?_)
            · refine x_iinc (L' := [_, _, _, _, _, _]) (pc := 62) hC dX11_odds_62 rfl rfl rfl ?_
              refine x_goto (tgt := 41) (pc := 65) hC dX11_odds_65 (by decide) ?_
              refine ih (k + 1) (j + 1) _ (by omega) (by omega) ?_
              rw [sumTo_s, ← ha, ← hj]
              omega
            · refine x_iinc (L' := [_, _, _, _, _, _]) (pc := 59) hC dX11_odds_59 rfl rfl rfl ?_
              refine x_iinc (L' := [_, _, _, _, _, _]) (pc := 62) hC dX11_odds_62 rfl rfl rfl ?_
              refine x_goto (tgt := 41) (pc := 65) hC dX11_odds_65 (by decide) ?_
              refine ih (k + 1) (j + 1) _ (by omega) (by omega) ?_
              rw [sumTo_s, ← ha, ← hj]
              omega
        exact loop 20 0 0 0 rfl (by omega) rfl
      · refine x_ldc2 (pc := 31) hC (-9223372036854775808) qX11_222 (by decide +kernel) dX11_odds_31 ?_
        refine x_lreturn hC hZ dX11_odds_34 (by decide) (by decide) ?_
        refine ⟨congrArg (fun z => some (Value.long (lL z))) ?_, Nx.rf _, rfl, rfl⟩
        unfold oddsA
        (repeat (first | rw [if_pos (by omega)] | rw [if_neg (by omega)]))
        all_goals (first | rfl | omega | assumption)

set_option maxHeartbeats 4000000 in
set_option maxRecDepth 100000 in
theorem c_looked (E : xE) {σ : xM} {ρ : xR} {ks : xKs} (hw : WK ks ρ) {z : zS} (hz : HZ σ ρ ks 1 z) (hpl : PlOk z) (hbk : BookOk z) : Sp E yX11_looked kX11_looked 2 0 0 [.ref 0] σ ρ ks (fun r σ' ρ' ks' => r = some (.int (iI (lookF z (z 18).toNat 0))) ∧ Nx σ σ' ∧ ρ' = ρ ∧ ks' = ks) := by
  obtain ⟨w0, w43, ⟨wr0, wr1, wr3, wr4, wr5⟩, wh, wk, wn, wt⟩ := id hw
  have hk := wh.hk
  obtain ⟨k1, k2, r0, r2, hs3⟩ := id hk
  have hfs := hz.fans
  have hsz := hz.sit
  obtain ⟨⟨hz1, -⟩, -, ⟨rq, hrq, hrq2, hrm⟩, hz4, ⟨hz6, -⟩, hz7, hz8, ⟨hz10, -⟩, ⟨hz12, -⟩, ⟨hz14, -⟩⟩ := id hz
  have hfan := hpl.1
  have hsit := hpl.2.1
  have h13 := hpl.1.1
  have h14 := hpl.2.1.1
  have hz00 := hpl.2.2.2
  obtain ⟨n0, ⟨n1, n2, n3, n4, n5⟩, m0, m1, m2, m3, m4⟩ := id wn
  refine x_enter (own := RX11) (L := [_, _, _]) (by decide +kernel) rfl (by exact Nat.le_of_ble_eq_true rfl) rfl (fun p e R s m args below meth c Z hZ hC hR hin => ?_)
  obtain ⟨-, -, -, -, -, -, -, -, -, hbk0, hbk1⟩ := id hz
  obtain ⟨g1, g2⟩ := id hbk
  have k18 := wh.2.2.2.2.2.1.2.2.2
  have r13 := wh.2.2.2.2.2.2.2.2.2
  have loop : ∀ (i : Nat) (j : Int), 0 ≤ j → j + i = z 18 → lookF z i j = lookF z (z 18).toNat 0 → X E p e R s m args below meth c Z 0 0 σ ρ ks 2 [some (.ref 0), some (.int (iI j)), none] [] := by
    intro i
    induction i with
    | zero =>
      intro j h0 hj hl
      refine x_iload_n (pc := 2) hC dX11_looked_2 rfl ?_
      refine x_aload_n (pc := 3) hC dX11_looked_3 rfl ?_
      refine x_getr (K := 0) (pc := 4) hC fX11_12_11 (by assumption) dX11_looked_4 rfl rfl (by assumption) ?_
      refine x_geti (K := 14) (pc := 7) hC fX11_244_1 (by assumption) dX11_looked_7 rfl rfl ?_
      refine x_icmp_ge (tgt := 84) (pc := 10) hC (by omega) (by omega) dX11_looked_10 (by decide) (fun c10 => ?_) (fun c10 => by (exfalso; omega))
      refine x_bipush (pc := 84) hC dX11_looked_84 (by decide +kernel) ?_
      refine x_ireturn hC hZ dX11_looked_86 (by decide) (by decide) ?_
      refine ⟨congrArg (fun z => some (Value.int (iI z))) ?_, Nx.rf _, rfl, rfl⟩
      rw [← hl]
      rfl
    | succ i ih =>
      intro j h0 hj hl
      obtain ⟨e1, e2, e3⟩ := hbk1 j h0 (by omega)
      obtain ⟨q1, q2, q3⟩ := g2 j h0 (by omega)
      obtain ⟨y, hy, hfa⟩ := hfs.2 (z (94 + j)) (by omega) (by omega)
      have hfo := hfan.2 (z (94 + j)) (by omega) (by omega)
      have hf4 : 0 ≤ z (94 + j) ∧ z (94 + j) < 4 := ⟨by omega, by omega⟩
      have hia := isAt_in (t := z (102 + j)) hfo hsit (by omega)
      have hll : lookF z (i + 1) j = if isAtF z (z (94 + j)) (z (102 + j)) = z (110 + j) then lookF z i (j + 1) else j := rfl
      refine x_iload_n (pc := 2) hC dX11_looked_2 rfl ?_
      refine x_aload_n (pc := 3) hC dX11_looked_3 rfl ?_
      refine x_getr (K := 0) (pc := 4) hC fX11_12_11 (by assumption) dX11_looked_4 rfl rfl (by assumption) ?_
      refine x_geti (K := 14) (pc := 7) hC fX11_244_1 (by assumption) dX11_looked_7 rfl rfl ?_
      refine x_icmp_ge (tgt := 84) (pc := 10) hC (by omega) (by omega) dX11_looked_10 (by decide) (fun c10 => by (exfalso; omega)) (fun c10 => ?_)
      refine x_aload_n (pc := 13) hC dX11_looked_13 rfl ?_
      refine x_getr (K := 0) (pc := 14) hC fX11_12_11 (by assumption) dX11_looked_14 rfl rfl (by assumption) ?_
      refine x_aload_n (pc := 17) hC dX11_looked_17 rfl ?_
      refine x_getr (K := 0) (pc := 18) hC fX11_12_11 (by assumption) dX11_looked_18 rfl rfl (by assumption) ?_
      refine x_getr (K := 13) (pc := 21) hC fX11_247_1 (by assumption) dX11_looked_21 rfl rfl (by assumption) ?_
      refine x_iload_n (pc := 24) hC dX11_looked_24 rfl ?_
      refine x_iconst (pc := 25) hC dX11_looked_25 ?_
      refine x_imul (pc := 26) hC dX11_looked_26 ?_
      refine x_iald (pc := 27) hC (by assumption) (by omega) dX11_looked_27 ?_
      rw [e1]
      refine x_callV1 (As := [_]) (Bs := [_]) (pc := 28) hC (c_fanOf E hk hfs hfan (f := z (94 + j)) ⟨by omega, by omega⟩ hy) wX11_81_1 pX1_fanOf (by assumption) rfl rfl (by exact Nat.le_of_ble_eq_true rfl) hR (by decide) (by decide) (by decide) rfl dX11_looked_28 ?_
      refine x_astore_n (L' := [_, _, _]) (pc := 31) hC dX11_looked_31 rfl rfl ?_
      refine x_aload_n (pc := 32) hC dX11_looked_32 rfl ?_
      refine x_ifnull_r (pc := 33) hC dX11_looked_33 ?_
      refine x_aload_n (pc := 36) hC dX11_looked_36 rfl ?_
      refine x_aload_n (pc := 37) hC dX11_looked_37 rfl ?_
      refine x_getr (K := 0) (pc := 38) hC fX11_12_11 (by assumption) dX11_looked_38 rfl rfl (by assumption) ?_
      refine x_getr (K := 13) (pc := 41) hC fX11_247_1 (by assumption) dX11_looked_41 rfl rfl (by assumption) ?_
      refine x_iload_n (pc := 44) hC dX11_looked_44 rfl ?_
      refine x_iconst (pc := 45) hC dX11_looked_45 ?_
      refine x_imul (pc := 46) hC dX11_looked_46 ?_
      refine x_iconst (pc := 47) hC dX11_looked_47 ?_
      refine x_iadd (pc := 48) hC dX11_looked_48 ?_
      refine x_iald (pc := 49) hC (by assumption) (by omega) dX11_looked_49 ?_
      rw [e2]
      refine x_aload_n (pc := 50) hC dX11_looked_50 rfl ?_
      refine x_getr (K := 0) (pc := 51) hC fX11_12_11 (by assumption) dX11_looked_51 rfl rfl (by assumption) ?_
      refine x_getr (K := 2) (pc := 54) hC fX11_108_1 (by assumption) dX11_looked_54 rfl rfl (by assumption) ?_
      refine x_fanX11_111 (pc := 57) hC hfa hfo hf4 hs3 hsz hsit ⟨by omega, by omega⟩ hR (by decide) (by exact Nat.le_of_ble_eq_true rfl) (by decide) rfl dX11_looked_57 ?_
      refine x_aload_n (pc := 60) hC dX11_looked_60 rfl ?_
      refine x_getr (K := 0) (pc := 61) hC fX11_12_11 (by assumption) dX11_looked_61 rfl rfl (by assumption) ?_
      refine x_getr (K := 13) (pc := 64) hC fX11_247_1 (by assumption) dX11_looked_64 rfl rfl (by assumption) ?_
      refine x_iload_n (pc := 67) hC dX11_looked_67 rfl ?_
      refine x_iconst (pc := 68) hC dX11_looked_68 ?_
      refine x_imul (pc := 69) hC dX11_looked_69 ?_
      refine x_iconst (pc := 70) hC dX11_looked_70 ?_
      refine x_iadd (pc := 71) hC dX11_looked_71 ?_
      refine x_iald (pc := 72) hC (by assumption) (by omega) dX11_looked_72 ?_
      rw [e3]
      refine x_icmp_eq (tgt := 78) (pc := 73) hC (by omega) (by omega) dX11_looked_73 (by decide) (fun c73 => ?_) (fun c73 => ?_)
      · refine x_iinc (L' := [_, _, _]) (pc := 78) hC dX11_looked_78 rfl rfl rfl ?_
        refine x_goto (tgt := 2) (pc := 81) hC dX11_looked_81 (by decide) ?_
        refine X.drop (xLe_s (xLe_s (xLe_n xLe_0))) (ih (j + 1) (by omega) (by omega) ?_)
        rw [← hl, hll, if_pos c73]
      · refine x_iload_n (pc := 76) hC dX11_looked_76 rfl ?_
        refine x_ireturn hC hZ dX11_looked_77 (by decide) (by decide) ?_
        refine ⟨congrArg (fun z => some (Value.int (iI z))) ?_, Nx.rf _, rfl, rfl⟩
        rw [← hl, hll, if_neg c73]
  refine x_iconst (pc := 0) hC dX11_looked_0 ?_
  refine x_istore_n (L' := [_, _, _]) (pc := 1) hC dX11_looked_1 rfl rfl ?_
  exact loop (z 18).toNat 0 (by decide) (by omega) rfl

set_option maxHeartbeats 4000000 in
set_option maxRecDepth 100000 in
theorem c_as (E : xE) {σ : xM} {ρ : xR} {ks : xKs} (hw : WK ks ρ) {z : zS} (hz : HZ σ ρ ks 1 z) (hpl : PlOk z) {f k : Int} (hf0 : rg f) (hk0 : rg k) : Sp E yX11_as kX11_as 3 0 0 [.ref 0, .int (iI f), .int (iI k)] σ ρ ks (fun r σ' ρ' ks' => r = some (.int (iI (asA z f k))) ∧ Nx σ σ' ∧ ρ' = ρ ∧ ks' = ks) := by
  obtain ⟨w0, w43, ⟨wr0, wr1, wr3, wr4, wr5⟩, wh, wk, wn, wt⟩ := id hw
  have hk := wh.hk
  obtain ⟨k1, k2, r0, r2, hs3⟩ := id hk
  have hfs := hz.fans
  have hsz := hz.sit
  obtain ⟨⟨hz1, -⟩, -, ⟨rq, hrq, hrq2, hrm⟩, hz4, ⟨hz6, -⟩, hz7, hz8, ⟨hz10, -⟩, ⟨hz12, -⟩, ⟨hz14, -⟩⟩ := id hz
  have hfan := hpl.1
  have hsit := hpl.2.1
  have h13 := hpl.1.1
  have h14 := hpl.2.1.1
  have hz00 := hpl.2.2.2
  obtain ⟨n0, ⟨n1, n2, n3, n4, n5⟩, m0, m1, m2, m3, m4⟩ := id wn
  refine x_enter (own := RX11) (L := [_, _, _, _]) (by decide +kernel) rfl (by exact Nat.le_of_ble_eq_true rfl) rfl (fun p e R s m args below meth c Z hZ hC hR hin => ?_)
  by_cases hf : 0 ≤ f ∧ f ≤ z 13 - 1
  · obtain ⟨y, hy, hfa⟩ := hfs.2 f (by omega) (by omega)
    obtain ⟨hyk, hfz, htz⟩ := id hfa
    have hci := kci_fam (z (22 + f))
    obtain ⟨a0, a1, a2, a3, a4, a5, a6⟩ := id hfz
    have hfo := hfan.2 f (by omega) (by omega)
    obtain ⟨b1, b2, b3, b4, b5, b6⟩ := id hfo
    have hf4 : 0 ≤ f ∧ f < 4 := ⟨by omega, by omega⟩
    refine x_aload_n (pc := 0) hC dX11_as_0 rfl ?_
    refine x_getr (K := 0) (pc := 1) hC fX11_12_11 (by assumption) dX11_as_1 rfl rfl (by assumption) ?_
    refine x_iload_n (pc := 4) hC dX11_as_4 rfl ?_
    refine x_callV1 (As := [_]) (Bs := [_]) (pc := 5) hC (c_fanOf E hk hfs hfan (f := f) ⟨by omega, by omega⟩ hy) wX11_81_1 pX1_fanOf (by assumption) rfl rfl (by exact Nat.le_of_ble_eq_true rfl) hR (by decide) (by decide) (by decide) rfl dX11_as_5 ?_
    refine x_astore_n (L' := [_, _, _, _]) (pc := 8) hC dX11_as_8 rfl rfl ?_
    refine x_aload_n (pc := 9) hC dX11_as_9 rfl ?_
    refine x_ifnull_r (pc := 10) hC dX11_as_10 ?_
    refine x_iload_n (pc := 13) hC dX11_as_13 rfl ?_
    refine x_if_lt (tgt := 23) (pc := 14) hC (by omega) dX11_as_14 (by decide) (fun c14 => ?_) (fun c14 => ?_)
    · refine x_iconst (pc := 23) hC dX11_as_23 ?_
      refine x_ireturn hC hZ dX11_as_24 (by decide) (by decide) ?_
      refine ⟨congrArg (fun z => some (Value.int (iI z))) ?_, Nx.rf _, rfl, rfl⟩
      unfold asA
      (repeat (first | rw [if_pos (by omega)] | rw [if_neg (by omega)]))
      all_goals (first | rfl | omega | assumption)
    · refine x_iload_n (pc := 17) hC dX11_as_17 rfl ?_
      refine x_bipush (pc := 18) hC dX11_as_18 (by decide +kernel) ?_
      refine x_icmp_le (tgt := 25) (pc := 20) hC (by omega) (by omega) dX11_as_20 (by decide) (fun c20 => ?_) (fun c20 => ?_)
      · refine x_aload_n (pc := 25) hC dX11_as_25 rfl ?_
        refine x_iload_n (pc := 26) hC dX11_as_26 rfl ?_
        refine x_fanX11_ISONE (pc := 27) hC hfa hfo hk0 hR (by decide) (by exact Nat.le_of_ble_eq_true rfl) (by decide) rfl dX11_as_27 ?_
        refine x_ifB_eq (tgt := 40) (pc := 30) hC  dX11_as_30 (by decide) (fun c30 => ?_) (fun c30 => ?_)
        · refine x_bipush (pc := 40) hC dX11_as_40 (by decide +kernel) ?_
          refine x_ireturn hC hZ dX11_as_42 (by decide) (by decide) ?_
          refine ⟨congrArg (fun z => some (Value.int (iI z))) ?_, Nx.rf _, rfl, rfl⟩
          unfold asA
          rw [if_neg (by omega), if_neg c30]
        · refine x_aload_n (pc := 33) hC dX11_as_33 rfl ?_
          refine x_geti (K := 2) (pc := 34) hC (fFX11_90 _ hci) (by assumption) dX11_as_34 (tF_v _ hci) rfl ?_
          refine x_goto (tgt := 42) (pc := 37) hC dX11_as_37 (by decide) ?_
          refine x_ireturn hC hZ dX11_as_42 (by decide) (by decide) ?_
          refine ⟨congrArg (fun z => some (Value.int (iI z))) ?_, Nx.rf _, rfl, rfl⟩
          unfold asA
          rw [if_neg (by omega), if_pos c30, a2]
      · refine x_iconst (pc := 23) hC dX11_as_23 ?_
        refine x_ireturn hC hZ dX11_as_24 (by decide) (by decide) ?_
        refine ⟨congrArg (fun z => some (Value.int (iI z))) ?_, Nx.rf _, rfl, rfl⟩
        unfold asA
        (repeat (first | rw [if_pos (by omega)] | rw [if_neg (by omega)]))
        all_goals (first | rfl | omega | assumption)
  · refine x_aload_n (pc := 0) hC dX11_as_0 rfl ?_
    refine x_getr (K := 0) (pc := 1) hC fX11_12_11 (by assumption) dX11_as_1 rfl rfl (by assumption) ?_
    refine x_iload_n (pc := 4) hC dX11_as_4 rfl ?_
    refine x_callV1 (As := [_]) (Bs := [_]) (pc := 5) hC (c_fanOfN E hk hfs hfan (f := f) hf0 hf) wX11_81_1 pX1_fanOf (by assumption) rfl rfl (by exact Nat.le_of_ble_eq_true rfl) hR (by decide) (by decide) (by decide) rfl dX11_as_5 ?_
    refine x_astoreN_n (L' := [_, _, _, _]) (pc := 8) hC dX11_as_8 rfl rfl ?_
    refine x_aloadN_n (pc := 9) hC dX11_as_9 rfl ?_
    refine x_ifnull_n (tgt := 23) (pc := 10) hC dX11_as_10 (by decide) ?_
    refine x_iconst (pc := 23) hC dX11_as_23 ?_
    refine x_ireturn hC hZ dX11_as_24 (by decide) (by decide) ?_
    refine ⟨congrArg (fun z => some (Value.int (iI z))) ?_, Nx.rf _, rfl, rfl⟩
    unfold asA
    (repeat (first | rw [if_pos (by omega)] | rw [if_neg (by omega)]))
    all_goals (first | rfl | omega | assumption)

set_option maxHeartbeats 4000000 in
set_option maxRecDepth 100000 in
theorem c_trace (E : xE) {σ : xM} {ρ : xR} {ks : xKs} (hw : WK ks ρ) {z : zS} (hz : HZ σ ρ ks 1 z) (hpl : PlOk z) {o bb : zS} {x : Int} (hx0 : rg x) (h17 : σ 44 1 = o 17) (hr17 : 0 ≤ o 17 ∧ o 17 ≤ 1000) (hbb : ∀ j, 0 ≤ j → j < o 17 → j < 20 → σ 45 j = bb j) : Sp E yX11_trace kX11_trace 0 0 0 [.ref 0, .int (iI x)] σ ρ ks (fun r σ' ρ' ks' => r = some (.int (iI (traceA o bb x))) ∧ Nx σ σ' ∧ ρ' = ρ ∧ ks' = ks) := by
  obtain ⟨w0, w43, ⟨wr0, wr1, wr3, wr4, wr5⟩, wh, wk, wn, wt⟩ := id hw
  have hk := wh.hk
  obtain ⟨k1, k2, r0, r2, hs3⟩ := id hk
  have hfs := hz.fans
  have hsz := hz.sit
  obtain ⟨⟨hz1, -⟩, -, ⟨rq, hrq, hrq2, hrm⟩, hz4, ⟨hz6, -⟩, hz7, hz8, ⟨hz10, -⟩, ⟨hz12, -⟩, ⟨hz14, -⟩⟩ := id hz
  have hfan := hpl.1
  have hsit := hpl.2.1
  have h13 := hpl.1.1
  have h14 := hpl.2.1.1
  have hz00 := hpl.2.2.2
  obtain ⟨n0, ⟨n1, n2, n3, n4, n5⟩, m0, m1, m2, m3, m4⟩ := id wn
  obtain ⟨tk1, tk2, tk3⟩ := id wt
  refine x_enter (own := RX11) (L := [_, _]) (by decide +kernel) rfl (by exact Nat.le_of_ble_eq_true rfl) rfl (fun p e R s m args below meth c Z hZ hC hR hin => ?_)
  refine x_iload_n (pc := 0) hC dX11_trace_0 rfl ?_
  refine x_if_lt (tgt := 39) (pc := 1) hC (by omega) dX11_trace_1 (by decide) (fun c1 => ?_) (fun c1 => ?_)
  · refine x_iconst (pc := 39) hC dX11_trace_39 ?_
    refine x_ireturn hC hZ dX11_trace_40 (by decide) (by decide) ?_
    refine ⟨congrArg (fun z => some (Value.int (iI z))) ?_, Nx.rf _, rfl, rfl⟩
    unfold traceA
    rw [if_neg (by split <;> omega)]
  · refine x_iload_n (pc := 4) hC dX11_trace_4 rfl ?_
    refine x_aload_n (pc := 5) hC dX11_trace_5 rfl ?_
    refine x_getr (K := 5) (pc := 6) hC fX11_39_11 (by assumption) dX11_trace_6 rfl rfl (by assumption) ?_
    refine x_geti (K := 1) (pc := 9) hC fX11_263_8 (by assumption) dX11_trace_9 rfl rfl ?_
    refine x_icmp_ge (tgt := 39) (pc := 12) hC (by omega) (by omega) dX11_trace_12 (by decide) (fun c12 => ?_) (fun c12 => ?_)
    · refine x_iconst (pc := 39) hC dX11_trace_39 ?_
      refine x_ireturn hC hZ dX11_trace_40 (by decide) (by decide) ?_
      refine ⟨congrArg (fun z => some (Value.int (iI z))) ?_, Nx.rf _, rfl, rfl⟩
      unfold traceA
      rw [if_neg (by split <;> omega)]
    · refine x_iload_n (pc := 15) hC dX11_trace_15 rfl ?_
      refine x_aload_n (pc := 16) hC dX11_trace_16 rfl ?_
      refine x_getr (K := 5) (pc := 17) hC fX11_39_11 (by assumption) dX11_trace_17 rfl rfl (by assumption) ?_
      refine x_getr (K := 0) (pc := 20) hC fX11_266_8 (by assumption) dX11_trace_20 rfl rfl (by assumption) ?_
      refine x_alen1 (K := 20) (pc := 23) hC (by assumption) rfl dX11_trace_23 ?_
      refine x_icmp_ge (tgt := 39) (pc := 24) hC (by omega) (by omega) dX11_trace_24 (by decide) (fun c24 => ?_) (fun c24 => ?_)
      · refine x_iconst (pc := 39) hC dX11_trace_39 ?_
        refine x_ireturn hC hZ dX11_trace_40 (by decide) (by decide) ?_
        refine ⟨congrArg (fun z => some (Value.int (iI z))) ?_, Nx.rf _, rfl, rfl⟩
        unfold traceA
        rw [if_neg (by split <;> omega)]
      · refine x_aload_n (pc := 27) hC dX11_trace_27 rfl ?_
        refine x_getr (K := 5) (pc := 28) hC fX11_39_11 (by assumption) dX11_trace_28 rfl rfl (by assumption) ?_
        refine x_getr (K := 0) (pc := 31) hC fX11_266_8 (by assumption) dX11_trace_31 rfl rfl (by assumption) ?_
        refine x_iload_n (pc := 34) hC dX11_trace_34 rfl ?_
        refine x_iald (pc := 35) hC (by assumption) (by omega) dX11_trace_35 ?_
        refine x_goto (tgt := 40) (pc := 36) hC dX11_trace_36 (by decide) ?_
        refine x_ireturn hC hZ dX11_trace_40 (by decide) (by decide) ?_
        refine ⟨congrArg (fun z => some (Value.int (iI z))) ?_, Nx.rf _, rfl, rfl⟩
        unfold traceA
        rw [if_pos (by split <;> omega)]
        exact hbb x (by omega) (by omega) (by omega)

set_option maxHeartbeats 4000000 in
set_option maxRecDepth 100000 in
theorem c_count (E : xE) {σ : xM} {ρ : xR} {ks : xKs} (hw : WK ks ρ) {z : zS} (hz : HZ σ ρ ks 1 z) (hpl : PlOk z) {o : zS} {w : Int} (hw0 : rg w) (h17 : σ 44 1 = o 17) : Sp E yX11_count kX11_count 0 0 0 [.ref 0, .int (iI w)] σ ρ ks (fun r σ' ρ' ks' => r = some (.int (iI (countA z o w))) ∧ Nx σ σ' ∧ ρ' = ρ ∧ ks' = ks) := by
  obtain ⟨w0, w43, ⟨wr0, wr1, wr3, wr4, wr5⟩, wh, wk, wn, wt⟩ := id hw
  have hk := wh.hk
  obtain ⟨k1, k2, r0, r2, hs3⟩ := id hk
  have hfs := hz.fans
  have hsz := hz.sit
  obtain ⟨⟨hz1, -⟩, -, ⟨rq, hrq, hrq2, hrm⟩, hz4, ⟨hz6, -⟩, hz7, hz8, ⟨hz10, -⟩, ⟨hz12, -⟩, ⟨hz14, -⟩⟩ := id hz
  have hfan := hpl.1
  have hsit := hpl.2.1
  have h13 := hpl.1.1
  have h14 := hpl.2.1.1
  have hz00 := hpl.2.2.2
  obtain ⟨n0, ⟨n1, n2, n3, n4, n5⟩, m0, m1, m2, m3, m4⟩ := id wn
  obtain ⟨tk1, tk2, tk3⟩ := id wt
  obtain ⟨h30, ⟨h31, h32, h33, h34, h35⟩, h36, h37, h38, h39, h3a⟩ := id hs3
  have hz5 := hsz.1
  refine x_enter (own := RX11) (L := [_, _]) (by decide +kernel) rfl (by exact Nat.le_of_ble_eq_true rfl) rfl (fun p e R s m args below meth c Z hZ hC hR hin => ?_)
  refine x_iload_n (pc := 0) hC dX11_count_0 rfl ?_
  have csw : w = 0 ∨ w = 1 ∨ w = 2 ∨ w = 3 ∨ w = 4 ∨ w = 5 ∨ w = 6 ∨ w = 7 ∨ (w < 0 ∨ 7 < w) := by omega
  rcases csw with c1 | c1 | c1 | c1 | c1 | c1 | c1 | c1 | c1
  · refine x_tabIn (tgt := 48) (pc := 1) hC (by omega) dX11_count_1 (by omega) (by omega) 0 (by omega) rfl (by decide) ?_
    refine x_aload_n (pc := 48) hC dX11_count_48 rfl ?_
    refine x_getr (K := 0) (pc := 49) hC fX11_12_11 (by assumption) dX11_count_49 rfl rfl (by assumption) ?_
    refine x_geti (K := 1) (pc := 52) hC fX11_70_1 (by assumption) dX11_count_52 rfl rfl ?_
    refine x_ireturn hC hZ dX11_count_55 (by decide) (by decide) ?_
    refine ⟨congrArg (fun z => some (Value.int (iI z))) ?_, Nx.rf _, rfl, rfl⟩
    unfold countA
    rw [c1]
    (repeat (first | rw [if_pos (by omega)] | rw [if_neg (by omega)]))
    all_goals (first | rfl | omega | assumption)
  · refine x_tabIn (tgt := 56) (pc := 1) hC (by omega) dX11_count_1 (by omega) (by omega) 1 (by omega) rfl (by decide) ?_
    refine x_aload_n (pc := 56) hC dX11_count_56 rfl ?_
    refine x_getr (K := 0) (pc := 57) hC fX11_12_11 (by assumption) dX11_count_57 rfl rfl (by assumption) ?_
    refine x_getr (K := 2) (pc := 60) hC fX11_108_1 (by assumption) dX11_count_60 rfl rfl (by assumption) ?_
    refine x_geti (K := 5) (pc := 63) hC fX11_127_5 (by assumption) dX11_count_63 rfl rfl ?_
    refine x_ireturn hC hZ dX11_count_66 (by decide) (by decide) ?_
    refine ⟨congrArg (fun z => some (Value.int (iI z))) ?_, Nx.rf _, rfl, rfl⟩
    unfold countA
    rw [c1]
    (repeat (first | rw [if_pos (by omega)] | rw [if_neg (by omega)]))
    all_goals (first | rfl | omega | assumption)
  · refine x_tabIn (tgt := 67) (pc := 1) hC (by omega) dX11_count_1 (by omega) (by omega) 2 (by omega) rfl (by decide) ?_
    refine x_aload_n (pc := 67) hC dX11_count_67 rfl ?_
    refine x_getr (K := 0) (pc := 68) hC fX11_12_11 (by assumption) dX11_count_68 rfl rfl (by assumption) ?_
    refine x_geti (K := 4) (pc := 71) hC fX11_50_1 (by assumption) dX11_count_71 rfl rfl ?_
    refine x_ireturn hC hZ dX11_count_74 (by decide) (by decide) ?_
    refine ⟨congrArg (fun z => some (Value.int (iI z))) ?_, Nx.rf _, rfl, rfl⟩
    unfold countA
    rw [c1]
    (repeat (first | rw [if_pos (by omega)] | rw [if_neg (by omega)]))
    all_goals (first | rfl | omega | assumption)
  · refine x_tabIn (tgt := 75) (pc := 1) hC (by omega) dX11_count_1 (by omega) (by omega) 3 (by omega) rfl (by decide) ?_
    refine x_aload_n (pc := 75) hC dX11_count_75 rfl ?_
    refine x_getr (K := 0) (pc := 76) hC fX11_12_11 (by assumption) dX11_count_76 rfl rfl (by assumption) ?_
    refine x_geti (K := 10) (pc := 79) hC fX11_212_1 (by assumption) dX11_count_79 rfl rfl ?_
    refine x_ireturn hC hZ dX11_count_82 (by decide) (by decide) ?_
    refine ⟨congrArg (fun z => some (Value.int (iI z))) ?_, Nx.rf _, rfl, rfl⟩
    unfold countA
    rw [c1]
    (repeat (first | rw [if_pos (by omega)] | rw [if_neg (by omega)]))
    all_goals (first | rfl | omega | assumption)
  · refine x_tabIn (tgt := 83) (pc := 1) hC (by omega) dX11_count_1 (by omega) (by omega) 4 (by omega) rfl (by decide) ?_
    refine x_aload_n (pc := 83) hC dX11_count_83 rfl ?_
    refine x_getr (K := 0) (pc := 84) hC fX11_12_11 (by assumption) dX11_count_84 rfl rfl (by assumption) ?_
    refine x_geti (K := 12) (pc := 87) hC fX11_234_1 (by assumption) dX11_count_87 rfl rfl ?_
    refine x_ireturn hC hZ dX11_count_90 (by decide) (by decide) ?_
    refine ⟨congrArg (fun z => some (Value.int (iI z))) ?_, Nx.rf _, rfl, rfl⟩
    unfold countA
    rw [c1]
    (repeat (first | rw [if_pos (by omega)] | rw [if_neg (by omega)]))
    all_goals (first | rfl | omega | assumption)
  · refine x_tabIn (tgt := 91) (pc := 1) hC (by omega) dX11_count_1 (by omega) (by omega) 5 (by omega) rfl (by decide) ?_
    refine x_aload_n (pc := 91) hC dX11_count_91 rfl ?_
    refine x_getr (K := 0) (pc := 92) hC fX11_12_11 (by assumption) dX11_count_92 rfl rfl (by assumption) ?_
    refine x_geti (K := 14) (pc := 95) hC fX11_244_1 (by assumption) dX11_count_95 rfl rfl ?_
    refine x_ireturn hC hZ dX11_count_98 (by decide) (by decide) ?_
    refine ⟨congrArg (fun z => some (Value.int (iI z))) ?_, Nx.rf _, rfl, rfl⟩
    unfold countA
    rw [c1]
    (repeat (first | rw [if_pos (by omega)] | rw [if_neg (by omega)]))
    all_goals (first | rfl | omega | assumption)
  · refine x_tabIn (tgt := 99) (pc := 1) hC (by omega) dX11_count_1 (by omega) (by omega) 6 (by omega) rfl (by decide) ?_
    refine x_aload_n (pc := 99) hC dX11_count_99 rfl ?_
    refine x_getr (K := 0) (pc := 100) hC fX11_12_11 (by assumption) dX11_count_100 rfl rfl (by assumption) ?_
    refine x_geti (K := 6) (pc := 103) hC fX11_43_1 (by assumption) dX11_count_103 rfl rfl ?_
    refine x_ireturn hC hZ dX11_count_106 (by decide) (by decide) ?_
    refine ⟨congrArg (fun z => some (Value.int (iI z))) ?_, Nx.rf _, rfl, rfl⟩
    unfold countA
    rw [c1]
    (repeat (first | rw [if_pos (by omega)] | rw [if_neg (by omega)]))
    all_goals (first | rfl | omega | assumption)
  · refine x_tabIn (tgt := 107) (pc := 1) hC (by omega) dX11_count_1 (by omega) (by omega) 7 (by omega) rfl (by decide) ?_
    refine x_aload_n (pc := 107) hC dX11_count_107 rfl ?_
    refine x_getr (K := 5) (pc := 108) hC fX11_39_11 (by assumption) dX11_count_108 rfl rfl (by assumption) ?_
    refine x_geti (K := 1) (pc := 111) hC fX11_263_8 (by assumption) dX11_count_111 rfl rfl ?_
    refine x_ireturn hC hZ dX11_count_114 (by decide) (by decide) ?_
    refine ⟨congrArg (fun z => some (Value.int (iI z))) ?_, Nx.rf _, rfl, rfl⟩
    unfold countA
    rw [c1]
    (repeat (first | rw [if_pos (by omega)] | rw [if_neg (by omega)]))
    all_goals (first | rfl | omega | assumption)
  · refine x_tabOut (tgt := 115) (pc := 1) hC (by omega) dX11_count_1 (by omega) (by decide) ?_
    refine x_iconst (pc := 115) hC dX11_count_115 ?_
    refine x_ireturn hC hZ dX11_count_116 (by decide) (by decide) ?_
    refine ⟨congrArg (fun z => some (Value.int (iI z))) ?_, Nx.rf _, rfl, rfl⟩
    unfold countA
    (repeat (first | rw [if_pos (by omega)] | rw [if_neg (by omega)]))
    all_goals (first | rfl | omega | assumption)
