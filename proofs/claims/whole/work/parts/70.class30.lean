/-! a fan set otherwise for a while -/
theorem mnF_le0 {g : Int → Int} {b l k0 : Int} (h : g (k0 + (0 : Nat)) < l) : ∀ n : Nat, (mnF g b l k0 (n + 1)).2 ≤ g (k0 + (0 : Nat))
  | 0 => by
    rw [mnF_s]
    show (if g (k0 + (0 : Nat)) < l then (k0 + (0 : Nat), g (k0 + (0 : Nat))) else mnF g b l k0 0).2 ≤ _
    rw [if_pos h]
    exact Int.le_refl _
  | n + 1 => by
    have ih := mnF_le0 (b := b) h n
    rw [mnF_s]
    split
    · show g (k0 + (n + 1 : Nat)) ≤ _; omega
    · exact ih
theorem mnF_skip {g : Int → Int} {b l k0 : Int} {K : Nat} : ∀ d : Nat, (∀ x : Nat, x < d → (mnF g b l k0 K).2 ≤ g (k0 + (K + x : Nat))) → mnF g b l k0 (K + d) = mnF g b l k0 K
  | 0, _ => rfl
  | d + 1, h => by
    have ih := mnF_skip d (fun x hx => h x (by omega))
    have hd := h d (by omega)
    rw [show K + (d + 1) = K + d + 1 from rfl, mnF_s, ih, if_neg (by omega)]
/-- all is as before but for the fan at y -/
def Fy (σ σ' : xM) (y : Nat) (P : Int → Prop) : Prop := (∀ p, (p < 37 ∨ 43 < p) → p ≠ y → σ' p = σ p) ∧ ∀ j, ¬ P j → σ' y j = σ y j
set_option maxHeartbeats 4000000 in
set_option maxRecDepth 100000 in
theorem c_paced (E : xE) {σ : xM} {ρ : xR} {ks : xKs} (hw : WK ks ρ) {z : zS} (hz : HZ σ ρ ks 1 z) (hpl : PlOk z) {f n : Int} (hf0 : rg f) (hn0 : rg n) (ht : z 0 + 100 < 900000) : Sp E yX11_paced kX11_paced 6 0 0 [.ref 0, .int (iI f), .int (iI n)] σ ρ ks (fun r σ' ρ' ks' => r = some (.int (iI (pacedA z f n))) ∧ Nx σ σ' ∧ ρ' = ρ ∧ ks' = ks) := by
  obtain ⟨w0, w43, ⟨wr0, wr1, wr3, wr4, wr5⟩, wh, wk, wn, wt⟩ := id hw
  have hk := wh.hk
  obtain ⟨k1, k2, r0, r2, hs3⟩ := id hk
  have hfs := hz.fans
  have hsz := hz.sit
  obtain ⟨⟨hz1, -⟩, -, ⟨rq, hrq, hrq2, hrm⟩, hz4, ⟨hz6, -⟩, hz7, hz8, ⟨hz10, -⟩, ⟨hz12, -⟩, ⟨hz14, -⟩⟩ := id hz
  have hfan := hpl.1
  have hsit := hpl.2.1
  have h13 := hpl.1.1
  have h14 := hpl.2.1.1
  have hz00 := hpl.2.2.2
  obtain ⟨n0, ⟨n1, n2, n3, n4, n5⟩, m0, m1, m2, m3, m4⟩ := id wn
  refine x_enter (own := RX11) (L := [_, _, _, _, _, _, _, _, _]) (by decide +kernel) rfl (by exact Nat.le_of_ble_eq_true rfl) rfl (fun p e R s m args below meth c Z hZ hC hR hin => ?_)
  by_cases hf : 0 ≤ f ∧ f ≤ z 13 - 1
  · obtain ⟨y, hy, hfa⟩ := hfs.2 f (by omega) (by omega)
    obtain ⟨hyk, hfz, htz⟩ := id hfa
    have hci := kci_fam (z (22 + f))
    obtain ⟨a0, a1, a2, a3, a4, a5, a6⟩ := id hfz
    have hfo := hfan.2 f (by omega) (by omega)
    obtain ⟨b1, b2, b3, b4, b5, b6⟩ := id hfo
    have hf4 : 0 ≤ f ∧ f < 4 := ⟨by omega, by omega⟩
    have hy55 : 55 ≤ y := by
      obtain ⟨q, u1, u2, -⟩ := hz.1.2 f (by omega) (by omega)
      cases u1.symm.trans hy
      exact u2
    refine x_aload_n (pc := 0) hC dX11_paced_0 rfl ?_
    refine x_getr (K := 0) (pc := 1) hC fX11_12_11 (by assumption) dX11_paced_1 rfl rfl (by assumption) ?_
    refine x_iload_n (pc := 4) hC dX11_paced_4 rfl ?_
    refine x_callV1 (As := [_]) (Bs := [_]) (pc := 5) hC (c_fanOf E hk hfs hfan (f := f) ⟨by omega, by omega⟩ hy) wX11_81_1 pX1_fanOf (by assumption) rfl rfl (by exact Nat.le_of_ble_eq_true rfl) hR (by decide) (by decide) (by decide) rfl dX11_paced_5 ?_
    refine x_astore_n (L' := [_, _, _, _, _, _, _, _, _]) (pc := 8) hC dX11_paced_8 rfl rfl ?_
    refine x_aload_n (pc := 9) hC dX11_paced_9 rfl ?_
    refine x_ifnonnull_r (tgt := 15) (pc := 10) hC dX11_paced_10 (by decide) ?_
    refine x_iload_n (pc := 15) hC dX11_paced_15 rfl ?_
    refine x_iconst (pc := 16) hC dX11_paced_16 ?_
    refine x_bipush (pc := 17) hC dX11_paced_17 (by decide +kernel) ?_
    refine x_callS1 (As := [_, _, _]) (Bs := [_, _, _]) (pc := 19) hC (c_isIn E (by omega) (by omega) (by omega)) wX11_152 pX11_isIn rfl rfl (by exact Nat.le_of_ble_eq_true rfl) hR (by decide) (by decide) (by decide) rfl dX11_paced_19 ?_
    refine x_ifB_ne (tgt := 28) (pc := 22) hC  dX11_paced_22 (by decide) (fun c22 => ?_) (fun c22 => ?_)
    · refine x_aload_n (pc := 28) hC dX11_paced_28 rfl ?_
      refine x_geti (K := 5) (pc := 29) hC (fFX11_99 _ hci) (by assumption) dX11_paced_29 (tF_pace _ hci) rfl ?_
      refine x_istore (L' := [_, _, _, _, _, _, _, _, _]) (pc := 32) hC dX11_paced_32 rfl rfl ?_
      refine x_ldc (pc := 34) hC (1000000) qX11_184 (by decide +kernel) dX11_paced_34 ?_
      refine x_istore (L' := [_, _, _, _, _, _, _, _, _]) (pc := 36) hC dX11_paced_36 rfl rfl ?_
      refine x_iconst (pc := 38) hC dX11_paced_38 ?_
      refine x_istore (L' := [_, _, _, _, _, _, _, _, _]) (pc := 39) hC dX11_paced_39 rfl rfl ?_
      refine x_iconst (pc := 41) hC dX11_paced_41 ?_
      refine x_istore (L' := [_, _, _, _, _, _, _, _, _]) (pc := 42) hC dX11_paced_42 rfl rfl ?_
      have hg : ∀ x : Nat, x < 4 → 0 ≤ worseF (up z (38 + f) (1 + x)) n.toNat ∧ worseF (up z (38 + f) (1 + x)) n.toNat < 1000000 := by
        intro x hx
        have hp1 := hpl.pace (f := f) (a := 1 + x) hf4 ⟨by omega, by omega⟩
        have := worse_in hp1 n.toNat (by rw [up_ne _ (by omega)]; omega)
        omega
      have loop : ∀ (i k : Nat) (j : Int) (σ' : xM), j = 1 + k → k + i = 4 → Fy σ σ' y (fun j => j = 5) → ∀ fo be : Int, mnF (fun x => worseF (up z (38 + f) x) n.toNat) 1 1000000 1 k = (fo, be) → X E p e R s m args below meth c Z 0 0 σ' ρ ks 44 [some (.ref 0), some (.int (iI f)), some (.int (iI n)), some (.ref y), some (.int (iI (σ y 5))), some (.int (iI be)), some (.int (iI fo)), some (.int (iI j)), none] [] := by
        intro i
        induction i with
        | zero =>
          intro k j σ' hj hi hfy fo be hb
          have hst : mnF (fun x => worseF (up z (38 + f) x) n.toNat) (-1) 1000000 1 4 = (fo, be) := (mnF_start (g := fun x => worseF (up z (38 + f) x) n.toNat) (b := -1) (l := 1000000) (b' := 1) (l' := 1000000) (k0 := 1) (hg 0 (by decide)).2 (by have := (hg 0 (by decide)).2; omega) 3).trans (by rw [show 3 + 1 = k by omega]; exact hb)
          refine x_iload (pc := 44) hC dX11_paced_44 rfl ?_
          refine x_iconst (pc := 46) hC dX11_paced_46 ?_
          refine x_icmp_gt (tgt := 94) (pc := 47) hC (by omega) (by omega) dX11_paced_47 (by decide) (fun c47 => ?_) (fun c47 => by (exfalso; omega))
          refine x_aload_n (pc := 94) hC dX11_paced_94 rfl ?_
          refine x_iload (pc := 95) hC dX11_paced_95 rfl ?_
          refine x_puti (K := 5) (pc := 97) hC rfl (fFX11_99 _ hci) (nF_pace _ hci) (by assumption) dX11_paced_97 (iF_pace _ hci) ?_
          refine x_iload (pc := 100) hC dX11_paced_100 rfl ?_
          refine x_ireturn hC hZ dX11_paced_102 (by decide) (by decide) ?_
          refine ⟨congrArg (fun z => some (Value.int (iI z))) ?_, fun p hp => ?_, rfl, rfl⟩
          · unfold pacedA
            rw [if_neg (by omega), if_neg (by omega)]
            exact (congrArg Prod.fst hst).symm
          · by_cases hpy : p = y
            · subst hpy
              funext x
              by_cases hx5 : x = 5
              · subst hx5; rw [wr_eq]
              · rw [wr_k _ _ _ hx5]; exact hfy.2 x hx5
            · rw [wr_of _ hpy]; exact hfy.1 p hp hpy
        | succ i ih =>
          intro k j σ' hj hi hfy fo be hb
          have hbl := mnF_le (fun x => worseF (up z (38 + f) x) n.toNat) 1 1000000 1 k
          have hbg := mnF_ge (g := fun x => worseF (up z (38 + f) x) n.toNat) (b := 1) (l := 1000000) (k0 := 1) (M := 0) (N := 4) (by decide) (fun x hx => (hg x hx).1) k (by omega)
          rw [hb] at hbl hbg
          refine x_iload (pc := 44) hC dX11_paced_44 rfl ?_
          refine x_iconst (pc := 46) hC dX11_paced_46 ?_
          refine x_icmp_gt (tgt := 94) (pc := 47) hC (by omega) (by omega) dX11_paced_47 (by decide) (fun c47 => by (exfalso; omega)) (fun c47 => ?_)
          refine x_aload_n (pc := 50) hC dX11_paced_50 rfl ?_
          refine x_iload (pc := 51) hC dX11_paced_51 rfl ?_
          refine x_puti (K := 5) (pc := 53) hC rfl (fFX11_99 _ hci) (nF_pace _ hci) (by assumption) dX11_paced_53 (iF_pace _ hci) ?_
          obtain ⟨z1, hz1e⟩ : ∃ z1, z1 = up z (38 + f) j := ⟨_, rfl⟩
          have hu : ∀ j, j ≠ 38 + f → z1 j = z j := fun j h1 => by rw [hz1e]; exact up_ne _ h1 _
          have hpl1 : PlOk z1 := by rw [hz1e]; exact hpl.pace hf4 ⟨by omega, by omega⟩
          refine X.gen (P := fun σ2 => Fy σ σ2 y (fun j => j = 5) ∧ FZ σ2 y f z1) ⟨⟨fun p p1 p2 => by rw [wr_of _ p2]; exact hfy.1 p p1 p2, fun j hj => by rw [wr_k _ _ _ hj]; exact hfy.2 j hj⟩, ?_⟩ (fun σ2 h2 => ?_)
          · unfold FZ
            rw [hz1e]
            simp (disch := omega) only [wr_eq, wr_k, up_eq, up_ne]
            exact ⟨(hfy.2 0 (by decide)).trans a0, (hfy.2 1 (by decide)).trans a1, (hfy.2 2 (by decide)).trans a2, (hfy.2 3 (by decide)).trans a3, (hfy.2 4 (by decide)).trans a4, trivial, (hfy.2 6 (by decide)).trans a6⟩
          obtain ⟨hfy2, hfz1⟩ := h2
          have hfa1 : FanAt σ2 ρ ks y f z1 := ⟨by rw [hu _ (by omega)]; exact hyk, hfz1, fun h6 => by
            rw [hu _ (by omega)] at h6
            obtain ⟨t1, t2, t3⟩ := htz h6
            exact ⟨t1, t2, fun k k0 k1 => by rw [hfy2.1 (y + 1) (by omega) (by omega), hu _ (by omega)]; exact t3 k k0 k1⟩⟩
          have hz1 : HZ σ2 ρ ks 1 z1 := hz.fan h13.2 h14.2 (f := f) ⟨by omega, by omega⟩ hy (fun p h1 _ h3 => hfy2.1 p (by omega) h1) hfa1 (fun j hj => hu j (by omega)) (fun g g0 g1 hg => ⟨⟨hu _ (by omega), hu _ (by omega), hu _ (by omega), hu _ (by omega), hu _ (by omega), hu _ (by omega)⟩, fun x x0 x1 => hu _ (by omega)⟩) hpl.2.2.1.1.1
          have hfs1 := hz1.fans
          have h131 : z1 13 = z 13 := hu 13 (by omega)
          have h01 : z1 0 = z 0 := hu 0 (by omega)
          refine x_aload_n (pc := 56) hC dX11_paced_56 rfl ?_
          refine x_aload_n (pc := 57) hC dX11_paced_57 rfl ?_
          refine x_getr (K := 0) (pc := 58) hC fX11_12_11 (by assumption) dX11_paced_58 rfl rfl (by assumption) ?_
          refine x_callV1 (As := []) (Bs := []) (pc := 61) hC (c_onMask E hk hfs1 hpl1.1) wX11_156_1 pX1_onMask (by assumption) rfl rfl (by exact Nat.le_of_ble_eq_true rfl) hR (by decide) (by decide) (by decide) rfl dX11_paced_61 ?_
          refine x_iload_n (pc := 64) hC dX11_paced_64 rfl ?_
          refine x_callV (As := [_, _]) (Bs := [_, _]) (pc := 65) hC (c_after E hw hz1 hpl1 (mask := maskF z1 (z1 13).toNat) (mask_in (by omega)) (n := n) (by omega) (by omega)) wX11_164_11 pX11_after (by assumption) rfl rfl (by exact Nat.le_of_ble_eq_true rfl) hR (by decide) (by decide) (by decide) rfl dX11_paced_65 (fun r65 σ65 ρ65 ks65 q65 => ?_)
          obtain ⟨rfl, hnx65, hρ65, hks65, f2, f3⟩ := q65
          obtain rfl := hρ65.symm
          obtain rfl := hks65.symm
          rw [(pass_play hpl1 rfl (fun _ => 0) n.toNat (by omega)).1] at f2
          have p1 := play_pl hpl1 n.toNat (by omega)
          have hwv : 1000 * greatF (playF z1 n.toNat) (playF z1 n.toNat 14).toNat + allF (playF z1 n.toNat) (playF z1 n.toNat 14).toNat = worseF z1 n.toNat := by
            rw [p1.2.2 14 (Or.inl (by decide))]; rfl
          have hwr := worse_in hpl1 n.toNat (by omega)
          refine x_callV1 (As := []) (Bs := []) (pc := 68) hC (c_greatestThenSum E wn f2 p1.1.2.1) wX11_185_5 pX5_greatestThenSum (by assumption) rfl rfl (by exact Nat.le_of_ble_eq_true rfl) hR (by decide) (by decide) (by decide) rfl dX11_paced_68 ?_
          rw [hwv]
          refine x_istore (L' := [_, _, _, _, _, _, _, _, _]) (pc := 71) hC dX11_paced_71 rfl rfl ?_
          refine x_iload (pc := 73) hC dX11_paced_73 rfl ?_
          refine x_iload (pc := 75) hC dX11_paced_75 rfl ?_
          refine x_icmp_ge (tgt := 88) (pc := 77) hC (by omega) (by omega) dX11_paced_77 (by decide) (fun c77 => ?_) (fun c77 => ?_)
          · refine x_iinc (L' := [_, _, _, _, _, _, _, _, _]) (pc := 88) hC dX11_paced_88 rfl rfl rfl ?_
            refine x_goto (tgt := 44) (pc := 91) hC dX11_paced_91 (by decide) ?_
            refine X.drop (xLe_s (xLe_s (xLe_s (xLe_s (xLe_s (xLe_s (xLe_s (xLe_s (xLe_n xLe_0))))))))) (ih (k + 1) (j + 1) _ (by omega) (by omega) ⟨fun p p1 p2 => (hnx65 p p1).trans (hfy2.1 p p1 p2), fun j hj => (congrFun (hnx65 y (by omega)) j).trans (hfy2.2 j hj)⟩ fo be ?_)
            rw [mnF_s, hb, if_neg (show ¬ worseF (up z (38 + f) (1 + (k : Int))) n.toNat < be by rw [← hj, ← hz1e]; omega)]
          · refine x_iload (pc := 80) hC dX11_paced_80 rfl ?_
            refine x_istore (L' := [_, _, _, _, _, _, _, _, _]) (pc := 82) hC dX11_paced_82 rfl rfl ?_
            refine x_iload (pc := 84) hC dX11_paced_84 rfl ?_
            refine x_istore (L' := [_, _, _, _, _, _, _, _, _]) (pc := 86) hC dX11_paced_86 rfl rfl ?_
            refine x_iinc (L' := [_, _, _, _, _, _, _, _, _]) (pc := 88) hC dX11_paced_88 rfl rfl rfl ?_
            refine x_goto (tgt := 44) (pc := 91) hC dX11_paced_91 (by decide) ?_
            refine X.drop (xLe_s (xLe_s (xLe_s (xLe_s (xLe_s (xLe_s (xLe_s (xLe_s (xLe_n xLe_0))))))))) (ih (k + 1) (j + 1) _ (by omega) (by omega) ⟨fun p p1 p2 => (hnx65 p p1).trans (hfy2.1 p p1 p2), fun j hj => (congrFun (hnx65 y (by omega)) j).trans (hfy2.2 j hj)⟩ j _ ?_)
            rw [mnF_s, hb, if_pos (show worseF (up z (38 + f) (1 + (k : Int))) n.toNat < be by rw [← hj, ← hz1e]; omega), ← hj, ← hz1e]
      exact loop 4 0 1 σ rfl (by omega) ⟨fun _ _ _ => rfl, fun _ _ => rfl⟩ 1 1000000 rfl
    · refine x_bipush (pc := 25) hC dX11_paced_25 (by decide +kernel) ?_
      refine x_ireturn hC hZ dX11_paced_27 (by decide) (by decide) ?_
      refine ⟨congrArg (fun z => some (Value.int (iI z))) ?_, Nx.rf _, rfl, rfl⟩
      unfold pacedA
      (repeat (first | rw [if_pos (by omega)] | rw [if_neg (by omega)]))
      all_goals (first | rfl | omega | assumption)
  · refine x_aload_n (pc := 0) hC dX11_paced_0 rfl ?_
    refine x_getr (K := 0) (pc := 1) hC fX11_12_11 (by assumption) dX11_paced_1 rfl rfl (by assumption) ?_
    refine x_iload_n (pc := 4) hC dX11_paced_4 rfl ?_
    refine x_callV1 (As := [_]) (Bs := [_]) (pc := 5) hC (c_fanOfN E hk hfs hfan (f := f) hf0 hf) wX11_81_1 pX1_fanOf (by assumption) rfl rfl (by exact Nat.le_of_ble_eq_true rfl) hR (by decide) (by decide) (by decide) rfl dX11_paced_5 ?_
    refine x_astoreN_n (L' := [_, _, _, _, _, _, _, _, _]) (pc := 8) hC dX11_paced_8 rfl rfl ?_
    refine x_aloadN_n (pc := 9) hC dX11_paced_9 rfl ?_
    refine x_ifnonnull_n (pc := 10) hC dX11_paced_10 ?_
    refine x_iconst (pc := 13) hC dX11_paced_13 ?_
    refine x_ireturn hC hZ dX11_paced_14 (by decide) (by decide) ?_
    refine ⟨congrArg (fun z => some (Value.int (iI z))) ?_, Nx.rf _, rfl, rfl⟩
    unfold pacedA
    (repeat (first | rw [if_pos (by omega)] | rw [if_neg (by omega)]))
    all_goals (first | rfl | omega | assumption)

set_option maxHeartbeats 4000000 in
set_option maxRecDepth 100000 in
theorem c_set (E : xE) {σ : xM} {ρ : xR} {ks : xKs} (hw : WK ks ρ) {z : zS} (hz : HZ σ ρ ks 1 z) (hpl : PlOk z) {f n w : Int} (hf0 : rg f) (hn0 : rg n) (hw0 : rg w) (ht : z 0 + 100 < 900000) : Sp E yX11_set kX11_set 6 0 0 [.ref 0, .int (iI f), .int (iI n), .int (iI w)] σ ρ ks (fun r σ' ρ' ks' => r = some (.int (iI (setA z f n w))) ∧ Nx σ σ' ∧ ρ' = ρ ∧ ks' = ks) := by
  obtain ⟨w0, w43, ⟨wr0, wr1, wr3, wr4, wr5⟩, wh, wk, wn, wt⟩ := id hw
  have hk := wh.hk
  obtain ⟨k1, k2, r0, r2, hs3⟩ := id hk
  have hfs := hz.fans
  have hsz := hz.sit
  obtain ⟨⟨hz1, -⟩, -, ⟨rq, hrq, hrq2, hrm⟩, hz4, ⟨hz6, -⟩, hz7, hz8, ⟨hz10, -⟩, ⟨hz12, -⟩, ⟨hz14, -⟩⟩ := id hz
  have hfan := hpl.1
  have hsit := hpl.2.1
  have h13 := hpl.1.1
  have h14 := hpl.2.1.1
  have hz00 := hpl.2.2.2
  obtain ⟨n0, ⟨n1, n2, n3, n4, n5⟩, m0, m1, m2, m3, m4⟩ := id wn
  refine x_enter (own := RX11) (L := [_, _, _, _, _, _, _, _, _, _, _, _]) (by decide +kernel) rfl (by exact Nat.le_of_ble_eq_true rfl) rfl (fun p e R s m args below meth c Z hZ hC hR hin => ?_)
  by_cases hf : 0 ≤ f ∧ f ≤ z 13 - 1
  · obtain ⟨y, hy, hfa⟩ := hfs.2 f (by omega) (by omega)
    obtain ⟨hyk, hfz, htz⟩ := id hfa
    have hci := kci_fam (z (22 + f))
    obtain ⟨a0, a1, a2, a3, a4, a5, a6⟩ := id hfz
    have hfo := hfan.2 f (by omega) (by omega)
    obtain ⟨b1, b2, b3, b4, b5, b6⟩ := id hfo
    have hf4 : 0 ≤ f ∧ f < 4 := ⟨by omega, by omega⟩
    have hy55 : 55 ≤ y := by
      obtain ⟨q, u1, u2, -⟩ := hz.1.2 f (by omega) (by omega)
      cases u1.symm.trans hy
      exact u2
    refine x_aload_n (pc := 0) hC dX11_set_0 rfl ?_
    refine x_getr (K := 0) (pc := 1) hC fX11_12_11 (by assumption) dX11_set_1 rfl rfl (by assumption) ?_
    refine x_iload_n (pc := 4) hC dX11_set_4 rfl ?_
    refine x_callV1 (As := [_]) (Bs := [_]) (pc := 5) hC (c_fanOf E hk hfs hfan (f := f) ⟨by omega, by omega⟩ hy) wX11_81_1 pX1_fanOf (by assumption) rfl rfl (by exact Nat.le_of_ble_eq_true rfl) hR (by decide) (by decide) (by decide) rfl dX11_set_5 ?_
    refine x_astore (L' := [_, _, _, _, _, _, _, _, _, _, _, _]) (pc := 8) hC dX11_set_8 rfl rfl ?_
    refine x_aload (pc := 10) hC dX11_set_10 rfl ?_
    refine x_ifnull_r (pc := 12) hC dX11_set_12 ?_
    refine x_iload_n (pc := 15) hC dX11_set_15 rfl ?_
    refine x_callS1 (As := [_]) (Bs := [_]) (pc := 16) hC (c_isEither E (by omega)) wX11_181 pX11_isEither rfl rfl (by exact Nat.le_of_ble_eq_true rfl) hR (by decide) (by decide) (by decide) rfl dX11_set_16 ?_
    refine x_ifB_ne (tgt := 24) (pc := 19) hC  dX11_set_19 (by decide) (fun c19 => ?_) (fun c19 => ?_)
    · refine x_iload_n (pc := 24) hC dX11_set_24 rfl ?_
      refine x_iconst (pc := 25) hC dX11_set_25 ?_
      refine x_bipush (pc := 26) hC dX11_set_26 (by decide +kernel) ?_
      refine x_callS1 (As := [_, _, _]) (Bs := [_, _, _]) (pc := 28) hC (c_isIn E (by omega) (by omega) (by omega)) wX11_152 pX11_isIn rfl rfl (by exact Nat.le_of_ble_eq_true rfl) hR (by decide) (by decide) (by decide) rfl dX11_set_28 ?_
      refine x_ifB_ne (tgt := 37) (pc := 31) hC  dX11_set_31 (by decide) (fun c31 => ?_) (fun c31 => ?_)
      · refine x_aload (pc := 37) hC dX11_set_37 rfl ?_
        refine x_geti (K := 3) (pc := 39) hC (fFX11_93 _ hci) (by assumption) dX11_set_39 (tF_from _ hci) rfl ?_
        refine x_istore (L' := [_, _, _, _, _, _, _, _, _, _, _, _]) (pc := 42) hC dX11_set_42 rfl rfl ?_
        refine x_aload (pc := 44) hC dX11_set_44 rfl ?_
        refine x_geti (K := 4) (pc := 46) hC (fFX11_96 _ hci) (by assumption) dX11_set_46 (tF_to _ hci) rfl ?_
        refine x_istore (L' := [_, _, _, _, _, _, _, _, _, _, _, _]) (pc := 49) hC dX11_set_49 rfl rfl ?_
        refine x_ldc (pc := 51) hC (1000000) qX11_184 (by decide +kernel) dX11_set_51 ?_
        refine x_istore (L' := [_, _, _, _, _, _, _, _, _, _, _, _]) (pc := 53) hC dX11_set_53 rfl rfl ?_
        refine x_iconst (pc := 55) hC dX11_set_55 ?_
        refine x_istore (L' := [_, _, _, _, _, _, _, _, _, _, _, _]) (pc := 56) hC dX11_set_56 rfl rfl ?_
        refine x_iconst (pc := 58) hC dX11_set_58 ?_
        refine x_istore (L' := [_, _, _, _, _, _, _, _, _, _, _, _]) (pc := 59) hC dX11_set_59 rfl rfl ?_
        have hg : ∀ x : Nat, x < 100 → 0 ≤ setG z f n.toNat (0 + (x : Int)) ∧ setG z f n.toNat (0 + (x : Int)) ≤ 1000000 := by
          intro x hx
          unfold setG
          split
          · next hle =>
            have hp1 := hpl.set (f := f) (a := (0 + (x : Int)) / 10) (b := (0 + (x : Int)) % 10) hf4 ⟨by omega, hle, by omega⟩
            have := worse_in hp1 n.toNat (by unfold setY; rw [up_ne _ (by omega), up_ne _ (by omega)]; omega)
            omega
          · omega
        have hg0 : setG z f n.toNat (0 + ((0 : Nat) : Int)) < 1000000 := by
          unfold setG
          rw [if_pos (by decide)]
          have hp1 := hpl.set (f := f) (a := (0 + ((0 : Nat) : Int)) / 10) (b := (0 + ((0 : Nat) : Int)) % 10) hf4 ⟨by decide, by decide, by decide⟩
          have := worse_in hp1 n.toNat (by unfold setY; rw [up_ne _ (by omega), up_ne _ (by omega)]; omega)
          omega
        have outer : ∀ (i k : Nat) (j : Int) (σ' : xM), j = k → k + i = 10 → Fy σ σ' y (fun j => j = 3 ∨ j = 4) → ∀ fo be : Int, mnF (setG z f n.toNat) 0 1000000 0 (10 * k) = (fo, be) → X E p e R s m args below meth c Z 0 0 σ' ρ ks 61 [some (.ref 0), some (.int (iI f)), some (.int (iI n)), some (.int (iI w)), some (.ref y), some (.int (iI (σ y 3))), some (.int (iI (σ y 4))), some (.int (iI be)), some (.int (iI fo)), some (.int (iI j)), none, none] [] := by
          intro i
          induction i with
          | zero =>
            intro k j σ' hj hi hfy fo be hb
            have hst : mnF (setG z f n.toNat) (-1) 1000000 0 100 = (fo, be) := (mnF_start (g := (setG z f n.toNat)) (b := -1) (l := 1000000) (b' := 0) (l' := 1000000) (k0 := 0) hg0 (by omega) 99).trans (by rw [show 99 + 1 = 10 * k by omega]; exact hb)
            have hbl := mnF_le0 (g := (setG z f n.toNat)) (b := -1) (l := 1000000) (k0 := 0) hg0 99
            have hbg := mnF_ge (g := (setG z f n.toNat)) (b := -1) (l := 1000000) (k0 := 0) (M := 0) (N := 100) (by decide) (fun x hx => (hg x hx).1) 100 (by omega)
            rw [hst] at hbg
            rw [show 99 + 1 = 100 from rfl, hst] at hbl
            refine x_iload (pc := 61) hC dX11_set_61 rfl ?_
            refine x_bipush (pc := 63) hC dX11_set_63 (by decide +kernel) ?_
            refine x_icmp_ge (tgt := 143) (pc := 65) hC (by omega) (by omega) dX11_set_65 (by decide) (fun c65 => ?_) (fun c65 => by (exfalso; omega))
            refine x_aload (pc := 143) hC dX11_set_143 rfl ?_
            refine x_iload (pc := 145) hC dX11_set_145 rfl ?_
            refine x_puti (K := 3) (pc := 147) hC rfl (fFX11_93 _ hci) (nF_from _ hci) (by assumption) dX11_set_147 (iF_from _ hci) ?_
            refine x_aload (pc := 150) hC dX11_set_150 rfl ?_
            refine x_iload (pc := 152) hC dX11_set_152 rfl ?_
            refine x_puti (K := 4) (pc := 154) hC rfl (fFX11_96 _ hci) (nF_to _ hci) (by assumption) dX11_set_154 (iF_to _ hci) ?_
            refine x_iload_n (pc := 157) hC dX11_set_157 rfl ?_
            refine x_if_ne (tgt := 166) (pc := 158) hC (by omega) dX11_set_158 (by decide) (fun c158 => ?_) (fun c158 => ?_)
            · refine x_iload (pc := 166) hC dX11_set_166 rfl ?_
              refine x_sipush (pc := 168) hC dX11_set_168 (by decide +kernel) ?_
              refine x_idiv (pc := 171) hC (by omega) dX11_set_171 ?_
              refine x_ireturn hC hZ dX11_set_172 (by decide) (by decide) ?_
              refine ⟨congrArg (fun z => some (Value.int (iI z))) ?_, fun p hp => ?_, rfl, rfl⟩
              · unfold setA
                rw [if_neg (by omega), if_neg (by omega), if_neg (by omega)]
                exact (congrArg (fun q : Int × Int => q.2 / 1000) hst).symm
              · by_cases hpy : p = y
                · subst hpy
                  funext x
                  by_cases hx4 : x = 4
                  · subst hx4; rw [wr_eq]
                  · rw [wr_k _ _ _ hx4]
                    by_cases hx3 : x = 3
                    · subst hx3; rw [wr_eq]
                    · rw [wr_k _ _ _ hx3]; exact hfy.2 x (fun h => h.elim hx3 hx4)
                · rw [wr_of _ hpy, wr_of _ hpy]; exact hfy.1 p hp hpy
            · refine x_iload (pc := 161) hC dX11_set_161 rfl ?_
              refine x_goto (tgt := 172) (pc := 163) hC dX11_set_163 (by decide) ?_
              refine x_ireturn hC hZ dX11_set_172 (by decide) (by decide) ?_
              refine ⟨congrArg (fun z => some (Value.int (iI z))) ?_, fun p hp => ?_, rfl, rfl⟩
              · unfold setA
                rw [if_neg (by omega), if_neg (by omega), if_pos (by omega)]
                exact (congrArg Prod.fst hst).symm
              · by_cases hpy : p = y
                · subst hpy
                  funext x
                  by_cases hx4 : x = 4
                  · subst hx4; rw [wr_eq]
                  · rw [wr_k _ _ _ hx4]
                    by_cases hx3 : x = 3
                    · subst hx3; rw [wr_eq]
                    · rw [wr_k _ _ _ hx3]; exact hfy.2 x (fun h => h.elim hx3 hx4)
                · rw [wr_of _ hpy, wr_of _ hpy]; exact hfy.1 p hp hpy
          | succ i ih =>
            intro k j σ' hj hi hfy fo be hb
            have inner : ∀ (u b : Nat) (j2 : Int) (σ2 : xM), j2 = (k : Int) + b → k + b + u = 10 → Fy σ σ2 y (fun j => j = 3 ∨ j = 4) → ∀ fo be : Int, mnF (setG z f n.toNat) 0 1000000 0 (10 * k + (k + b)) = (fo, be) → X E p e R s m args below meth c Z 0 0 σ2 ρ ks 72 [some (.ref 0), some (.int (iI f)), some (.int (iI n)), some (.int (iI w)), some (.ref y), some (.int (iI (σ y 3))), some (.int (iI (σ y 4))), some (.int (iI be)), some (.int (iI fo)), some (.int (iI j)), some (.int (iI j2)), none] [] := by
              intro u
              induction u with
              | zero =>
                intro b j2 σ2 hj2 hu2 hfy fo be hb
                refine x_iload (pc := 72) hC dX11_set_72 rfl ?_
                refine x_bipush (pc := 74) hC dX11_set_74 (by decide +kernel) ?_
                refine x_icmp_ge (tgt := 137) (pc := 76) hC (by omega) (by omega) dX11_set_76 (by decide) (fun c76 => ?_) (fun c76 => by (exfalso; omega))
                refine x_iinc (L' := [_, _, _, _, _, _, _, _, _, _, _, _]) (pc := 137) hC dX11_set_137 rfl rfl rfl ?_
                refine x_goto (tgt := 61) (pc := 140) hC dX11_set_140 (by decide) ?_
                refine X.drop (xLe_s (xLe_s (xLe_s (xLe_s (xLe_s (xLe_s (xLe_s (xLe_s (xLe_s (xLe_s (xLe_n (xLe_n xLe_0)))))))))))) (ih (k + 1) (j + 1) _ (by omega) (by omega) hfy fo be ?_)
                rw [show 10 * (k + 1) = 10 * k + (k + b) by omega]
                exact hb
              | succ u ihu =>
                intro b j2 σ2 hj2 hu2 hfy fo be hb
                have hbl := mnF_le (setG z f n.toNat) 0 1000000 0 (10 * k + (k + b))
                have hbg := mnF_ge (g := (setG z f n.toNat)) (b := 0) (l := 1000000) (k0 := 0) (M := 0) (N := 100) (by decide) (fun x hx => (hg x hx).1) (10 * k + (k + b)) (by omega)
                rw [hb] at hbl hbg
                have hgv : setG z f n.toNat (0 + ((10 * k + (k + b) : Nat) : Int)) = worseF (setY z f j j2) n.toNat := by
                  unfold setG
                  rw [show (0 + ((10 * k + (k + b) : Nat) : Int)) / 10 = j by omega, show (0 + ((10 * k + (k + b) : Nat) : Int)) % 10 = j2 by omega, if_pos (by omega)]
                refine x_iload (pc := 72) hC dX11_set_72 rfl ?_
                refine x_bipush (pc := 74) hC dX11_set_74 (by decide +kernel) ?_
                refine x_icmp_ge (tgt := 137) (pc := 76) hC (by omega) (by omega) dX11_set_76 (by decide) (fun c76 => by (exfalso; omega)) (fun c76 => ?_)
                refine x_aload (pc := 79) hC dX11_set_79 rfl ?_
                refine x_iload (pc := 81) hC dX11_set_81 rfl ?_
                refine x_puti (K := 3) (pc := 83) hC rfl (fFX11_93 _ hci) (nF_from _ hci) (by assumption) dX11_set_83 (iF_from _ hci) ?_
                refine x_aload (pc := 86) hC dX11_set_86 rfl ?_
                refine x_iload (pc := 88) hC dX11_set_88 rfl ?_
                refine x_puti (K := 4) (pc := 90) hC rfl (fFX11_96 _ hci) (nF_to _ hci) (by assumption) dX11_set_90 (iF_to _ hci) ?_
                obtain ⟨z1, hz1e⟩ : ∃ z1, z1 = setY z f j j2 := ⟨_, rfl⟩
                have hu : ∀ j, j ≠ 30 + f → j ≠ 34 + f → z1 j = z j := fun j h1 h2 => by rw [hz1e]; unfold setY; rw [up_ne _ h2, up_ne _ h1]
                have hpl1 : PlOk z1 := by rw [hz1e]; exact hpl.set hf4 ⟨by omega, by omega, by omega⟩
                refine X.gen (P := fun σ2 => Fy σ σ2 y (fun j => j = 3 ∨ j = 4) ∧ FZ σ2 y f z1) ⟨⟨fun p p1 p2 => by rw [wr_of _ p2, wr_of _ p2]; exact hfy.1 p p1 p2, fun j hj => by rw [wr_k _ _ _ (fun e => hj (Or.inr e)), wr_k _ _ _ (fun e => hj (Or.inl e))]; exact hfy.2 j hj⟩, ?_⟩ (fun σ2 h2 => ?_)
                · unfold FZ
                  rw [hz1e]
                  unfold setY
                  simp (disch := omega) only [wr_eq, wr_k, up_eq, up_ne]
                  exact ⟨(hfy.2 0 (by decide)).trans a0, (hfy.2 1 (by decide)).trans a1, (hfy.2 2 (by decide)).trans a2, trivial, trivial, (hfy.2 5 (by decide)).trans a5, (hfy.2 6 (by decide)).trans a6⟩
                obtain ⟨hfy2, hfz1⟩ := h2
                have hfa1 : FanAt σ2 ρ ks y f z1 := ⟨by rw [hu _ (by omega) (by omega)]; exact hyk, hfz1, fun h6 => by
                  rw [hu _ (by omega) (by omega)] at h6
                  obtain ⟨t1, t2, t3⟩ := htz h6
                  exact ⟨t1, t2, fun k k0 k1 => by rw [hfy2.1 (y + 1) (by omega) (by omega), hu _ (by omega) (by omega)]; exact t3 k k0 k1⟩⟩
                have hz1 : HZ σ2 ρ ks 1 z1 := hz.fan h13.2 h14.2 (f := f) ⟨by omega, by omega⟩ hy (fun p h1 _ h3 => hfy2.1 p (by omega) h1) hfa1 (fun j hj => hu j (by omega) (by omega)) (fun g g0 g1 hg => ⟨⟨hu _ (by omega) (by omega), hu _ (by omega) (by omega), hu _ (by omega) (by omega), hu _ (by omega) (by omega), hu _ (by omega) (by omega), hu _ (by omega) (by omega)⟩, fun x x0 x1 => hu _ (by omega) (by omega)⟩) hpl.2.2.1.1.1
                have hfs1 := hz1.fans
                have h131 : z1 13 = z 13 := hu 13 (by omega) (by omega)
                have h01 : z1 0 = z 0 := hu 0 (by omega) (by omega)
                refine x_aload_n (pc := 93) hC dX11_set_93 rfl ?_
                refine x_aload_n (pc := 94) hC dX11_set_94 rfl ?_
                refine x_getr (K := 0) (pc := 95) hC fX11_12_11 (by assumption) dX11_set_95 rfl rfl (by assumption) ?_
                refine x_callV1 (As := []) (Bs := []) (pc := 98) hC (c_onMask E hk hfs1 hpl1.1) wX11_156_1 pX1_onMask (by assumption) rfl rfl (by exact Nat.le_of_ble_eq_true rfl) hR (by decide) (by decide) (by decide) rfl dX11_set_98 ?_
                refine x_iload_n (pc := 101) hC dX11_set_101 rfl ?_
                refine x_callV (As := [_, _]) (Bs := [_, _]) (pc := 102) hC (c_after E hw hz1 hpl1 (mask := maskF z1 (z1 13).toNat) (mask_in (by omega)) (n := n) (by omega) (by omega)) wX11_164_11 pX11_after (by assumption) rfl rfl (by exact Nat.le_of_ble_eq_true rfl) hR (by decide) (by decide) (by decide) rfl dX11_set_102 (fun r102 σ102 ρ102 ks102 q102 => ?_)
                obtain ⟨rfl, hnx102, hρ102, hks102, f2, f3⟩ := q102
                obtain rfl := hρ102.symm
                obtain rfl := hks102.symm
                rw [(pass_play hpl1 rfl (fun _ => 0) n.toNat (by omega)).1] at f2
                have p1 := play_pl hpl1 n.toNat (by omega)
                have hwv : 1000 * greatF (playF z1 n.toNat) (playF z1 n.toNat 14).toNat + allF (playF z1 n.toNat) (playF z1 n.toNat 14).toNat = worseF z1 n.toNat := by
                  rw [p1.2.2 14 (Or.inl (by decide))]; rfl
                have hwr := worse_in hpl1 n.toNat (by omega)
                refine x_callV1 (As := []) (Bs := []) (pc := 105) hC (c_greatestThenSum E wn f2 p1.1.2.1) wX11_185_5 pX5_greatestThenSum (by assumption) rfl rfl (by exact Nat.le_of_ble_eq_true rfl) hR (by decide) (by decide) (by decide) rfl dX11_set_105 ?_
                rw [hwv]
                refine x_istore (L' := [_, _, _, _, _, _, _, _, _, _, _, _]) (pc := 108) hC dX11_set_108 rfl rfl ?_
                refine x_iload (pc := 110) hC dX11_set_110 rfl ?_
                refine x_iload (pc := 112) hC dX11_set_112 rfl ?_
                refine x_icmp_ge (tgt := 131) (pc := 114) hC (by omega) (by omega) dX11_set_114 (by decide) (fun c114 => ?_) (fun c114 => ?_)
                · refine x_iinc (L' := [_, _, _, _, _, _, _, _, _, _, _, _]) (pc := 131) hC dX11_set_131 rfl rfl rfl ?_
                  refine x_goto (tgt := 72) (pc := 134) hC dX11_set_134 (by decide) ?_
                  refine X.drop (xLe_s (xLe_s (xLe_s (xLe_s (xLe_s (xLe_s (xLe_s (xLe_s (xLe_s (xLe_s (xLe_s (xLe_n xLe_0)))))))))))) (ihu (b + 1) (j2 + 1) _ (by omega) (by omega) ⟨fun p p1 p2 => (hnx102 p p1).trans (hfy2.1 p p1 p2), fun j hj => (congrFun (hnx102 y (by omega)) j).trans (hfy2.2 j hj)⟩ fo be ?_)
                  rw [show 10 * k + (k + (b + 1)) = 10 * k + (k + b) + 1 from rfl, mnF_s, hb, hgv, ← hz1e, if_neg (show ¬ _ < be by omega)]
                · refine x_iload (pc := 117) hC dX11_set_117 rfl ?_
                  refine x_istore (L' := [_, _, _, _, _, _, _, _, _, _, _, _]) (pc := 119) hC dX11_set_119 rfl rfl ?_
                  refine x_iload (pc := 121) hC dX11_set_121 rfl ?_
                  refine x_bipush (pc := 123) hC dX11_set_123 (by decide +kernel) ?_
                  refine x_imul (pc := 125) hC dX11_set_125 ?_
                  refine x_iload (pc := 126) hC dX11_set_126 rfl ?_
                  refine x_iadd (pc := 128) hC dX11_set_128 ?_
                  refine x_istore (L' := [_, _, _, _, _, _, _, _, _, _, _, _]) (pc := 129) hC dX11_set_129 rfl rfl ?_
                  refine x_iinc (L' := [_, _, _, _, _, _, _, _, _, _, _, _]) (pc := 131) hC dX11_set_131 rfl rfl rfl ?_
                  refine x_goto (tgt := 72) (pc := 134) hC dX11_set_134 (by decide) ?_
                  refine X.drop (xLe_s (xLe_s (xLe_s (xLe_s (xLe_s (xLe_s (xLe_s (xLe_s (xLe_s (xLe_s (xLe_s (xLe_n xLe_0)))))))))))) (ihu (b + 1) (j2 + 1) _ (by omega) (by omega) ⟨fun p p1 p2 => (hnx102 p p1).trans (hfy2.1 p p1 p2), fun j hj => (congrFun (hnx102 y (by omega)) j).trans (hfy2.2 j hj)⟩ (j * 10 + j2) _ ?_)
                  rw [show 10 * k + (k + (b + 1)) = 10 * k + (k + b) + 1 from rfl, mnF_s, hb, hgv, ← hz1e, if_pos (show _ < be by omega), show 0 + ((10 * k + (k + b) : Nat) : Int) = j * 10 + j2 by omega]
            have hsk : mnF (setG z f n.toNat) 0 1000000 0 (10 * k + (k + 0)) = (fo, be) := by
              rw [show 10 * k + (k + 0) = 10 * k + k from rfl, mnF_skip k (fun x hx => ?_), hb]
              obtain ⟨q, hq⟩ : ∃ q : Nat, 10 * k = q + 1 := ⟨10 * k - 1, by omega⟩
              have hl := mnF_le0 (g := (setG z f n.toNat)) (b := 0) (l := 1000000) (k0 := 0) (by omega) q
              rw [hq]
              have e1 : setG z f n.toNat (0 + ((q + 1 + x : Nat) : Int)) = 1000000 := by
                unfold setG
                rw [if_neg (by omega)]
              rw [e1]
              omega
            refine x_iload (pc := 61) hC dX11_set_61 rfl ?_
            refine x_bipush (pc := 63) hC dX11_set_63 (by decide +kernel) ?_
            refine x_icmp_ge (tgt := 143) (pc := 65) hC (by omega) (by omega) dX11_set_65 (by decide) (fun c65 => by (exfalso; omega)) (fun c65 => ?_)
            refine x_iload (pc := 68) hC dX11_set_68 rfl ?_
            refine x_istore (L' := [_, _, _, _, _, _, _, _, _, _, _, _]) (pc := 70) hC dX11_set_70 rfl rfl ?_
            exact inner (10 - k) 0 j σ' (by omega) (by omega) hfy fo be hsk
        exact outer 10 0 0 σ rfl (by omega) ⟨fun _ _ _ => rfl, fun _ _ => rfl⟩ 0 1000000 rfl
      · refine x_bipush (pc := 34) hC dX11_set_34 (by decide +kernel) ?_
        refine x_ireturn hC hZ dX11_set_36 (by decide) (by decide) ?_
        refine ⟨congrArg (fun z => some (Value.int (iI z))) ?_, Nx.rf _, rfl, rfl⟩
        unfold setA
        (repeat (first | rw [if_pos (by omega)] | rw [if_neg (by omega)]))
        all_goals (first | rfl | omega | assumption)
    · refine x_iconst (pc := 22) hC dX11_set_22 ?_
      refine x_ireturn hC hZ dX11_set_23 (by decide) (by decide) ?_
      refine ⟨congrArg (fun z => some (Value.int (iI z))) ?_, Nx.rf _, rfl, rfl⟩
      unfold setA
      (repeat (first | rw [if_pos (by omega)] | rw [if_neg (by omega)]))
      all_goals (first | rfl | omega | assumption)
  · refine x_aload_n (pc := 0) hC dX11_set_0 rfl ?_
    refine x_getr (K := 0) (pc := 1) hC fX11_12_11 (by assumption) dX11_set_1 rfl rfl (by assumption) ?_
    refine x_iload_n (pc := 4) hC dX11_set_4 rfl ?_
    refine x_callV1 (As := [_]) (Bs := [_]) (pc := 5) hC (c_fanOfN E hk hfs hfan (f := f) hf0 hf) wX11_81_1 pX1_fanOf (by assumption) rfl rfl (by exact Nat.le_of_ble_eq_true rfl) hR (by decide) (by decide) (by decide) rfl dX11_set_5 ?_
    refine x_astoreN (L' := [_, _, _, _, _, _, _, _, _, _, _, _]) (pc := 8) hC dX11_set_8 rfl rfl ?_
    refine x_aloadN (pc := 10) hC dX11_set_10 rfl ?_
    refine x_ifnull_n (tgt := 22) (pc := 12) hC dX11_set_12 (by decide) ?_
    refine x_iconst (pc := 22) hC dX11_set_22 ?_
    refine x_ireturn hC hZ dX11_set_23 (by decide) (by decide) ?_
    refine ⟨congrArg (fun z => some (Value.int (iI z))) ?_, Nx.rf _, rfl, rfl⟩
    unfold setA
    (repeat (first | rw [if_pos (by omega)] | rw [if_neg (by omega)]))
    all_goals (first | rfl | omega | assumption)
