/-! THE CLASS'S WORLD: its standing cells; what a hall shows -/
def HKB (ks : xKs) (ρ : xR) (B : Nat) : Prop := ks[B]? = some (0, 1) ∧ ks[B + 1]? = some (3, 4) ∧ ρ B 0 = some (B + 1) ∧ ρ B 2 = some (B + 2) ∧ SK ks ρ (B + 2) (B + 3) ∧ (ks[B + 14]? = some (1, 100) ∧ ks[B + 15]? = some (1, 18) ∧ ks[B + 16]? = some (1, 12) ∧ ks[B + 17]? = some (1, 24)) ∧ ρ B 5 = some (B + 14) ∧ ρ B 9 = some (B + 15) ∧ ρ B 11 = some (B + 16) ∧ ρ B 13 = some (B + 17)
theorem HKB.hk {ks : xKs} {ρ : xR} (h : HKB ks ρ 1) : HK ks ρ := ⟨h.1, h.2.1, h.2.2.1, h.2.2.2.1, h.2.2.2.2.1⟩
def WK (ks : xKs) (ρ : xR) : Prop := ks[0]? = some (0, 11) ∧ ks[43]? = some (1, 10) ∧ (ρ 0 0 = some 1 ∧ ρ 0 1 = some 19 ∧ ρ 0 3 = some 37 ∧ ρ 0 4 = some 43 ∧ ρ 0 5 = some 44) ∧ HKB ks ρ 1 ∧ HKB ks ρ 19 ∧ SK ks ρ 37 38 ∧ TK ks ρ
def HZ (σ : xM) (ρ : xR) (ks : xKs) (B : Nat) (z : zS) : Prop :=
  (σ B 1 = z 13 ∧ ∀ f, 0 ≤ f → f < z 13 → ∃ q, ρ (B + 1) f = some q ∧ 55 ≤ q ∧ FanAt σ ρ ks q f z) ∧ SZ σ (B + 2) (B + 3) z ∧ (∃ rq, ρ B 3 = some rq ∧ (rq = 9 ∨ rq = 27 ∨ 55 ≤ rq) ∧ RmP σ ρ ks rq z) ∧ σ B 4 = z 15 ∧ (σ B 6 = z 19 ∧ ∀ j, 0 ≤ j → j < z 19 → σ (B + 14) j = z (118 + j)) ∧ σ B 7 = z 0 ∧ σ B 8 = z 21 ∧
  (σ B 10 = z 16 ∧ ∀ k, 0 ≤ k → k < z 16 → σ (B + 15) (k * 3) = z (68 + k) ∧ σ (B + 15) (k * 3 + 1) = z (74 + k) ∧ σ (B + 15) (k * 3 + 2) = z (80 + k)) ∧
  (σ B 12 = z 17 ∧ ∀ k, 0 ≤ k → k < z 17 → σ (B + 16) (k * 3) = z (86 + k) ∧ σ (B + 16) (k * 3 + 1) = z (90 + k)) ∧
  (σ B 14 = z 18 ∧ ∀ k, 0 ≤ k → k < z 18 → σ (B + 17) (k * 3) = z (94 + k) ∧ σ (B + 17) (k * 3 + 1) = z (102 + k) ∧ σ (B + 17) (k * 3 + 2) = z (110 + k))
theorem HZ.fans {σ : xM} {ρ : xR} {ks : xKs} {z : zS} (h : HZ σ ρ ks 1 z) : FansAt σ ρ ks z := ⟨h.1.1, fun f h0 h1 => by
  obtain ⟨q, a, -, b⟩ := h.1.2 f h0 h1
  exact ⟨q, a, b⟩⟩
theorem HZ.sit {σ : xM} {ρ : xR} {ks : xKs} {z : zS} (h : HZ σ ρ ks 1 z) : SZ σ 3 4 z := h.2.1
/-- what asking leaves: all but the sitters to come and the streaks -/
def Nx (σ σ' : xM) : Prop := ∀ p, (p < 37 ∨ 43 < p) → σ' p = σ p
theorem Nx.rf (σ : xM) : Nx σ σ := fun _ _ => rfl
theorem Nx.tr {a b c : xM} (h : Nx a b) (h2 : Nx b c) : Nx a c := fun p hp => (h2 p hp).trans (h p hp)
theorem SZ.mem {σ σ' : xM} {q b : Nat} {z : zS} (h : SZ σ q b z) (h0 : σ' q = σ q) (h1 : σ' b = σ b) (h2 : σ' (b + 1) = σ (b + 1)) (h3 : σ' (b + 2) = σ (b + 2)) : SZ σ' q b z := by
  unfold SZ at *
  rw [h0, h1, h2, h3]
  exact h
theorem HZ.mem {σ σ' : xM} {ρ ρ' : xR} {ks ks' : xKs} {B : Nat} {z : zS} (h : HZ σ ρ ks B z) (hB : B ≤ 19) (h2 : ∀ p, (p < 37 ∨ 55 ≤ p ∧ p < ks.length) → σ' p = σ p) (hρ : ∀ p, (p < 37 ∨ 55 ≤ p ∧ p < ks.length) → ρ' p = ρ p) (hk : ∀ p, p < ks.length → ks'[p]? = ks[p]?) : HZ σ' ρ' ks' B z := by
  obtain ⟨⟨a1, a2⟩, a3, ⟨rq, b1, b2, b3⟩, a4, a5, a6, a7, a8, a9, a10⟩ := h
  unfold HZ
  rw [h2 B (by omega), h2 (B + 14) (by omega), h2 (B + 15) (by omega), h2 (B + 16) (by omega), h2 (B + 17) (by omega)]
  refine ⟨⟨a1, fun f h0 h1 => ?_⟩, a3.mem (h2 _ (by omega)) (h2 _ (by omega)) (h2 _ (by omega)) (h2 _ (by omega)), ⟨rq, ?_, b2, ?_⟩, a4, a5, a6, a7, a8, a9, a10⟩
  · obtain ⟨q, c1, c2, c3⟩ := a2 f h0 h1
    have hl : q < ks.length := (List.getElem?_eq_some_iff.mp c3.1).1
    refine ⟨q, by rw [hρ (B + 1) (by omega)]; exact c1, c2, c3.mem (h2 q (by omega)) (fun h6 => h2 _ ?_) (hρ q (by omega)) (hk q hl) (fun h6 => hk _ ?_)⟩
    · have := (List.getElem?_eq_some_iff.mp (c3.2.2 h6).1).1
      omega
    · exact (List.getElem?_eq_some_iff.mp (c3.2.2 h6).1).1
  · rw [hρ B (by omega)]; exact b1
  · have hl : rq + 5 < ks.length := (List.getElem?_eq_some_iff.mp b3.1.2.1.2.2.2.2).1
    exact b3.mem (fun p p1 p2 => h2 p (by omega)) (hρ rq (by omega)) (fun p p1 p2 => hk p (by omega))
theorem HZ.nx {σ σ' : xM} {ρ : xR} {ks : xKs} {B : Nat} {z : zS} (h : HZ σ ρ ks B z) (hB : B ≤ 19) (h2 : Nx σ σ') : HZ σ' ρ ks B z := h.mem hB (fun p hp => h2 p (by omega)) (fun _ _ => rfl) (fun _ _ => rfl)
/-! Sitters as others -/
def cp6 (σ : xM) (a b : Nat) : zS := fun j => if 0 ≤ j ∧ j < 6 then σ a j else σ b j
def mz0 (m : zS) (k : Int) : zS := fun j => if 0 ≤ j ∧ j < k then 0 else m j
theorem mz0_s (m : zS) (k : Int) (h : 0 ≤ k) : up (mz0 m k) k 0 = mz0 m (k + 1) := by
  funext j; unfold up mz0
  by_cases h1 : j = k
  · subst h1; rw [if_pos rfl, if_pos (by omega)]
  · rw [if_neg h1]
    by_cases h2 : 0 ≤ j ∧ j < k
    · rw [if_pos h2, if_pos (by omega)]
    · rw [if_neg h2, if_neg (by omega)]
theorem mz0_0 (m : zS) : mz0 m 0 = m := by funext j; unfold mz0; rw [if_neg (by omega)]
set_option maxHeartbeats 4000000 in
set_option maxRecDepth 100000 in
theorem c_resembleS (E : xE) {σ : xM} {ρ : xR} {ks : xKs} {q b o w : Nat} {z : zS} (hsk : SK ks ρ q b) (hsk2 : SK ks ρ o w) (hd : b + 5 ≤ w ∨ w + 5 ≤ b) (hsz : SZ σ o w z) (hsit : SitOk z) : Sp E yX5_resemble kX5_resemble 1 0 0 [.ref q, .ref o] σ ρ ks (fun r σ' ρ' ks' => r = none ∧ ρ' = ρ ∧ ks' = ks ∧ (∀ p, p ≠ q → p ≠ b → p ≠ b + 1 → p ≠ b + 2 → p ≠ b + 3 → σ' p = σ p) ∧ (∀ j, j ≠ 5 → σ' q j = σ q j) ∧ SZ σ' q b z ∧ σ' (b + 3) = m0F (σ (b + 3))) := by
  obtain ⟨ko, ⟨kb0, kb1, kb2, kb3, kb4⟩, r0, r1, r2, r3, r4⟩ := id hsk
  obtain ⟨ko', ⟨kc0, kc1, kc2, kc3, kc4⟩, t0, t1, t2, t3, t4⟩ := id hsk2
  obtain ⟨z5, zs⟩ := id hsz
  have hs14 := hsit.1
  have hqb0 : q ≠ b := kne ko kb0 (by decide)
  have hqb1 : q ≠ b + 1 := kne ko kb1 (by decide)
  have hqb2 : q ≠ b + 2 := kne ko kb2 (by decide)
  have hqb3 : q ≠ b + 3 := kne ko kb3 (by decide)
  have hob0 : o ≠ b := kne ko' kb0 (by decide)
  have hob1 : o ≠ b + 1 := kne ko' kb1 (by decide)
  have hob2 : o ≠ b + 2 := kne ko' kb2 (by decide)
  have hob3 : o ≠ b + 3 := kne ko' kb3 (by decide)
  refine x_enter (own := RX5) (L := [_, _, _]) (by decide +kernel) rfl (by exact Nat.le_of_ble_eq_true rfl) rfl (fun p e R s m args below meth c Z hZ hC hR hin => ?_)
  have loop : ∀ (n : Nat) (k : Int), 0 ≤ k → k + n = 6 → X E p e R s m args below meth c Z 0 0 (sw (sw (sw (sw σ b (cp6 σ w b)) (b + 1) (cp6 σ (w + 1) (b + 1))) (b + 2) (cp6 σ (w + 2) (b + 2))) (b + 3) (mz0 (σ (b + 3)) k)) ρ ks 47 [some (.ref q), some (.ref o), some (.int (iI k))] [] := by
    intro n
    induction n with
    | zero =>
      intro k h0 hn
      have h6 : k = 6 := by omega
      subst h6
      refine x_iload_n (pc := 47) hC dX5_resemble_47 rfl ?_
      refine x_bipush (pc := 48) hC dX5_resemble_48 (by decide +kernel) ?_
      refine x_icmp_ge (tgt := 66) (pc := 50) hC (by omega) (by omega) dX5_resemble_50 (by decide) (fun c50 => ?_) (fun c50 => by (exfalso; omega))
      refine x_aload_n (pc := 66) hC dX5_resemble_66 rfl ?_
      refine x_aload_n (pc := 67) hC dX5_resemble_67 rfl ?_
      refine x_geti (K := 5) (pc := 68) hC fX5_27_5 (by assumption) dX5_resemble_68 rfl rfl ?_
      simp (disch := omega) only [sw_ne]
      refine x_puti (K := 5) (pc := 71) hC rfl fX5_27_5 rfl (by assumption) dX5_resemble_71 rfl ?_
      refine x_return hC hZ dX5_resemble_74 (by decide) (by decide) ?_
      refine ⟨rfl, rfl, rfl, fun p h1 h2 h3 h4 h5 => ?_, fun j hj => ?_, ⟨?_, fun j j0 j1 => ?_⟩, ?_⟩
      · rw [wr_of _ h1, sw_ne _ h5, sw_ne _ h4, sw_ne _ h3, sw_ne _ h2]
      · rw [wr_k _ _ _ hj, sw_ne _ hqb3, sw_ne _ hqb2, sw_ne _ hqb1, sw_ne _ hqb0]
      · rw [wr_eq]; exact z5
      · obtain ⟨e0, e1, e2⟩ := zs j j0 j1
        simp (disch := omega) only [wr_of, sw_ne, sw_eq]
        unfold cp6
        rw [if_pos (by omega), if_pos (by omega), if_pos (by omega)]
        exact ⟨e0, e1, e2⟩
      · rw [wr_of _ hqb3.symm, sw_eq]; rfl
    | succ n ih =>
      intro k h0 hn
      refine x_iload_n (pc := 47) hC dX5_resemble_47 rfl ?_
      refine x_bipush (pc := 48) hC dX5_resemble_48 (by decide +kernel) ?_
      refine x_icmp_ge (tgt := 66) (pc := 50) hC (by omega) (by omega) dX5_resemble_50 (by decide) (fun c50 => by (exfalso; omega)) (fun c50 => ?_)
      refine x_aload_n (pc := 53) hC dX5_resemble_53 rfl ?_
      refine x_getr (K := 3) (pc := 54) hC fX5_21_5 (by assumption) dX5_resemble_54 rfl rfl (by assumption) ?_
      refine x_iload_n (pc := 57) hC dX5_resemble_57 rfl ?_
      refine x_iconst (pc := 58) hC dX5_resemble_58 ?_
      refine x_iast (pc := 59) hC (by assumption) (by omega) dX5_resemble_59 ?_
      refine x_iinc (L' := [_, _, _]) (pc := 60) hC dX5_resemble_60 rfl rfl rfl ?_
      refine x_goto (tgt := 47) (pc := 63) hC dX5_resemble_63 (by decide) ?_
      refine X.mem ?_ (ih (k + 1) (by omega) (by omega))
      rw [wr_sw, sw_eq, sw_sw, mz0_s _ _ h0]
  refine x_aload_n (pc := 0) hC dX5_resemble_0 rfl ?_
  refine x_getr (K := 0) (pc := 1) hC fX5_9_5 (by assumption) dX5_resemble_1 rfl rfl (by assumption) ?_
  refine x_iconst (pc := 4) hC dX5_resemble_4 ?_
  refine x_aload_n (pc := 5) hC dX5_resemble_5 rfl ?_
  refine x_getr (K := 0) (pc := 6) hC fX5_9_5 (by assumption) dX5_resemble_6 rfl rfl (by assumption) ?_
  refine x_iconst (pc := 9) hC dX5_resemble_9 ?_
  refine x_bipush (pc := 10) hC dX5_resemble_10 (by decide +kernel) ?_
  refine x_copy (pc := 12) hC wX5_31 (by assumption) (by assumption) (by omega) hR (by decide) (by exact Nat.le_of_ble_eq_true rfl) rfl dX5_resemble_12 ?_
  refine X.mem (σ' := (sw σ b (cp6 σ w b))) rfl ?_
  refine x_aload_n (pc := 15) hC dX5_resemble_15 rfl ?_
  refine x_getr (K := 1) (pc := 16) hC fX5_15_5 (by assumption) dX5_resemble_16 rfl rfl (by assumption) ?_
  refine x_iconst (pc := 19) hC dX5_resemble_19 ?_
  refine x_aload_n (pc := 20) hC dX5_resemble_20 rfl ?_
  refine x_getr (K := 1) (pc := 21) hC fX5_15_5 (by assumption) dX5_resemble_21 rfl rfl (by assumption) ?_
  refine x_iconst (pc := 24) hC dX5_resemble_24 ?_
  refine x_bipush (pc := 25) hC dX5_resemble_25 (by decide +kernel) ?_
  refine x_copy (pc := 27) hC wX5_31 (by assumption) (by assumption) (by omega) hR (by decide) (by exact Nat.le_of_ble_eq_true rfl) rfl dX5_resemble_27 ?_
  refine X.mem (σ' := (sw (sw σ b (cp6 σ w b)) (b + 1) (cp6 σ (w + 1) (b + 1)))) (by rw [sw_ne _ (show w + 1 ≠ b by omega), sw_ne _ (show b + 1 ≠ b by omega)]; rfl) ?_
  refine x_aload_n (pc := 30) hC dX5_resemble_30 rfl ?_
  refine x_getr (K := 2) (pc := 31) hC fX5_18_5 (by assumption) dX5_resemble_31 rfl rfl (by assumption) ?_
  refine x_iconst (pc := 34) hC dX5_resemble_34 ?_
  refine x_aload_n (pc := 35) hC dX5_resemble_35 rfl ?_
  refine x_getr (K := 2) (pc := 36) hC fX5_18_5 (by assumption) dX5_resemble_36 rfl rfl (by assumption) ?_
  refine x_iconst (pc := 39) hC dX5_resemble_39 ?_
  refine x_bipush (pc := 40) hC dX5_resemble_40 (by decide +kernel) ?_
  refine x_copy (pc := 42) hC wX5_31 (by assumption) (by assumption) (by omega) hR (by decide) (by exact Nat.le_of_ble_eq_true rfl) rfl dX5_resemble_42 ?_
  refine X.mem (σ' := (sw (sw (sw σ b (cp6 σ w b)) (b + 1) (cp6 σ (w + 1) (b + 1))) (b + 2) (cp6 σ (w + 2) (b + 2)))) (by rw [sw_ne _ (show w + 2 ≠ b + 1 by omega), sw_ne _ (show w + 2 ≠ b by omega), sw_ne _ (show b + 2 ≠ b + 1 by omega), sw_ne _ (show b + 2 ≠ b by omega)]; rfl) ?_
  refine x_iconst (pc := 45) hC dX5_resemble_45 ?_
  refine x_istore_n (L' := [_, _, _]) (pc := 46) hC dX5_resemble_46 rfl rfl ?_
  refine X.mem ?_ (loop 6 0 (by omega) (by omega))
  rw [mz0_0, sw_id' (p := b + 3) (f := σ (b + 3)) (by rw [sw_ne _ (by omega), sw_ne _ (by omega), sw_ne _ (by omega)])]

set_option maxHeartbeats 4000000 in
set_option maxRecDepth 100000 in
theorem c_after (E : xE) {σ : xM} {ρ : xR} {ks : xKs} (hw : WK ks ρ) {z : zS} (hz : HZ σ ρ ks 1 z) (hpl : PlOk z) {mask n : Int} (hm : 0 ≤ mask ∧ mask ≤ 15) (hn : 0 ≤ n ∧ n ≤ 60) (ht : z 0 + 100 < 900000) : Sp E yX11_after kX11_after 5 0 0 [.ref 0, .int (iI mask), .int (iI n)] σ ρ ks (fun r σ' ρ' ks' => r = some (.ref 37) ∧ Nx σ σ' ∧ ρ' = ρ ∧ ks' = ks ∧ SZ σ' 37 38 (passF mask z n.toNat) ∧ σ' 41 = passM mask z (m0F (σ 41)) n.toNat) := by
  obtain ⟨w0, w43, ⟨wr0, wr1, wr3, wr4, wr5⟩, wh, wk, wn, wt⟩ := id hw
  have hk := wh.hk
  obtain ⟨k1, k2, r0, r2, hs3⟩ := id hk
  have hfs := hz.fans
  have hsz := hz.sit
  obtain ⟨⟨hz1, -⟩, -, ⟨rq, hrq, hrq2, hrm⟩, hz4, ⟨hz6, -⟩, hz7, hz8, ⟨hz10, -⟩, ⟨hz12, -⟩, ⟨hz14, -⟩⟩ := id hz
  have hfan := hpl.1
  have hsit := hpl.2.1
  have h13 := hpl.1.1
  have h14 := hpl.2.1.1
  have hz00 := hpl.2.2.2
  obtain ⟨n0, ⟨n1, n2, n3, n4, n5⟩, m0, m1, m2, m3, m4⟩ := id wn
  refine x_enter (own := RX11) (L := [_, _, _]) (by decide +kernel) rfl (by exact Nat.le_of_ble_eq_true rfl) rfl (fun p e R s m args below meth c Z hZ hC hR hin => ?_)
  refine x_aload_n (pc := 0) hC dX11_after_0 rfl ?_
  refine x_getr (K := 3) (pc := 1) hC fX11_28_11 (by assumption) dX11_after_1 rfl rfl (by assumption) ?_
  refine x_aload_n (pc := 4) hC dX11_after_4 rfl ?_
  refine x_getr (K := 0) (pc := 5) hC fX11_12_11 (by assumption) dX11_after_5 rfl rfl (by assumption) ?_
  refine x_getr (K := 2) (pc := 8) hC fX11_108_1 (by assumption) dX11_after_8 rfl rfl (by assumption) ?_
  refine x_callV (As := [_]) (Bs := [_]) (pc := 11) hC (c_resembleS E wn hs3 (by omega) hsz hsit) wX11_177_5 pX5_resemble (by assumption) rfl rfl (by exact Nat.le_of_ble_eq_true rfl) hR (by decide) (by decide) (by decide) rfl dX11_after_11 (fun r11 σ11 ρ11 ks11 q11 => ?_)
  obtain ⟨rfl, rfl, rfl, g1, g2, g3, g4⟩ := q11
  have hnx : Nx σ σ11 := fun p hp => g1 p (by omega) (by omega) (by omega) (by omega) (by omega)
  have hfs1 : FansAt σ11 ρ11 ks11 z := ((hz.nx (by decide) hnx)).fans
  have hrm1 : RmP σ11 ρ11 ks11 rq z := hrm.mem (fun p p1 p2 => hnx p (by have := (List.getElem?_eq_some_iff.mp hrm.1.2.1.2.2.2.2).1; omega)) rfl (fun _ _ _ => rfl)
  refine x_aload_n (pc := 14) hC dX11_after_14 rfl ?_
  refine x_getr (K := 0) (pc := 15) hC fX11_12_11 (by assumption) dX11_after_15 rfl rfl (by assumption) ?_
  refine x_aload_n (pc := 18) hC dX11_after_18 rfl ?_
  refine x_getr (K := 3) (pc := 19) hC fX11_28_11 (by assumption) dX11_after_19 rfl rfl (by assumption) ?_
  refine x_iload_n (pc := 22) hC dX11_after_22 rfl ?_
  refine x_aload_n (pc := 23) hC dX11_after_23 rfl ?_
  refine x_getr (K := 0) (pc := 24) hC fX11_12_11 (by assumption) dX11_after_24 rfl rfl (by assumption) ?_
  refine x_geti (K := 7) (pc := 27) hC fX11_105_1 (by assumption) dX11_after_27 rfl rfl ?_
  refine x_iload_n (pc := 30) hC dX11_after_30 rfl ?_
  refine x_callV (As := [_, _, _, _]) (Bs := [_, _, _, _]) (pc := 31) hC (c_pass E hk hfs1 hpl hrq hrm1 wn g3 hm (by rw [hnx 1 (by omega)]; exact hz7.symm) (by rw [hnx 1 (by omega)]; omega) hn) wX11_160_1 pX1_pass (by assumption) rfl rfl (by exact Nat.le_of_ble_eq_true rfl) hR (by decide) (by decide) (by decide) rfl dX11_after_31 (fun r31 σ31 ρ31 ks31 q31 => ?_)
  obtain ⟨rfl, rfl, rfl, f1, f2, f3⟩ := q31
  have hnx2 : Nx σ σ31 := fun p hp => (f1 p (by omega) (by omega) (by omega) (by omega)).trans (hnx p hp)
  refine x_aload_n (pc := 34) hC dX11_after_34 rfl ?_
  refine x_getr (K := 3) (pc := 35) hC fX11_28_11 (by assumption) dX11_after_35 rfl rfl (by assumption) ?_
  refine x_areturn hC (some _) rfl hZ dX11_after_38 (by decide) (by decide) ?_
  exact ⟨rfl, hnx2, rfl, rfl, f2, by rw [f3, g4]⟩
