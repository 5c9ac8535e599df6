def RuleOk (z : zS) : Prop := (0 ≤ z 17 ∧ z 17 ≤ 4) ∧ ∀ k, 0 ≤ k → k < z 17 → (-1 ≤ z (86 + k) ∧ z (86 + k) < z 13) ∧ (1 ≤ z (90 + k) ∧ z (90 + k) ≤ 20)
def suF (z : zS) (k : Int) : Nat → Int
  | 0 => 0
  | m + 1 => z (90 + k) + suF z (k + 1) m
theorem suF_s (z : zS) : ∀ (m : Nat) (k : Int), suF z k (m + 1) = suF z k m + z (90 + k + m)
  | 0, k => by show z (90 + k) + 0 = 0 + z (90 + k + ((0 : Nat) : Int)); simp
  | m + 1, k => by
    show z (90 + k) + suF z (k + 1) (m + 1) = z (90 + k) + suF z (k + 1) m + z (90 + k + ((m + 1 : Nat) : Int))
    rw [suF_s z m (k + 1), show 90 + (k + 1) + (m : Int) = 90 + k + ((m + 1 : Nat) : Int) by omega]; omega
theorem suF_in {z : zS} (h : RuleOk z) : ∀ (m : Nat) (k : Int), 0 ≤ k → k + m ≤ z 17 → m ≤ suF z k m ∧ suF z k m ≤ 20 * m
  | 0, _, _, _ => by simp [suF]
  | m + 1, k, h0, h1 => by
    have := suF_in h m (k + 1) (by omega) (by omega)
    have := (h.2 k h0 (by omega)).2
    unfold suF; omega
def rlG (z : zS) : Nat → Int → Int → Int
  | 0, k, _ => z (86 + k)
  | m + 1, k, r => if z (90 + k) ≤ r then rlG z m (k + 1) (r - z (90 + k)) else z (86 + k)
def rlF (z : zS) (i : Int) : Int := rlG z (z 17).toNat 0 (i % suF z 0 (z 17).toNat)
theorem rlG_in {z : zS} (h : RuleOk z) : ∀ (m : Nat) (k r : Int), 0 ≤ k → k + m = z 17 → 0 ≤ r → r < suF z k m → -1 ≤ rlG z m k r ∧ rlG z m k r < z 13
  | 0, k, r, h0, h1, h2, h3 => by simp only [suF] at h3; omega
  | m + 1, k, r, h0, h1, h2, h3 => by
    unfold rlG
    have hk := h.2 k h0 (by omega)
    simp only [suF] at h3
    split
    · exact rlG_in h m (k + 1) _ (by omega) (by omega) (by omega) (by omega)
    · exact hk.1
theorem rlF_in {z : zS} (h : RuleOk z) (h17 : 0 < z 17) {i : Int} (hi : 0 ≤ i) : -1 ≤ rlF z i ∧ rlF z i < z 13 := by
  have hs := suF_in h (z 17).toNat 0 (by omega) (by omega)
  have hm := emod_in (t := i) (d := suF z 0 (z 17).toNat) (by omega)
  exact rlG_in h _ 0 _ (by omega) (by omega) hm.1 hm.2
theorem suF_congr {z z' : zS} (h : ∀ j, 13 ≤ j → z' j = z j) : ∀ (m : Nat) (k : Int), 0 ≤ k → suF z' k m = suF z k m
  | 0, _, _ => rfl
  | m + 1, k, h0 => by unfold suF; rw [h _ (by omega), suF_congr h m (k + 1) (by omega)]
theorem rlG_congr {z z' : zS} (h : ∀ j, 13 ≤ j → z' j = z j) : ∀ (m : Nat) (k r : Int), 0 ≤ k → rlG z' m k r = rlG z m k r
  | 0, _, _, _ => h _ (by omega)
  | m + 1, k, r, h0 => by unfold rlG; rw [h _ (by omega), h _ (by omega), rlG_congr h m (k + 1) _ (by omega)]
theorem rlF_congr {z z' : zS} (h : ∀ j, 13 ≤ j → z' j = z j) (i : Int) : rlF z' i = rlF z i := by
  unfold rlF; rw [h 17 (by decide), suF_congr h _ _ (by omega), rlG_congr h _ _ _ (by omega)]
theorem RuleOk.congr {z z' : zS} (h : ∀ j, 13 ≤ j → z' j = z j) (hr : RuleOk z) : RuleOk z' := by
  refine ⟨by rw [h 17 (by decide)]; exact hr.1, fun k k0 k1 => ?_⟩
  rw [h 17 (by decide)] at k1
  rw [h (86 + k) (by omega), h (90 + k) (by omega), h 13 (by decide)]
  exact hr.2 k k0 k1
def rulR : Nat → zS → Int × Int := fun i y => (if rlF y i = -1 then 0 else reachF y (rlF y i) (y 0), if rlF y i = -1 then 0 else 1)
def rulC (z : zS) : Nat → Int
  | 0 => 0
  | i + 1 => rulC z i + (if 0 < i ∧ rlF z ((i : Int) - 1) ≠ rlF z i then 1 else 0)
theorem rulC_in (z : zS) : ∀ n : Nat, 0 ≤ rulC z n ∧ rulC z n ≤ n
  | 0 => by simp [rulC]
  | n + 1 => by have := rulC_in z n; unfold rulC; split <;> omega
def ruledA (z : zS) (n w : Int) : Int := if ¬ (0 ≤ w ∧ w ≤ 1) then -1 else if ¬ (1 ≤ n ∧ n ≤ 60) then -2 else if z 17 = 0 ∨ z 14 = 0 then -5 else if w = 0 then greatF (sqF rulR z n.toNat) (z 14).toNat else rulC z n.toNat
set_option maxHeartbeats 4000000 in
set_option maxRecDepth 100000 in
theorem s_ruledAt (E : xE) {σ : xM} {ρ : xR} {ks : xKs} (hk : MK ks) (hw : MW ρ) {q : Int} (hru : RuleOk (σ 47)) (h17 : 0 < σ 47 17) (hq : 0 ≤ q ∧ q ≤ 1000) (hfr : σ 47 13 ≤ 4) : Sp E yX12_ruledAt kX12_ruledAt 0 0 0 [.ref 46, .int (iI q)] σ ρ ks (Fn (some (.int (iI (rlF (σ 47) q)))) (σ) ρ ks) := by
  obtain ⟨k46, k47, k48, k49, k50, k51, k52, k53, k54⟩ := id hk
  obtain ⟨w1, w2, w3, w10, w11, w14, w15, w16⟩ := id hw
  refine x_enter (own := RX12) (L := [_, _, _, _, _]) (by decide +kernel) rfl (by exact Nat.le_of_ble_eq_true rfl) rfl (fun p e R s m args below meth c Z hZ hC hR hin => ?_)
  have h170 := hru.1
  have hss := suF_in hru (σ 47 17).toNat 0 (by omega) (by omega)
  have hmm := emod_in (t := q) (d := suF (σ 47) 0 (σ 47 17).toNat) (by omega)
  have loop2 : ∀ (i : Nat) (k r : Int), 0 ≤ k → k + i = σ 47 17 → 0 ≤ r → r ≤ 1000 → r < suF (σ 47) k i → rlG (σ 47) i k r = rlF (σ 47) q → X E p e R s m args below meth c Z 0 0 σ ρ ks 40 [some (.ref 46), some (.int (iI q)), some (.int (iI (suF (σ 47) 0 (σ 47 17).toNat))), some (.int (iI r)), some (.int (iI k))] [] := by
    intro i
    induction i with
    | zero =>
      intro k r hk0 hki hr0 hr1 hr2 he
      simp only [suF] at hr2
      exfalso; omega
    | succ i ih =>
      intro k r hk0 hki hr0 hr1 hr2 he
      obtain ⟨s1, s2⟩ := hru.2 k hk0 (by omega)
      simp only [suF] at hr2
      have he1 : (if σ 47 (90 + k) ≤ r then rlG (σ 47) i (k + 1) (r - σ 47 (90 + k)) else σ 47 (86 + k)) = rlF (σ 47) q := he
      refine x_iload_n (pc := 40) hC dX12_ruledAt_40 rfl ?_
      refine x_aload_n (pc := 41) hC dX12_ruledAt_41 rfl ?_
      refine x_getr (K := 1) (pc := 42) hC fX12_9_12 (by assumption) dX12_ruledAt_42 rfl rfl (by assumption) ?_
      refine x_bipush (pc := 45) hC dX12_ruledAt_45 (by decide +kernel) ?_
      refine x_iload (pc := 47) hC dX12_ruledAt_47 rfl ?_
      refine x_iadd (pc := 49) hC dX12_ruledAt_49 ?_
      refine x_iald (pc := 50) hC (by assumption) (by omega) dX12_ruledAt_50 ?_
      refine x_icmp_lt (tgt := 73) (pc := 51) hC (by omega) (by omega) dX12_ruledAt_51 (by decide) (fun c51 => ?_) (fun c51 => ?_)
      · refine x_aload_n (pc := 73) hC dX12_ruledAt_73 rfl ?_
        refine x_getr (K := 1) (pc := 74) hC fX12_9_12 (by assumption) dX12_ruledAt_74 rfl rfl (by assumption) ?_
        refine x_bipush (pc := 77) hC dX12_ruledAt_77 (by decide +kernel) ?_
        refine x_iload (pc := 79) hC dX12_ruledAt_79 rfl ?_
        refine x_iadd (pc := 81) hC dX12_ruledAt_81 ?_
        refine x_iald (pc := 82) hC (by assumption) (by omega) dX12_ruledAt_82 ?_
        refine x_ireturn hC hZ dX12_ruledAt_83 (by decide) (by decide) ?_
        rw [if_neg (by omega)] at he1
        exact ⟨congrArg (fun z => some (Value.int (iI z))) (by exact he1), rfl, rfl, rfl⟩
      · refine x_iload_n (pc := 54) hC dX12_ruledAt_54 rfl ?_
        refine x_aload_n (pc := 55) hC dX12_ruledAt_55 rfl ?_
        refine x_getr (K := 1) (pc := 56) hC fX12_9_12 (by assumption) dX12_ruledAt_56 rfl rfl (by assumption) ?_
        refine x_bipush (pc := 59) hC dX12_ruledAt_59 (by decide +kernel) ?_
        refine x_iload (pc := 61) hC dX12_ruledAt_61 rfl ?_
        refine x_iadd (pc := 63) hC dX12_ruledAt_63 ?_
        refine x_iald (pc := 64) hC (by assumption) (by omega) dX12_ruledAt_64 ?_
        refine x_isub (pc := 65) hC dX12_ruledAt_65 ?_
        refine x_istore_n (L' := [_, _, _, _, _]) (pc := 66) hC dX12_ruledAt_66 rfl rfl ?_
        refine x_iinc (L' := [_, _, _, _, _]) (pc := 67) hC dX12_ruledAt_67 rfl rfl rfl ?_
        refine x_goto (tgt := 40) (pc := 70) hC dX12_ruledAt_70 (by decide) ?_
        rw [if_pos (by omega)] at he1
        exact ih (k + 1) _ (by omega) (by omega) (by omega) (by omega) (by omega) he1
  have loop : ∀ (i k : Nat) (j a : Int), j = k → (k : Int) + i = σ 47 17 → a = suF (σ 47) 0 k → X E p e R s m args below meth c Z 0 0 σ ρ ks 4 [some (.ref 46), some (.int (iI q)), some (.int (iI a)), some (.int (iI j)), none] [] := by
    intro i
    induction i with
    | zero =>
      intro k j a hj hi ha
      have hkk : k = (σ 47 17).toNat := by omega
      subst hkk
      subst ha
      refine x_iload_n (pc := 4) hC dX12_ruledAt_4 rfl ?_
      refine x_aload_n (pc := 5) hC dX12_ruledAt_5 rfl ?_
      refine x_getr (K := 1) (pc := 6) hC fX12_9_12 (by assumption) dX12_ruledAt_6 rfl rfl (by assumption) ?_
      refine x_bipush (pc := 9) hC dX12_ruledAt_9 (by decide +kernel) ?_
      refine x_iald (pc := 11) hC (by assumption) (by omega) dX12_ruledAt_11 ?_
      refine x_icmp_ge (tgt := 33) (pc := 12) hC (by omega) (by omega) dX12_ruledAt_12 (by decide) (fun c12 => ?_) (fun c12 => by (exfalso; omega))
      refine x_iload_n (pc := 33) hC dX12_ruledAt_33 rfl ?_
      refine x_iload_n (pc := 34) hC dX12_ruledAt_34 rfl ?_
      refine x_irem (pc := 35) hC (by omega) dX12_ruledAt_35 ?_
      refine x_istore_n (L' := [_, _, _, _, _]) (pc := 36) hC dX12_ruledAt_36 rfl rfl ?_
      refine x_iconst (pc := 37) hC dX12_ruledAt_37 ?_
      refine x_istore (L' := [_, _, _, _, _]) (pc := 38) hC dX12_ruledAt_38 rfl rfl ?_
      exact loop2 (σ 47 17).toNat 0 _ (by omega) (by omega) (by omega) (by omega) (by omega) rfl
    | succ i ih =>
      intro k j a hj hi ha
      obtain ⟨s1, s2⟩ := hru.2 j (by omega) (by omega)
      have hsk := suF_in hru k 0 (by omega) (by omega)
      rw [← ha] at hsk
      refine x_iload_n (pc := 4) hC dX12_ruledAt_4 rfl ?_
      refine x_aload_n (pc := 5) hC dX12_ruledAt_5 rfl ?_
      refine x_getr (K := 1) (pc := 6) hC fX12_9_12 (by assumption) dX12_ruledAt_6 rfl rfl (by assumption) ?_
      refine x_bipush (pc := 9) hC dX12_ruledAt_9 (by decide +kernel) ?_
      refine x_iald (pc := 11) hC (by assumption) (by omega) dX12_ruledAt_11 ?_
      refine x_icmp_ge (tgt := 33) (pc := 12) hC (by omega) (by omega) dX12_ruledAt_12 (by decide) (fun c12 => by (exfalso; omega)) (fun c12 => ?_)
      refine x_iload_n (pc := 15) hC dX12_ruledAt_15 rfl ?_
      refine x_aload_n (pc := 16) hC dX12_ruledAt_16 rfl ?_
      refine x_getr (K := 1) (pc := 17) hC fX12_9_12 (by assumption) dX12_ruledAt_17 rfl rfl (by assumption) ?_
      refine x_bipush (pc := 20) hC dX12_ruledAt_20 (by decide +kernel) ?_
      refine x_iload_n (pc := 22) hC dX12_ruledAt_22 rfl ?_
      refine x_iadd (pc := 23) hC dX12_ruledAt_23 ?_
      refine x_iald (pc := 24) hC (by assumption) (by omega) dX12_ruledAt_24 ?_
      refine x_iadd (pc := 25) hC dX12_ruledAt_25 ?_
      refine x_istore_n (L' := [_, _, _, _, _]) (pc := 26) hC dX12_ruledAt_26 rfl rfl ?_
      refine x_iinc (L' := [_, _, _, _, _]) (pc := 27) hC dX12_ruledAt_27 rfl rfl rfl ?_
      refine x_goto (tgt := 4) (pc := 30) hC dX12_ruledAt_30 (by decide) ?_
      refine ih (k + 1) (j + 1) _ (by omega) (by omega) ?_
      rw [suF_s, ← ha, hj, Int.add_zero]
  refine x_iconst (pc := 0) hC dX12_ruledAt_0 ?_
  refine x_istore_n (L' := [_, _, _, _, _]) (pc := 1) hC dX12_ruledAt_1 rfl rfl ?_
  refine x_iconst (pc := 2) hC dX12_ruledAt_2 ?_
  refine x_istore_n (L' := [_, _, _, _, _]) (pc := 3) hC dX12_ruledAt_3 rfl rfl ?_
  exact loop (σ 47 17).toNat 0 0 0 rfl (by omega) rfl

set_option maxHeartbeats 4000000 in
set_option maxRecDepth 100000 in
theorem s_ruled (E : xE) {σ : xM} {ρ : xR} {ks : xKs} (hk : MK ks) (hw : MW ρ) {n w : Int} (hn : rg n) (hw0 : rg w) (hru : RuleOk (σ 47)) (hpl : PlOk (σ 47)) (ht : σ 47 0 + 100 < 900000) : Sp E yX12_ruled kX12_ruled 5 0 0 [.ref 46, .int (iI n), .int (iI w)] σ ρ ks (fun r σ' ρ' ks' => r = some (.int (iI (ruledA (σ 47) n w))) ∧ Ask σ σ' ∧ ρ' = ρ ∧ ks' = ks) := by
  obtain ⟨k46, k47, k48, k49, k50, k51, k52, k53, k54⟩ := id hk
  obtain ⟨w1, w2, w3, w10, w11, w14, w15, w16⟩ := id hw
  refine x_enter (own := RX12) (L := [_, _, _, _, _, _]) (by decide +kernel) rfl (by exact Nat.le_of_ble_eq_true rfl) rfl (fun p e R s m args below meth c Z hZ hC hR hin => ?_)
  have hs14 := hpl.2.1.1
  have hf13 := hpl.1.1
  have hr17 := hru.1
  have loop : (0 ≤ w ∧ w ≤ 1) → (1 ≤ n ∧ n ≤ 60) → 0 < σ 47 17 → 0 < σ 47 14 → ∀ (i k : Nat) (j a : Int) (μ : xM), j = k → i + k = n.toNat → Sc (sw σ 49 (cp49 σ 13)) μ → μ 47 = sqF rulR (σ 47) k → a = rulC (σ 47) k → X E p e R s m args below meth c Z 0 0 μ ρ ks 56 [some (.ref 46), some (.int (iI n)), some (.int (iI w)), some (.int (iI a)), some (.int (iI j)), none] [] := by
    intro hw1 hn1 h17 h140 i
    induction i with
    | zero =>
      intro k j a μ hj hi hsc h47 hrc
      obtain ⟨hp, h0, hout⟩ := sq_pl (rulR) hpl k (by omega)
      rw [← h47] at hp h0 hout
      obtain ⟨g1, g2, g3, g4⟩ := id hp
      have h14 := hout 14 (by decide)
      refine x_iload (pc := 56) hC dX12_ruled_56 rfl ?_
      refine x_iload_n (pc := 58) hC dX12_ruled_58 rfl ?_
      refine x_icmp_ge (tgt := 139) (pc := 59) hC (by omega) (by omega) dX12_ruled_59 (by decide) (fun c59 => ?_) (fun c59 => by (exfalso; omega))
      refine x_aload_n (pc := 139) hC dX12_ruled_139 rfl ?_
      refine x_callV1 (As := []) (Bs := []) (pc := 140) hC (s_greatest E hk hw g2) wX12_187_12 pX12_greatest (by assumption) rfl rfl (by exact Nat.le_of_ble_eq_true rfl) hR (by decide) (by decide) (by decide) rfl dX12_ruled_140 ?_
      refine x_istore (L' := [_, _, _, _, _, _]) (pc := 143) hC dX12_ruled_143 rfl rfl ?_
      refine x_aload_n (pc := 145) hC dX12_ruled_145 rfl ?_
      refine x_callV0 (As := []) (Bs := []) (pc := 146) hC (s_goesBack E hk hw) wX12_193_12 pX12_goesBack (by assumption) rfl rfl (by exact Nat.le_of_ble_eq_true rfl) hR (by decide) (by decide) (by decide) rfl dX12_ruled_146 ?_
      refine x_iload_n (pc := 149) hC dX12_ruled_149 rfl ?_
      refine x_if_ne (tgt := 158) (pc := 150) hC (by omega) dX12_ruled_150 (by decide) (fun c150 => ?_) (fun c150 => ?_)
      · refine x_iload_n (pc := 158) hC dX12_ruled_158 rfl ?_
        refine x_ireturn hC hZ dX12_ruled_159 (by decide) (by decide) ?_
        exact ⟨congrArg (fun z => some (Value.int (iI z))) (by rw [ruledA, if_neg (by omega), if_neg (by omega), if_neg (by omega), if_neg (by omega), hrc, show k = n.toNat by omega]), back_ok hsc hout, rfl, rfl⟩
      · refine x_iload (pc := 153) hC dX12_ruled_153 rfl ?_
        refine x_goto (tgt := 159) (pc := 155) hC dX12_ruled_155 (by decide) ?_
        refine x_ireturn hC hZ dX12_ruled_159 (by decide) (by decide) ?_
        exact ⟨congrArg (fun z => some (Value.int (iI z))) (by rw [ruledA, if_neg (by omega), if_neg (by omega), if_neg (by omega), if_pos (by omega), h14, h47, show k = n.toNat by omega]), back_ok hsc hout, rfl, rfl⟩
    | succ i ih =>
      intro k j a μ hj hi hsc h47 hrc
      obtain ⟨hp, h0, hout⟩ := sq_pl (rulR) hpl k (by omega)
      rw [← h47] at hp h0 hout
      obtain ⟨g1, g2, g3, g4⟩ := id hp
      have h14 := hout 14 (by decide)
      have hcg : ∀ i : Int, rlF (μ 47) i = rlF (σ 47) i := fun i => rlF_congr (fun j hj => hout j (Or.inl hj)) i
      have hru2 : RuleOk (μ 47) := hru.congr (fun j hj => hout j (Or.inl hj))
      have h17m := hout 17 (by decide)
      have h13m := hout 13 (by decide)
      have hrc2 := rulC_in (σ 47) k
      have hri := rlF_in hru h17 (i := j) (by omega)
      have hri2 : 0 < j → -1 ≤ rlF (σ 47) (j - 1) ∧ rlF (σ 47) (j - 1) < σ 47 13 := fun h => rlF_in hru h17 (i := j - 1) (by omega)
      refine x_iload (pc := 56) hC dX12_ruled_56 rfl ?_
      refine x_iload_n (pc := 58) hC dX12_ruled_58 rfl ?_
      refine x_icmp_ge (tgt := 139) (pc := 59) hC (by omega) (by omega) dX12_ruled_59 (by decide) (fun c59 => by (exfalso; omega)) (fun c59 => ?_)
      refine x_aload_n (pc := 62) hC dX12_ruled_62 rfl ?_
      refine x_iload (pc := 63) hC dX12_ruled_63 rfl ?_
      refine x_callV1 (As := [_]) (Bs := [_]) (pc := 65) hC (s_ruledAt E hk hw hru2 (by omega) (by omega) (by omega)) wX12_237_12 pX12_ruledAt (by assumption) rfl rfl (by exact Nat.le_of_ble_eq_true rfl) hR (by decide) (by decide) (by decide) rfl dX12_ruled_65 ?_
      rw [hcg]
      refine x_istore (L' := [_, _, _, _, _, _]) (pc := 68) hC dX12_ruled_68 rfl rfl ?_
      refine x_iload_n (pc := 70) hC dX12_ruled_70 rfl ?_
      refine x_iload (pc := 71) hC dX12_ruled_71 rfl ?_
      refine x_if_le (tgt := 93) (pc := 73) hC (by omega) dX12_ruled_73 (by decide) (fun c73 => ?_) (fun c73 => ?_)
      · refine x_iconst (pc := 93) hC dX12_ruled_93 ?_
        refine x_iadd (pc := 94) hC dX12_ruled_94 ?_
        refine x_istore_n (L' := [_, _, _, _, _, _]) (pc := 95) hC dX12_ruled_95 rfl rfl ?_
        refine x_aload_n (pc := 96) hC dX12_ruled_96 rfl ?_
        refine x_iload (pc := 97) hC dX12_ruled_97 rfl ?_
        refine x_iconst (pc := 99) hC dX12_ruled_99 ?_
        refine x_icmp_ne (tgt := 107) (pc := 100) hC (by omega) (by omega) dX12_ruled_100 (by decide) (fun c100 => ?_) (fun c100 => ?_)
        · refine x_aload_n (pc := 107) hC dX12_ruled_107 rfl ?_
          refine x_iload (pc := 108) hC dX12_ruled_108 rfl ?_
          refine x_aload_n (pc := 110) hC dX12_ruled_110 rfl ?_
          refine x_getr (K := 1) (pc := 111) hC fX12_9_12 (by assumption) dX12_ruled_111 rfl rfl (by assumption) ?_
          refine x_iconst (pc := 114) hC dX12_ruled_114 ?_
          refine x_iald (pc := 115) hC (by assumption) (by omega) dX12_ruled_115 ?_
          refine x_callV1 (As := [_, _]) (Bs := [_, _]) (pc := 116) hC (s_reaches E hk hw (g1.2 _ (by omega) (by omega)) g2 (by omega) (by omega)) wX12_154_12 pX12_reaches (by assumption) rfl rfl (by exact Nat.le_of_ble_eq_true rfl) hR (by decide) (by decide) (by decide) rfl dX12_ruled_116 ?_
          refine x_iload (pc := 119) hC dX12_ruled_119 rfl ?_
          refine x_iconst (pc := 121) hC dX12_ruled_121 ?_
          refine x_icmp_ne (tgt := 129) (pc := 122) hC (by omega) (by omega) dX12_ruled_122 (by decide) (fun c122 => ?_) (fun c122 => ?_)
          · refine x_iconst (pc := 129) hC dX12_ruled_129 ?_
            refine x_callV (As := [_, _]) (Bs := [_, _]) (pc := 130) hC (s_goes E hk hw g3 g2 (by omega) (by omega)) wX12_177_12 pX12_goes (by assumption) rfl rfl (by exact Nat.le_of_ble_eq_true rfl) hR (by decide) (by decide) (by decide) rfl dX12_ruled_130 (fun r130 σ130 ρ130 ks130 q130 => ?_)
            obtain ⟨rfl, rfl, rfl, q1, q2, q3⟩ := q130
            refine x_iinc (L' := [_, _, _, _, _, _]) (pc := 133) hC dX12_ruled_133 rfl rfl rfl ?_
            refine x_goto (tgt := 56) (pc := 136) hC dX12_ruled_136 (by decide) ?_
            refine X.drop (xLe_s (xLe_s (xLe_s (xLe_s (xLe_s (xLe_n xLe_0)))))) (ih (k + 1) (j + 1) _ _ (by omega) (by omega) (hsc.trans q1) ?_ ?_)
            · have e1 : rlF (sqF rulR (σ 47) k) k = rlF (σ 47) k := by rw [← h47]; exact hcg k
              show _ = secF _ (if _ then _ else _) (if _ then _ else _)
              rw [if_neg (by rw [e1, ← hj]; exact c100), if_neg (by rw [e1, ← hj]; exact c100), q2, ← h47, hcg, hj]
            · show _ = _ + (if _ then _ else _)
              rw [← hrc, if_neg (fun h => by omega)]
          · refine x_iconst (pc := 125) hC dX12_ruled_125 ?_
            refine x_goto (tgt := 130) (pc := 126) hC dX12_ruled_126 (by decide) ?_
            refine x_callV (As := [_, _]) (Bs := [_, _]) (pc := 130) hC (s_goes E hk hw g3 g2 (by omega) (by omega)) wX12_177_12 pX12_goes (by assumption) rfl rfl (by exact Nat.le_of_ble_eq_true rfl) hR (by decide) (by decide) (by decide) rfl dX12_ruled_130 (fun r130 σ130 ρ130 ks130 q130 => ?_)
            obtain ⟨rfl, rfl, rfl, q1, q2, q3⟩ := q130
            refine x_iinc (L' := [_, _, _, _, _, _]) (pc := 133) hC dX12_ruled_133 rfl rfl rfl ?_
            refine x_goto (tgt := 56) (pc := 136) hC dX12_ruled_136 (by decide) ?_
            exfalso
            omega
        · refine x_iconst (pc := 103) hC dX12_ruled_103 ?_
          refine x_goto (tgt := 119) (pc := 104) hC dX12_ruled_104 (by decide) ?_
          refine x_iload (pc := 119) hC dX12_ruled_119 rfl ?_
          refine x_iconst (pc := 121) hC dX12_ruled_121 ?_
          refine x_icmp_ne (tgt := 129) (pc := 122) hC (by omega) (by omega) dX12_ruled_122 (by decide) (fun c122 => ?_) (fun c122 => ?_)
          · refine x_iconst (pc := 129) hC dX12_ruled_129 ?_
            refine x_callV (As := [_, _]) (Bs := [_, _]) (pc := 130) hC (s_goes E hk hw g3 g2 (by omega) (by omega)) wX12_177_12 pX12_goes (by assumption) rfl rfl (by exact Nat.le_of_ble_eq_true rfl) hR (by decide) (by decide) (by decide) rfl dX12_ruled_130 (fun r130 σ130 ρ130 ks130 q130 => ?_)
            obtain ⟨rfl, rfl, rfl, q1, q2, q3⟩ := q130
            refine x_iinc (L' := [_, _, _, _, _, _]) (pc := 133) hC dX12_ruled_133 rfl rfl rfl ?_
            refine x_goto (tgt := 56) (pc := 136) hC dX12_ruled_136 (by decide) ?_
            exfalso
            omega
          · refine x_iconst (pc := 125) hC dX12_ruled_125 ?_
            refine x_goto (tgt := 130) (pc := 126) hC dX12_ruled_126 (by decide) ?_
            refine x_callV (As := [_, _]) (Bs := [_, _]) (pc := 130) hC (s_goes E hk hw g3 g2 (by omega) (by omega)) wX12_177_12 pX12_goes (by assumption) rfl rfl (by exact Nat.le_of_ble_eq_true rfl) hR (by decide) (by decide) (by decide) rfl dX12_ruled_130 (fun r130 σ130 ρ130 ks130 q130 => ?_)
            obtain ⟨rfl, rfl, rfl, q1, q2, q3⟩ := q130
            refine x_iinc (L' := [_, _, _, _, _, _]) (pc := 133) hC dX12_ruled_133 rfl rfl rfl ?_
            refine x_goto (tgt := 56) (pc := 136) hC dX12_ruled_136 (by decide) ?_
            refine X.drop (xLe_s (xLe_s (xLe_s (xLe_s (xLe_s (xLe_n xLe_0)))))) (ih (k + 1) (j + 1) _ _ (by omega) (by omega) (hsc.trans q1) ?_ ?_)
            · have e1 : rlF (sqF rulR (σ 47) k) k = rlF (σ 47) k := by rw [← h47]; exact hcg k
              show _ = secF _ (if _ then _ else _) (if _ then _ else _)
              rw [if_pos (by rw [e1, ← hj]; omega), if_pos (by rw [e1, ← hj]; omega), q2, ← h47]
            · show _ = _ + (if _ then _ else _)
              rw [← hrc, if_neg (fun h => by omega)]
      · refine x_aload_n (pc := 76) hC dX12_ruled_76 rfl ?_
        refine x_iload (pc := 77) hC dX12_ruled_77 rfl ?_
        refine x_iconst (pc := 79) hC dX12_ruled_79 ?_
        refine x_isub (pc := 80) hC dX12_ruled_80 ?_
        refine x_callV1 (As := [_]) (Bs := [_]) (pc := 81) hC (s_ruledAt E hk hw hru2 (by omega) (by omega) (by omega)) wX12_237_12 pX12_ruledAt (by assumption) rfl rfl (by exact Nat.le_of_ble_eq_true rfl) hR (by decide) (by decide) (by decide) rfl dX12_ruled_81 ?_
        have hri2 := hri2 (by omega)
        rw [hcg]
        refine x_iload (pc := 84) hC dX12_ruled_84 rfl ?_
        refine x_icmp_eq (tgt := 93) (pc := 86) hC (by omega) (by omega) dX12_ruled_86 (by decide) (fun c86 => ?_) (fun c86 => ?_)
        · refine x_iconst (pc := 93) hC dX12_ruled_93 ?_
          refine x_iadd (pc := 94) hC dX12_ruled_94 ?_
          refine x_istore_n (L' := [_, _, _, _, _, _]) (pc := 95) hC dX12_ruled_95 rfl rfl ?_
          refine x_aload_n (pc := 96) hC dX12_ruled_96 rfl ?_
          refine x_iload (pc := 97) hC dX12_ruled_97 rfl ?_
          refine x_iconst (pc := 99) hC dX12_ruled_99 ?_
          refine x_icmp_ne (tgt := 107) (pc := 100) hC (by omega) (by omega) dX12_ruled_100 (by decide) (fun c100 => ?_) (fun c100 => ?_)
          · refine x_aload_n (pc := 107) hC dX12_ruled_107 rfl ?_
            refine x_iload (pc := 108) hC dX12_ruled_108 rfl ?_
            refine x_aload_n (pc := 110) hC dX12_ruled_110 rfl ?_
            refine x_getr (K := 1) (pc := 111) hC fX12_9_12 (by assumption) dX12_ruled_111 rfl rfl (by assumption) ?_
            refine x_iconst (pc := 114) hC dX12_ruled_114 ?_
            refine x_iald (pc := 115) hC (by assumption) (by omega) dX12_ruled_115 ?_
            refine x_callV1 (As := [_, _]) (Bs := [_, _]) (pc := 116) hC (s_reaches E hk hw (g1.2 _ (by omega) (by omega)) g2 (by omega) (by omega)) wX12_154_12 pX12_reaches (by assumption) rfl rfl (by exact Nat.le_of_ble_eq_true rfl) hR (by decide) (by decide) (by decide) rfl dX12_ruled_116 ?_
            refine x_iload (pc := 119) hC dX12_ruled_119 rfl ?_
            refine x_iconst (pc := 121) hC dX12_ruled_121 ?_
            refine x_icmp_ne (tgt := 129) (pc := 122) hC (by omega) (by omega) dX12_ruled_122 (by decide) (fun c122 => ?_) (fun c122 => ?_)
            · refine x_iconst (pc := 129) hC dX12_ruled_129 ?_
              refine x_callV (As := [_, _]) (Bs := [_, _]) (pc := 130) hC (s_goes E hk hw g3 g2 (by omega) (by omega)) wX12_177_12 pX12_goes (by assumption) rfl rfl (by exact Nat.le_of_ble_eq_true rfl) hR (by decide) (by decide) (by decide) rfl dX12_ruled_130 (fun r130 σ130 ρ130 ks130 q130 => ?_)
              obtain ⟨rfl, rfl, rfl, q1, q2, q3⟩ := q130
              refine x_iinc (L' := [_, _, _, _, _, _]) (pc := 133) hC dX12_ruled_133 rfl rfl rfl ?_
              refine x_goto (tgt := 56) (pc := 136) hC dX12_ruled_136 (by decide) ?_
              refine X.drop (xLe_s (xLe_s (xLe_s (xLe_s (xLe_s (xLe_n xLe_0)))))) (ih (k + 1) (j + 1) _ _ (by omega) (by omega) (hsc.trans q1) ?_ ?_)
              · have e1 : rlF (sqF rulR (σ 47) k) k = rlF (σ 47) k := by rw [← h47]; exact hcg k
                show _ = secF _ (if _ then _ else _) (if _ then _ else _)
                rw [if_neg (by rw [e1, ← hj]; exact c100), if_neg (by rw [e1, ← hj]; exact c100), q2, ← h47, hcg, hj]
              · show _ = _ + (if _ then _ else _)
                rw [← hrc, if_neg (fun h => h.2 (by rw [← hj]; exact c86))]
            · refine x_iconst (pc := 125) hC dX12_ruled_125 ?_
              refine x_goto (tgt := 130) (pc := 126) hC dX12_ruled_126 (by decide) ?_
              refine x_callV (As := [_, _]) (Bs := [_, _]) (pc := 130) hC (s_goes E hk hw g3 g2 (by omega) (by omega)) wX12_177_12 pX12_goes (by assumption) rfl rfl (by exact Nat.le_of_ble_eq_true rfl) hR (by decide) (by decide) (by decide) rfl dX12_ruled_130 (fun r130 σ130 ρ130 ks130 q130 => ?_)
              obtain ⟨rfl, rfl, rfl, q1, q2, q3⟩ := q130
              refine x_iinc (L' := [_, _, _, _, _, _]) (pc := 133) hC dX12_ruled_133 rfl rfl rfl ?_
              refine x_goto (tgt := 56) (pc := 136) hC dX12_ruled_136 (by decide) ?_
              exfalso
              omega
          · refine x_iconst (pc := 103) hC dX12_ruled_103 ?_
            refine x_goto (tgt := 119) (pc := 104) hC dX12_ruled_104 (by decide) ?_
            refine x_iload (pc := 119) hC dX12_ruled_119 rfl ?_
            refine x_iconst (pc := 121) hC dX12_ruled_121 ?_
            refine x_icmp_ne (tgt := 129) (pc := 122) hC (by omega) (by omega) dX12_ruled_122 (by decide) (fun c122 => ?_) (fun c122 => ?_)
            · refine x_iconst (pc := 129) hC dX12_ruled_129 ?_
              refine x_callV (As := [_, _]) (Bs := [_, _]) (pc := 130) hC (s_goes E hk hw g3 g2 (by omega) (by omega)) wX12_177_12 pX12_goes (by assumption) rfl rfl (by exact Nat.le_of_ble_eq_true rfl) hR (by decide) (by decide) (by decide) rfl dX12_ruled_130 (fun r130 σ130 ρ130 ks130 q130 => ?_)
              obtain ⟨rfl, rfl, rfl, q1, q2, q3⟩ := q130
              refine x_iinc (L' := [_, _, _, _, _, _]) (pc := 133) hC dX12_ruled_133 rfl rfl rfl ?_
              refine x_goto (tgt := 56) (pc := 136) hC dX12_ruled_136 (by decide) ?_
              exfalso
              omega
            · refine x_iconst (pc := 125) hC dX12_ruled_125 ?_
              refine x_goto (tgt := 130) (pc := 126) hC dX12_ruled_126 (by decide) ?_
              refine x_callV (As := [_, _]) (Bs := [_, _]) (pc := 130) hC (s_goes E hk hw g3 g2 (by omega) (by omega)) wX12_177_12 pX12_goes (by assumption) rfl rfl (by exact Nat.le_of_ble_eq_true rfl) hR (by decide) (by decide) (by decide) rfl dX12_ruled_130 (fun r130 σ130 ρ130 ks130 q130 => ?_)
              obtain ⟨rfl, rfl, rfl, q1, q2, q3⟩ := q130
              refine x_iinc (L' := [_, _, _, _, _, _]) (pc := 133) hC dX12_ruled_133 rfl rfl rfl ?_
              refine x_goto (tgt := 56) (pc := 136) hC dX12_ruled_136 (by decide) ?_
              refine X.drop (xLe_s (xLe_s (xLe_s (xLe_s (xLe_s (xLe_n xLe_0)))))) (ih (k + 1) (j + 1) _ _ (by omega) (by omega) (hsc.trans q1) ?_ ?_)
              · have e1 : rlF (sqF rulR (σ 47) k) k = rlF (σ 47) k := by rw [← h47]; exact hcg k
                show _ = secF _ (if _ then _ else _) (if _ then _ else _)
                rw [if_pos (by rw [e1, ← hj]; omega), if_pos (by rw [e1, ← hj]; omega), q2, ← h47]
              · show _ = _ + (if _ then _ else _)
                rw [← hrc, if_neg (fun h => h.2 (by rw [← hj]; exact c86))]
        · refine x_iconst (pc := 89) hC dX12_ruled_89 ?_
          refine x_goto (tgt := 94) (pc := 90) hC dX12_ruled_90 (by decide) ?_
          refine x_iadd (pc := 94) hC dX12_ruled_94 ?_
          refine x_istore_n (L' := [_, _, _, _, _, _]) (pc := 95) hC dX12_ruled_95 rfl rfl ?_
          refine x_aload_n (pc := 96) hC dX12_ruled_96 rfl ?_
          refine x_iload (pc := 97) hC dX12_ruled_97 rfl ?_
          refine x_iconst (pc := 99) hC dX12_ruled_99 ?_
          refine x_icmp_ne (tgt := 107) (pc := 100) hC (by omega) (by omega) dX12_ruled_100 (by decide) (fun c100 => ?_) (fun c100 => ?_)
          · refine x_aload_n (pc := 107) hC dX12_ruled_107 rfl ?_
            refine x_iload (pc := 108) hC dX12_ruled_108 rfl ?_
            refine x_aload_n (pc := 110) hC dX12_ruled_110 rfl ?_
            refine x_getr (K := 1) (pc := 111) hC fX12_9_12 (by assumption) dX12_ruled_111 rfl rfl (by assumption) ?_
            refine x_iconst (pc := 114) hC dX12_ruled_114 ?_
            refine x_iald (pc := 115) hC (by assumption) (by omega) dX12_ruled_115 ?_
            refine x_callV1 (As := [_, _]) (Bs := [_, _]) (pc := 116) hC (s_reaches E hk hw (g1.2 _ (by omega) (by omega)) g2 (by omega) (by omega)) wX12_154_12 pX12_reaches (by assumption) rfl rfl (by exact Nat.le_of_ble_eq_true rfl) hR (by decide) (by decide) (by decide) rfl dX12_ruled_116 ?_
            refine x_iload (pc := 119) hC dX12_ruled_119 rfl ?_
            refine x_iconst (pc := 121) hC dX12_ruled_121 ?_
            refine x_icmp_ne (tgt := 129) (pc := 122) hC (by omega) (by omega) dX12_ruled_122 (by decide) (fun c122 => ?_) (fun c122 => ?_)
            · refine x_iconst (pc := 129) hC dX12_ruled_129 ?_
              refine x_callV (As := [_, _]) (Bs := [_, _]) (pc := 130) hC (s_goes E hk hw g3 g2 (by omega) (by omega)) wX12_177_12 pX12_goes (by assumption) rfl rfl (by exact Nat.le_of_ble_eq_true rfl) hR (by decide) (by decide) (by decide) rfl dX12_ruled_130 (fun r130 σ130 ρ130 ks130 q130 => ?_)
              obtain ⟨rfl, rfl, rfl, q1, q2, q3⟩ := q130
              refine x_iinc (L' := [_, _, _, _, _, _]) (pc := 133) hC dX12_ruled_133 rfl rfl rfl ?_
              refine x_goto (tgt := 56) (pc := 136) hC dX12_ruled_136 (by decide) ?_
              refine X.drop (xLe_s (xLe_s (xLe_s (xLe_s (xLe_s (xLe_n xLe_0)))))) (ih (k + 1) (j + 1) _ _ (by omega) (by omega) (hsc.trans q1) ?_ ?_)
              · have e1 : rlF (sqF rulR (σ 47) k) k = rlF (σ 47) k := by rw [← h47]; exact hcg k
                show _ = secF _ (if _ then _ else _) (if _ then _ else _)
                rw [if_neg (by rw [e1, ← hj]; exact c100), if_neg (by rw [e1, ← hj]; exact c100), q2, ← h47, hcg, hj]
              · show _ = _ + (if _ then _ else _)
                rw [← hrc, if_pos ⟨by omega, by rw [← hj]; exact c86⟩]
            · refine x_iconst (pc := 125) hC dX12_ruled_125 ?_
              refine x_goto (tgt := 130) (pc := 126) hC dX12_ruled_126 (by decide) ?_
              refine x_callV (As := [_, _]) (Bs := [_, _]) (pc := 130) hC (s_goes E hk hw g3 g2 (by omega) (by omega)) wX12_177_12 pX12_goes (by assumption) rfl rfl (by exact Nat.le_of_ble_eq_true rfl) hR (by decide) (by decide) (by decide) rfl dX12_ruled_130 (fun r130 σ130 ρ130 ks130 q130 => ?_)
              obtain ⟨rfl, rfl, rfl, q1, q2, q3⟩ := q130
              refine x_iinc (L' := [_, _, _, _, _, _]) (pc := 133) hC dX12_ruled_133 rfl rfl rfl ?_
              refine x_goto (tgt := 56) (pc := 136) hC dX12_ruled_136 (by decide) ?_
              exfalso
              omega
          · refine x_iconst (pc := 103) hC dX12_ruled_103 ?_
            refine x_goto (tgt := 119) (pc := 104) hC dX12_ruled_104 (by decide) ?_
            refine x_iload (pc := 119) hC dX12_ruled_119 rfl ?_
            refine x_iconst (pc := 121) hC dX12_ruled_121 ?_
            refine x_icmp_ne (tgt := 129) (pc := 122) hC (by omega) (by omega) dX12_ruled_122 (by decide) (fun c122 => ?_) (fun c122 => ?_)
            · refine x_iconst (pc := 129) hC dX12_ruled_129 ?_
              refine x_callV (As := [_, _]) (Bs := [_, _]) (pc := 130) hC (s_goes E hk hw g3 g2 (by omega) (by omega)) wX12_177_12 pX12_goes (by assumption) rfl rfl (by exact Nat.le_of_ble_eq_true rfl) hR (by decide) (by decide) (by decide) rfl dX12_ruled_130 (fun r130 σ130 ρ130 ks130 q130 => ?_)
              obtain ⟨rfl, rfl, rfl, q1, q2, q3⟩ := q130
              refine x_iinc (L' := [_, _, _, _, _, _]) (pc := 133) hC dX12_ruled_133 rfl rfl rfl ?_
              refine x_goto (tgt := 56) (pc := 136) hC dX12_ruled_136 (by decide) ?_
              exfalso
              omega
            · refine x_iconst (pc := 125) hC dX12_ruled_125 ?_
              refine x_goto (tgt := 130) (pc := 126) hC dX12_ruled_126 (by decide) ?_
              refine x_callV (As := [_, _]) (Bs := [_, _]) (pc := 130) hC (s_goes E hk hw g3 g2 (by omega) (by omega)) wX12_177_12 pX12_goes (by assumption) rfl rfl (by exact Nat.le_of_ble_eq_true rfl) hR (by decide) (by decide) (by decide) rfl dX12_ruled_130 (fun r130 σ130 ρ130 ks130 q130 => ?_)
              obtain ⟨rfl, rfl, rfl, q1, q2, q3⟩ := q130
              refine x_iinc (L' := [_, _, _, _, _, _]) (pc := 133) hC dX12_ruled_133 rfl rfl rfl ?_
              refine x_goto (tgt := 56) (pc := 136) hC dX12_ruled_136 (by decide) ?_
              refine X.drop (xLe_s (xLe_s (xLe_s (xLe_s (xLe_s (xLe_n xLe_0)))))) (ih (k + 1) (j + 1) _ _ (by omega) (by omega) (hsc.trans q1) ?_ ?_)
              · have e1 : rlF (sqF rulR (σ 47) k) k = rlF (σ 47) k := by rw [← h47]; exact hcg k
                show _ = secF _ (if _ then _ else _) (if _ then _ else _)
                rw [if_pos (by rw [e1, ← hj]; omega), if_pos (by rw [e1, ← hj]; omega), q2, ← h47]
              · show _ = _ + (if _ then _ else _)
                rw [← hrc, if_pos ⟨by omega, by rw [← hj]; exact c86⟩]
  refine x_iload_n (pc := 0) hC dX12_ruled_0 rfl ?_
  refine x_iconst (pc := 1) hC dX12_ruled_1 ?_
  refine x_iconst (pc := 2) hC dX12_ruled_2 ?_
  refine x_callS1 (As := [_, _, _]) (Bs := [_, _, _]) (pc := 3) hC (s_in E (by omega) (by omega) (by omega)) wX12_41 pX12_in rfl rfl (by exact Nat.le_of_ble_eq_true rfl) hR (by decide) (by decide) (by decide) rfl dX12_ruled_3 ?_
  refine x_ifB_ne (tgt := 11) (pc := 6) hC  dX12_ruled_6 (by decide) (fun c6 => ?_) (fun c6 => ?_)
  · refine x_iload_n (pc := 11) hC dX12_ruled_11 rfl ?_
    refine x_iconst (pc := 12) hC dX12_ruled_12 ?_
    refine x_bipush (pc := 13) hC dX12_ruled_13 (by decide +kernel) ?_
    refine x_callS1 (As := [_, _, _]) (Bs := [_, _, _]) (pc := 15) hC (s_in E (by omega) (by omega) (by omega)) wX12_41 pX12_in rfl rfl (by exact Nat.le_of_ble_eq_true rfl) hR (by decide) (by decide) (by decide) rfl dX12_ruled_15 ?_
    refine x_ifB_ne (tgt := 24) (pc := 18) hC  dX12_ruled_18 (by decide) (fun c18 => ?_) (fun c18 => ?_)
    · refine x_aload_n (pc := 24) hC dX12_ruled_24 rfl ?_
      refine x_getr (K := 1) (pc := 25) hC fX12_9_12 (by assumption) dX12_ruled_25 rfl rfl (by assumption) ?_
      refine x_bipush (pc := 28) hC dX12_ruled_28 (by decide +kernel) ?_
      refine x_iald (pc := 30) hC (by assumption) (by omega) dX12_ruled_30 ?_
      refine x_if_eq (tgt := 44) (pc := 31) hC (by omega) dX12_ruled_31 (by decide) (fun c31 => ?_) (fun c31 => ?_)
      · refine x_bipush (pc := 44) hC dX12_ruled_44 (by decide +kernel) ?_
        refine x_ireturn hC hZ dX12_ruled_46 (by decide) (by decide) ?_
        exact ⟨congrArg (fun z => some (Value.int (iI z))) (by rw [ruledA, if_neg (by omega), if_neg (by omega), if_pos (by omega)]), Ask.rf σ, rfl, rfl⟩
      · refine x_aload_n (pc := 34) hC dX12_ruled_34 rfl ?_
        refine x_getr (K := 1) (pc := 35) hC fX12_9_12 (by assumption) dX12_ruled_35 rfl rfl (by assumption) ?_
        refine x_bipush (pc := 38) hC dX12_ruled_38 (by decide +kernel) ?_
        refine x_iald (pc := 40) hC (by assumption) (by omega) dX12_ruled_40 ?_
        refine x_if_ne (tgt := 47) (pc := 41) hC (by omega) dX12_ruled_41 (by decide) (fun c41 => ?_) (fun c41 => ?_)
        · refine x_aload_n (pc := 47) hC dX12_ruled_47 rfl ?_
          refine x_callV0 (As := []) (Bs := []) (pc := 48) hC (s_keeps E hk hw) wX12_184_12 pX12_keeps (by assumption) rfl rfl (by exact Nat.le_of_ble_eq_true rfl) hR (by decide) (by decide) (by decide) rfl dX12_ruled_48 ?_
          refine x_iconst (pc := 51) hC dX12_ruled_51 ?_
          refine x_istore_n (L' := [_, _, _, _, _, _]) (pc := 52) hC dX12_ruled_52 rfl rfl ?_
          refine x_iconst (pc := 53) hC dX12_ruled_53 ?_
          refine x_istore (L' := [_, _, _, _, _, _]) (pc := 54) hC dX12_ruled_54 rfl rfl ?_
          exact X.drop (xLe_s (xLe_s (xLe_s (xLe_s (xLe_s (xLe_n xLe_0)))))) (loop (by omega) (by omega) (by omega) (by omega) n.toNat 0 0 0 _ rfl (by omega) (Sc.rf _) (sw_ne _ (by decide) _) rfl)
        · refine x_bipush (pc := 44) hC dX12_ruled_44 (by decide +kernel) ?_
          refine x_ireturn hC hZ dX12_ruled_46 (by decide) (by decide) ?_
          exact ⟨congrArg (fun z => some (Value.int (iI z))) (by rw [ruledA, if_neg (by omega), if_neg (by omega), if_pos (by omega)]), Ask.rf σ, rfl, rfl⟩
    · refine x_bipush (pc := 21) hC dX12_ruled_21 (by decide +kernel) ?_
      refine x_ireturn hC hZ dX12_ruled_23 (by decide) (by decide) ?_
      exact ⟨congrArg (fun z => some (Value.int (iI z))) (by rw [ruledA, if_neg (by omega), if_pos (by omega)]), Ask.rf σ, rfl, rfl⟩
  · refine x_iconst (pc := 9) hC dX12_ruled_9 ?_
    refine x_ireturn hC hZ dX12_ruled_10 (by decide) (by decide) ?_
    exact ⟨congrArg (fun z => some (Value.int (iI z))) (by rw [ruledA, if_pos (by omega)]), Ask.rf σ, rfl, rfl⟩
