/-! the rule played; a fan otherwise set -/
theorem zb_or {a : Int} (h : rg a) : bOr 0 a = a := by
  unfold bOr
  rw [iI_0, Int32.zero_or, iI_toInt h]
theorem reach_rg (z : zS) (f t : Int) : rg (reachF z f t) := by unfold reachF; exact rg_of _
theorem one_bit {f k : Nat} (hf : f < 4) (hk : k < 4) : bAnd (bShr (bShl 1 f) k) 1 = 1 ↔ k = f := by
  rcases (show f = 0 ∨ f = 1 ∨ f = 2 ∨ f = 3 by omega) with rfl | rfl | rfl | rfl <;> rcases (show k = 0 ∨ k = 1 ∨ k = 2 ∨ k = 3 by omega) with rfl | rfl | rfl | rfl <;> decide +kernel
theorem no_bit {k : Nat} (hk : k < 4) : ¬ bAnd (bShr 0 k) 1 = 1 := by
  rcases (show k = 0 ∨ k = 1 ∨ k = 2 ∨ k = 3 by omega) with rfl | rfl | rfl | rfl <;> decide +kernel
theorem rch_one (z : zS) (t : Int) {f : Nat} (hf : f < 4) : ∀ n : Nat, n ≤ 4 → rchF z (bShl 1 f) t n = if f < n then reachF z f t else 0
  | 0, _ => rfl
  | n + 1, hn => by
    have ih := rch_one z t hf n (by omega)
    have hb := one_bit hf (show n < 4 by omega)
    show (if bAnd (bShr (bShl 1 f) n) 1 = 1 then bOr (rchF z (bShl 1 f) t n) (reachF z n t) else rchF z (bShl 1 f) t n) = _
    by_cases h : n = f
    · subst h
      rw [if_pos (hb.mpr rfl), ih, if_neg (by omega), if_pos (by omega), zb_or (reach_rg z n t)]
    · rw [if_neg (fun q => h (hb.mp q)), ih]
      by_cases hlt : f < n
      · rw [if_pos hlt, if_pos (by omega)]
      · rw [if_neg hlt, if_neg (by omega)]
theorem rch_none (z : zS) (t : Int) : ∀ n : Nat, n ≤ 4 → rchF z 0 t n = 0
  | 0, _ => rfl
  | n + 1, hn => by
    show (if bAnd (bShr 0 n) 1 = 1 then bOr (rchF z 0 t n) (reachF z n t) else rchF z 0 t n) = 0
    rw [if_neg (no_bit (by omega)), rch_none z t n (by omega)]
theorem bc_one {f : Nat} (hf : f < 4) : bcF (bShl 1 f) = 1 := by
  rcases (show f = 0 ∨ f = 1 ∨ f = 2 ∨ f = 3 by omega) with rfl | rfl | rfl | rfl <;> decide +kernel
theorem suF_row {z v : zS} (h : ∀ j, 86 ≤ j → j ≤ 94 → v j = z j) : ∀ (m : Nat) (k : Int), 0 ≤ k → k + m ≤ 4 → suF v k m = suF z k m
  | 0, _, _, _ => rfl
  | m + 1, k, h0, h4 => by
    show v (90 + k) + suF v (k + 1) m = z (90 + k) + suF z (k + 1) m
    rw [h _ (by omega) (by omega), suF_row h m (k + 1) (by omega) (by omega)]
theorem rlG_row {z v : zS} (h : ∀ j, 86 ≤ j → j ≤ 94 → v j = z j) : ∀ (m : Nat) (k r : Int), 0 ≤ k → k + m ≤ 4 → rlG v m k r = rlG z m k r
  | 0, k, r, h0, h4 => h _ (by omega) (by omega)
  | m + 1, k, r, h0, h4 => by
    show (if v (90 + k) ≤ r then rlG v m (k + 1) (r - v (90 + k)) else v (86 + k)) = (if z (90 + k) ≤ r then rlG z m (k + 1) (r - z (90 + k)) else z (86 + k))
    rw [h _ (by omega) (by omega), h _ (by omega) (by omega), rlG_row h m (k + 1) _ (by omega) (by omega)]
theorem rlF_row {z v : zS} (h : ∀ j, 13 ≤ j → v j = z j) (h17 : 0 ≤ z 17 ∧ z 17 ≤ 4) (i : Int) : rlF v i = rlF z i := by
  unfold rlF
  rw [h 17 (by omega), suF_row (fun j h0 _ => h j (by omega)) _ _ (by omega) (by omega), rlG_row (fun j h0 _ => h j (by omega)) _ _ _ (by omega) (by omega)]
theorem RlAt.of {σ σ' : xM} {ρ : xR} {ks : xKs} {z v : zS} (hz : HZ σ ρ ks 1 z) (hw : HKB ks ρ 1) (hnx : Nx σ σ') (h : ∀ j, 13 ≤ j → v j = z j) : RlAt σ' ρ ks v := by
  obtain ⟨-, -, -, -, -, -, -, -, ⟨a1, a2⟩, -⟩ := hz
  refine ⟨by rw [hnx 1 (by omega), h 17 (by omega)]; exact a1, hw.2.2.2.2.2.2.2.2.1, hw.2.2.2.2.2.1.2.2.1, fun k h0 h1 => ?_⟩
  rw [h 17 (by omega)] at h1
  rw [hnx 17 (by omega), h _ (by omega), h _ (by omega)]
  exact a2 k h0 h1
set_option maxHeartbeats 4000000 in
set_option maxRecDepth 100000 in
theorem c_ruled (E : xE) {σ : xM} {ρ : xR} {ks : xKs} (hw : WK ks ρ) {z : zS} (hz : HZ σ ρ ks 1 z) (hpl : PlOk z) {n w : Int} (hn0 : rg n) (hw0 : rg w) (hru : RuleOk z) (ht : z 0 + 200 < 900000) : Sp E yX11_ruled kX11_ruled 5 0 0 [.ref 0, .int (iI n), .int (iI w)] σ ρ ks (fun r σ' ρ' ks' => r = some (.int (iI (ruledA z n w))) ∧ Nx σ σ' ∧ ρ' = ρ ∧ ks' = ks) := by
  obtain ⟨w0, w43, ⟨wr0, wr1, wr3, wr4, wr5⟩, wh, wk, wn, wt⟩ := id hw
  have hk := wh.hk
  obtain ⟨k1, k2, r0, r2, hs3⟩ := id hk
  have hfs := hz.fans
  have hsz := hz.sit
  obtain ⟨⟨hz1, -⟩, -, ⟨rq, hrq, hrq2, hrm⟩, hz4, ⟨hz6, -⟩, hz7, hz8, ⟨hz10, -⟩, ⟨hz12, -⟩, ⟨hz14, -⟩⟩ := id hz
  have hfan := hpl.1
  have hsit := hpl.2.1
  have h13 := hpl.1.1
  have h14 := hpl.2.1.1
  have hz00 := hpl.2.2.2
  obtain ⟨n0, ⟨n1, n2, n3, n4, n5⟩, m0, m1, m2, m3, m4⟩ := id wn
  obtain ⟨h30, ⟨h31, h32, h33, h34, h35⟩, h36, h37, h38, h39, h3a⟩ := id hs3
  have h17 := hru.1
  refine x_enter (own := RX11) (L := [_, _, _, _, _, _]) (by decide +kernel) rfl (by exact Nat.le_of_ble_eq_true rfl) rfl (fun p e R s m args below meth c Z hZ hC hR hin => ?_)
  refine x_iload_n (pc := 0) hC dX11_ruled_0 rfl ?_
  refine x_callS1 (As := [_]) (Bs := [_]) (pc := 1) hC (c_isEither E (by omega)) wX11_181 pX11_isEither rfl rfl (by exact Nat.le_of_ble_eq_true rfl) hR (by decide) (by decide) (by decide) rfl dX11_ruled_1 ?_
  refine x_ifB_ne (tgt := 9) (pc := 4) hC  dX11_ruled_4 (by decide) (fun c4 => ?_) (fun c4 => ?_)
  · refine x_iload_n (pc := 9) hC dX11_ruled_9 rfl ?_
    refine x_iconst (pc := 10) hC dX11_ruled_10 ?_
    refine x_bipush (pc := 11) hC dX11_ruled_11 (by decide +kernel) ?_
    refine x_callS1 (As := [_, _, _]) (Bs := [_, _, _]) (pc := 13) hC (c_isIn E (by omega) (by omega) (by omega)) wX11_152 pX11_isIn rfl rfl (by exact Nat.le_of_ble_eq_true rfl) hR (by decide) (by decide) (by decide) rfl dX11_ruled_13 ?_
    refine x_ifB_ne (tgt := 22) (pc := 16) hC  dX11_ruled_16 (by decide) (fun c16 => ?_) (fun c16 => ?_)
    · refine x_aload_n (pc := 22) hC dX11_ruled_22 rfl ?_
      refine x_getr (K := 0) (pc := 23) hC fX11_12_11 (by assumption) dX11_ruled_23 rfl rfl (by assumption) ?_
      refine x_geti (K := 12) (pc := 26) hC fX11_234_1 (by assumption) dX11_ruled_26 rfl rfl ?_
      rw [hz12]
      refine x_if_eq (tgt := 45) (pc := 29) hC (by omega) dX11_ruled_29 (by decide) (fun c29 => ?_) (fun c29 => ?_)
      · refine x_bipush (pc := 45) hC dX11_ruled_45 (by decide +kernel) ?_
        refine x_ireturn hC hZ dX11_ruled_47 (by decide) (by decide) ?_
        refine ⟨congrArg (fun z => some (Value.int (iI z))) ?_, Nx.rf _, rfl, rfl⟩
        unfold ruledA
        (repeat (first | rw [if_pos (by omega)] | rw [if_neg (by omega)]))
        all_goals (first | rfl | omega | assumption)
      · refine x_aload_n (pc := 32) hC dX11_ruled_32 rfl ?_
        refine x_getr (K := 0) (pc := 33) hC fX11_12_11 (by assumption) dX11_ruled_33 rfl rfl (by assumption) ?_
        refine x_getr (K := 2) (pc := 36) hC fX11_108_1 (by assumption) dX11_ruled_36 rfl rfl (by assumption) ?_
        refine x_geti (K := 5) (pc := 39) hC fX11_127_5 (by assumption) dX11_ruled_39 rfl rfl ?_
        rw [hsz.1]
        refine x_if_ne (tgt := 48) (pc := 42) hC (by omega) dX11_ruled_42 (by decide) (fun c42 => ?_) (fun c42 => ?_)
        · refine x_aload_n (pc := 48) hC dX11_ruled_48 rfl ?_
          refine x_getr (K := 3) (pc := 49) hC fX11_28_11 (by assumption) dX11_ruled_49 rfl rfl (by assumption) ?_
          refine x_aload_n (pc := 52) hC dX11_ruled_52 rfl ?_
          refine x_getr (K := 0) (pc := 53) hC fX11_12_11 (by assumption) dX11_ruled_53 rfl rfl (by assumption) ?_
          refine x_getr (K := 2) (pc := 56) hC fX11_108_1 (by assumption) dX11_ruled_56 rfl rfl (by assumption) ?_
          refine x_callV (As := [_]) (Bs := [_]) (pc := 59) hC (c_resembleS E wn hs3 (by omega) hsz hsit) wX11_177_5 pX5_resemble (by assumption) rfl rfl (by exact Nat.le_of_ble_eq_true rfl) hR (by decide) (by decide) (by decide) rfl dX11_ruled_59 (fun r59 σ59 ρ59 ks59 q59 => ?_)
          obtain ⟨rfl, hρ59, hks59, g1, g2, g3, g4⟩ := q59
          obtain rfl := hρ59.symm
          obtain rfl := hks59.symm
          have hnx : Nx σ σ59 := fun p' hp => g1 p' (by omega) (by omega) (by omega) (by omega) (by omega)
          refine x_iconst (pc := 62) hC dX11_ruled_62 ?_
          refine x_istore_n (L' := [_, _, _, _, _, _]) (pc := 63) hC dX11_ruled_63 rfl rfl ?_
          refine x_iconst (pc := 64) hC dX11_ruled_64 ?_
          refine x_istore (L' := [_, _, _, _, _, _]) (pc := 65) hC dX11_ruled_65 rfl rfl ?_
          have suF_pos : ∀ i : Int, 0 ≤ i → 0 ≤ i % suF z 0 (z 17).toNat ∧ i % suF z 0 (z 17).toNat < suF z 0 (z 17).toNat := fun i hi => by
            have hss := suF_in hru (z 17).toNat 0 (by omega) (by omega)
            exact emod_in (by omega)
          have loop : ∀ (i k : Nat) (j ch : Int) (σ' : xM), j = k → (k : Int) + i = n → Nx σ σ' → SZ σ' 37 38 (sqF rulR z k) → rulC z k = ch → X E p e R s m args below meth c Z 0 0 σ' ρ ks 67 [some (.ref 0), some (.int (iI n)), some (.int (iI w)), some (.int (iI ch)), some (.int (iI j)), none] [] := by
            intro i
            induction i with
            | zero =>
              intro k j ch σ' hj hi hnx hsz1 hch
              obtain ⟨p1, p2, p3⟩ := sq_pl rulR hpl k (by omega)
              refine x_iload (pc := 67) hC dX11_ruled_67 rfl ?_
              refine x_iload_n (pc := 69) hC dX11_ruled_69 rfl ?_
              refine x_icmp_ge (tgt := 149) (pc := 70) hC (by omega) (by omega) dX11_ruled_70 (by decide) (fun c70 => ?_) (fun c70 => by (exfalso; omega))
              refine x_iload_n (pc := 149) hC dX11_ruled_149 rfl ?_
              refine x_if_ne (tgt := 163) (pc := 150) hC (by omega) dX11_ruled_150 (by decide) (fun c150 => ?_) (fun c150 => ?_)
              · refine x_iload_n (pc := 163) hC dX11_ruled_163 rfl ?_
                refine x_ireturn hC hZ dX11_ruled_164 (by decide) (by decide) ?_
                refine ⟨congrArg (fun z => some (Value.int (iI z))) ?_, hnx, rfl, rfl⟩
                unfold ruledA
                rw [if_neg (by omega), if_neg (by omega), if_neg (by omega), if_neg (by omega), show n.toNat = k by omega]
                exact hch.symm
              · refine x_aload_n (pc := 153) hC dX11_ruled_153 rfl ?_
                refine x_getr (K := 3) (pc := 154) hC fX11_28_11 (by assumption) dX11_ruled_154 rfl rfl (by assumption) ?_
                refine x_callV1 (As := []) (Bs := []) (pc := 157) hC (c_greatest E wn hsz1 p1.2.1) wX11_171_5 pX5_greatest (by assumption) rfl rfl (by exact Nat.le_of_ble_eq_true rfl) hR (by decide) (by decide) (by decide) rfl dX11_ruled_157 ?_
                refine x_goto (tgt := 164) (pc := 160) hC dX11_ruled_160 (by decide) ?_
                refine x_ireturn hC hZ dX11_ruled_164 (by decide) (by decide) ?_
                refine ⟨congrArg (fun z => some (Value.int (iI z))) ?_, hnx, rfl, rfl⟩
                unfold ruledA
                rw [if_neg (by omega), if_neg (by omega), if_neg (by omega), if_pos (by omega), show n.toNat = k by omega]
                rw [p3 14 (Or.inl (by decide))]
            | succ i ih =>
              intro k j ch σ' hj hi hnx hsz1 hch
              have hcin := rulC_in z k
              obtain ⟨v, hv⟩ : ∃ v, v = sqF rulR z k := ⟨_, rfl⟩
              obtain ⟨p1, p2, p3⟩ := sq_pl rulR hpl k (by omega)
              rw [← hv] at hsz1 p1 p2 p3
              have v13 : v 13 = z 13 := p3 13 (Or.inl (by decide))
              have hrm1 : RmP σ' ρ ks rq v := ((hz.nx (by decide) hnx).rm hrq).row (p3 _ (Or.inl (by decide))) (fun x hx => p3 x (Or.inl (by omega))) hpl.2.2.1.1.1
              have hfs1 : FansAt σ' ρ ks v := ((hz.nx (by decide) hnx).fans).row h13.2 v13 (fun x h0 _ => p3 x (Or.inl (by omega)))
              have hrlz : RlAt σ' ρ ks z := RlAt.of hz wh hnx (fun _ _ => rfl)
              have hs17 : σ' 1 7 = z 0 := by rw [hnx 1 (by omega)]; exact hz7
              have hrl : -1 ≤ rlF z j ∧ rlF z j < z 13 := by
                have hsu := suF_pos j (by omega)
                exact rlG_in hru (z 17).toNat 0 _ (by omega) (by omega) hsu.1 hsu.2
              have hrl2 : 0 < j → -1 ≤ rlF z (j - 1) ∧ rlF z (j - 1) < z 13 := fun hj0 => by
                have hsu := suF_pos (j - 1) (by omega)
                exact rlG_in hru (z 17).toNat 0 _ (by omega) (by omega) hsu.1 hsu.2
              refine x_iload (pc := 67) hC dX11_ruled_67 rfl ?_
              refine x_iload_n (pc := 69) hC dX11_ruled_69 rfl ?_
              refine x_icmp_ge (tgt := 149) (pc := 70) hC (by omega) (by omega) dX11_ruled_70 (by decide) (fun c70 => by (exfalso; omega)) (fun c70 => ?_)
              refine x_aload_n (pc := 73) hC dX11_ruled_73 rfl ?_
              refine x_getr (K := 0) (pc := 74) hC fX11_12_11 (by assumption) dX11_ruled_74 rfl rfl (by assumption) ?_
              refine x_iload (pc := 77) hC dX11_ruled_77 rfl ?_
              refine x_callV1 (As := [_]) (Bs := [_]) (pc := 79) hC (c_ruledFan E hk hrlz (y := j) hru (by omega) ⟨by omega, by omega⟩) wX11_240_1 pX1_ruledFan (by assumption) rfl rfl (by exact Nat.le_of_ble_eq_true rfl) hR (by decide) (by decide) (by decide) rfl dX11_ruled_79 ?_
              refine x_istore (L' := [_, _, _, _, _, _]) (pc := 82) hC dX11_ruled_82 rfl rfl ?_
              refine x_iload (pc := 84) hC dX11_ruled_84 rfl ?_
              refine x_if_le (tgt := 108) (pc := 86) hC (by omega) dX11_ruled_86 (by decide) (fun c86 => ?_) (fun c86 => ?_)
              · refine x_aload_n (pc := 108) hC dX11_ruled_108 rfl ?_
                refine x_getr (K := 0) (pc := 109) hC fX11_12_11 (by assumption) dX11_ruled_109 rfl rfl (by assumption) ?_
                refine x_aload_n (pc := 112) hC dX11_ruled_112 rfl ?_
                refine x_getr (K := 3) (pc := 113) hC fX11_28_11 (by assumption) dX11_ruled_113 rfl rfl (by assumption) ?_
                refine x_iload (pc := 116) hC dX11_ruled_116 rfl ?_
                refine x_if_ge (tgt := 125) (pc := 118) hC (by omega) dX11_ruled_118 (by decide) (fun c118 => ?_) (fun c118 => ?_)
                · refine x_iconst (pc := 125) hC dX11_ruled_125 ?_
                  refine x_iload (pc := 126) hC dX11_ruled_126 rfl ?_
                  refine x_ishl (pc := 128) hC dX11_ruled_128 ?_
                  refine x_aload_n (pc := 129) hC dX11_ruled_129 rfl ?_
                  refine x_getr (K := 0) (pc := 130) hC fX11_12_11 (by assumption) dX11_ruled_130 rfl rfl (by assumption) ?_
                  refine x_geti (K := 7) (pc := 133) hC fX11_105_1 (by assumption) dX11_ruled_133 rfl rfl ?_
                  rw [hs17]
                  refine x_iload (pc := 136) hC dX11_ruled_136 rfl ?_
                  refine x_iadd (pc := 138) hC dX11_ruled_138 ?_
                  refine x_iconst (pc := 139) hC dX11_ruled_139 ?_
                  refine x_callV (As := [_, _, _, _]) (Bs := [_, _, _, _]) (pc := 140) hC (c_pass E hk hfs1 p1 hrq hrm1 wn hsz1 (shl4 (by omega)) (by omega) (by omega) (n := 1) (by decide)) wX11_160_1 pX1_pass (by assumption) rfl rfl (by exact Nat.le_of_ble_eq_true rfl) hR (by decide) (by decide) (by decide) rfl dX11_ruled_140 (fun r140 σ140 ρ140 ks140 q140 => ?_)
                  obtain ⟨rfl, hρ140, hks140, f1, f2, f3⟩ := q140
                  obtain rfl := hρ140.symm
                  obtain rfl := hks140.symm
                  refine x_iinc (L' := [_, _, _, _, _, _]) (pc := 143) hC dX11_ruled_143 rfl rfl rfl ?_
                  refine x_goto (tgt := 67) (pc := 146) hC dX11_ruled_146 (by decide) ?_
                  refine X.drop (xLe_s (xLe_s (xLe_s (xLe_s (xLe_s (xLe_n xLe_0)))))) (ih (k + 1) (j + 1) _ _ (by omega) (by omega) (fun p' hp => (f1 p' (by omega) (by omega) (by omega) (by omega)).trans (hnx p' hp)) ?_ ?_)
                  · rw [show sqF rulR z (k + 1) = secF v (rulR k v).1 (rulR k v).2 by rw [hv]; rfl]
                    have hs1 := f2
                    rw [show passF (bShl 1 (rlF z j)) v (1 : Int).toNat = secF v (rchF v (bShl 1 (rlF z j)) (v 0) (v 13).toNat) (bcF (bShl 1 (rlF z j))) from rfl] at hs1
                    unfold rulR
                    rw [← hj, rlF_row (fun x hx => p3 x (Or.inl hx)) hru.1]
                    dsimp only
                    obtain ⟨F, hF⟩ : ∃ F : Nat, rlF z j = F := ⟨(rlF z j).toNat, by omega⟩
                    rw [hF] at hs1 hrl ⊢
                    rw [rch_one v (v 0) (by omega) _ (by omega), if_pos (by omega), bc_one (by omega)] at hs1
                    rw [if_neg (by omega), if_neg (by omega)]
                    exact hs1
                  · show rulC z k + (if 0 < k ∧ rlF z ((k : Int) - 1) ≠ rlF z k then 1 else 0) = _
                    rw [if_neg (fun h => by omega), Int.add_zero]; exact hch
                · refine x_iconst (pc := 121) hC dX11_ruled_121 ?_
                  refine x_goto (tgt := 129) (pc := 122) hC dX11_ruled_122 (by decide) ?_
                  refine x_aload_n (pc := 129) hC dX11_ruled_129 rfl ?_
                  refine x_getr (K := 0) (pc := 130) hC fX11_12_11 (by assumption) dX11_ruled_130 rfl rfl (by assumption) ?_
                  refine x_geti (K := 7) (pc := 133) hC fX11_105_1 (by assumption) dX11_ruled_133 rfl rfl ?_
                  rw [hs17]
                  refine x_iload (pc := 136) hC dX11_ruled_136 rfl ?_
                  refine x_iadd (pc := 138) hC dX11_ruled_138 ?_
                  refine x_iconst (pc := 139) hC dX11_ruled_139 ?_
                  refine x_callV (As := [_, _, _, _]) (Bs := [_, _, _, _]) (pc := 140) hC (c_pass E hk hfs1 p1 hrq hrm1 wn hsz1 (by decide) (by omega) (by omega) (n := 1) (by decide)) wX11_160_1 pX1_pass (by assumption) rfl rfl (by exact Nat.le_of_ble_eq_true rfl) hR (by decide) (by decide) (by decide) rfl dX11_ruled_140 (fun r140 σ140 ρ140 ks140 q140 => ?_)
                  obtain ⟨rfl, hρ140, hks140, f1, f2, f3⟩ := q140
                  obtain rfl := hρ140.symm
                  obtain rfl := hks140.symm
                  refine x_iinc (L' := [_, _, _, _, _, _]) (pc := 143) hC dX11_ruled_143 rfl rfl rfl ?_
                  refine x_goto (tgt := 67) (pc := 146) hC dX11_ruled_146 (by decide) ?_
                  refine X.drop (xLe_s (xLe_s (xLe_s (xLe_s (xLe_s (xLe_n xLe_0)))))) (ih (k + 1) (j + 1) _ _ (by omega) (by omega) (fun p' hp => (f1 p' (by omega) (by omega) (by omega) (by omega)).trans (hnx p' hp)) ?_ ?_)
                  · rw [show sqF rulR z (k + 1) = secF v (rulR k v).1 (rulR k v).2 by rw [hv]; rfl]
                    have hs1 := f2
                    rw [show passF 0 v (1 : Int).toNat = secF v (rchF v 0 (v 0) (v 13).toNat) (bcF 0) from rfl] at hs1
                    unfold rulR
                    rw [← hj, rlF_row (fun x hx => p3 x (Or.inl hx)) hru.1]
                    dsimp only
                    rw [rch_none v (v 0) _ (by omega), bc_all.1] at hs1
                    rw [if_pos (by omega), if_pos (by omega)]
                    exact hs1
                  · show rulC z k + (if 0 < k ∧ rlF z ((k : Int) - 1) ≠ rlF z k then 1 else 0) = _
                    rw [if_neg (fun h => by omega), Int.add_zero]; exact hch
              · refine x_iload (pc := 89) hC dX11_ruled_89 rfl ?_
                refine x_aload_n (pc := 91) hC dX11_ruled_91 rfl ?_
                refine x_getr (K := 0) (pc := 92) hC fX11_12_11 (by assumption) dX11_ruled_92 rfl rfl (by assumption) ?_
                refine x_iload (pc := 95) hC dX11_ruled_95 rfl ?_
                refine x_iconst (pc := 97) hC dX11_ruled_97 ?_
                refine x_isub (pc := 98) hC dX11_ruled_98 ?_
                refine x_callV1 (As := [_]) (Bs := [_]) (pc := 99) hC (c_ruledFan E hk hrlz (y := j - 1) hru (by omega) ⟨by omega, by omega⟩) wX11_240_1 pX1_ruledFan (by assumption) rfl rfl (by exact Nat.le_of_ble_eq_true rfl) hR (by decide) (by decide) (by decide) rfl dX11_ruled_99 ?_
                have hrl3 := hrl2 (by omega)
                refine x_icmp_eq (tgt := 108) (pc := 102) hC (by omega) (by omega) dX11_ruled_102 (by decide) (fun c102 => ?_) (fun c102 => ?_)
                · refine x_aload_n (pc := 108) hC dX11_ruled_108 rfl ?_
                  refine x_getr (K := 0) (pc := 109) hC fX11_12_11 (by assumption) dX11_ruled_109 rfl rfl (by assumption) ?_
                  refine x_aload_n (pc := 112) hC dX11_ruled_112 rfl ?_
                  refine x_getr (K := 3) (pc := 113) hC fX11_28_11 (by assumption) dX11_ruled_113 rfl rfl (by assumption) ?_
                  refine x_iload (pc := 116) hC dX11_ruled_116 rfl ?_
                  refine x_if_ge (tgt := 125) (pc := 118) hC (by omega) dX11_ruled_118 (by decide) (fun c118 => ?_) (fun c118 => ?_)
                  · refine x_iconst (pc := 125) hC dX11_ruled_125 ?_
                    refine x_iload (pc := 126) hC dX11_ruled_126 rfl ?_
                    refine x_ishl (pc := 128) hC dX11_ruled_128 ?_
                    refine x_aload_n (pc := 129) hC dX11_ruled_129 rfl ?_
                    refine x_getr (K := 0) (pc := 130) hC fX11_12_11 (by assumption) dX11_ruled_130 rfl rfl (by assumption) ?_
                    refine x_geti (K := 7) (pc := 133) hC fX11_105_1 (by assumption) dX11_ruled_133 rfl rfl ?_
                    rw [hs17]
                    refine x_iload (pc := 136) hC dX11_ruled_136 rfl ?_
                    refine x_iadd (pc := 138) hC dX11_ruled_138 ?_
                    refine x_iconst (pc := 139) hC dX11_ruled_139 ?_
                    refine x_callV (As := [_, _, _, _]) (Bs := [_, _, _, _]) (pc := 140) hC (c_pass E hk hfs1 p1 hrq hrm1 wn hsz1 (shl4 (by omega)) (by omega) (by omega) (n := 1) (by decide)) wX11_160_1 pX1_pass (by assumption) rfl rfl (by exact Nat.le_of_ble_eq_true rfl) hR (by decide) (by decide) (by decide) rfl dX11_ruled_140 (fun r140 σ140 ρ140 ks140 q140 => ?_)
                    obtain ⟨rfl, hρ140, hks140, f1, f2, f3⟩ := q140
                    obtain rfl := hρ140.symm
                    obtain rfl := hks140.symm
                    refine x_iinc (L' := [_, _, _, _, _, _]) (pc := 143) hC dX11_ruled_143 rfl rfl rfl ?_
                    refine x_goto (tgt := 67) (pc := 146) hC dX11_ruled_146 (by decide) ?_
                    refine X.drop (xLe_s (xLe_s (xLe_s (xLe_s (xLe_s (xLe_n xLe_0)))))) (ih (k + 1) (j + 1) _ _ (by omega) (by omega) (fun p' hp => (f1 p' (by omega) (by omega) (by omega) (by omega)).trans (hnx p' hp)) ?_ ?_)
                    · rw [show sqF rulR z (k + 1) = secF v (rulR k v).1 (rulR k v).2 by rw [hv]; rfl]
                      have hs1 := f2
                      rw [show passF (bShl 1 (rlF z j)) v (1 : Int).toNat = secF v (rchF v (bShl 1 (rlF z j)) (v 0) (v 13).toNat) (bcF (bShl 1 (rlF z j))) from rfl] at hs1
                      unfold rulR
                      rw [← hj, rlF_row (fun x hx => p3 x (Or.inl hx)) hru.1]
                      dsimp only
                      obtain ⟨F, hF⟩ : ∃ F : Nat, rlF z j = F := ⟨(rlF z j).toNat, by omega⟩
                      rw [hF] at hs1 hrl ⊢
                      rw [rch_one v (v 0) (by omega) _ (by omega), if_pos (by omega), bc_one (by omega)] at hs1
                      rw [if_neg (by omega), if_neg (by omega)]
                      exact hs1
                    · show rulC z k + (if 0 < k ∧ rlF z ((k : Int) - 1) ≠ rlF z k then 1 else 0) = _
                      rw [if_neg (fun h => h.2 (by rw [← hj]; exact c102.symm)), Int.add_zero]; exact hch
                  · refine x_iconst (pc := 121) hC dX11_ruled_121 ?_
                    refine x_goto (tgt := 129) (pc := 122) hC dX11_ruled_122 (by decide) ?_
                    refine x_aload_n (pc := 129) hC dX11_ruled_129 rfl ?_
                    refine x_getr (K := 0) (pc := 130) hC fX11_12_11 (by assumption) dX11_ruled_130 rfl rfl (by assumption) ?_
                    refine x_geti (K := 7) (pc := 133) hC fX11_105_1 (by assumption) dX11_ruled_133 rfl rfl ?_
                    rw [hs17]
                    refine x_iload (pc := 136) hC dX11_ruled_136 rfl ?_
                    refine x_iadd (pc := 138) hC dX11_ruled_138 ?_
                    refine x_iconst (pc := 139) hC dX11_ruled_139 ?_
                    refine x_callV (As := [_, _, _, _]) (Bs := [_, _, _, _]) (pc := 140) hC (c_pass E hk hfs1 p1 hrq hrm1 wn hsz1 (by decide) (by omega) (by omega) (n := 1) (by decide)) wX11_160_1 pX1_pass (by assumption) rfl rfl (by exact Nat.le_of_ble_eq_true rfl) hR (by decide) (by decide) (by decide) rfl dX11_ruled_140 (fun r140 σ140 ρ140 ks140 q140 => ?_)
                    obtain ⟨rfl, hρ140, hks140, f1, f2, f3⟩ := q140
                    obtain rfl := hρ140.symm
                    obtain rfl := hks140.symm
                    refine x_iinc (L' := [_, _, _, _, _, _]) (pc := 143) hC dX11_ruled_143 rfl rfl rfl ?_
                    refine x_goto (tgt := 67) (pc := 146) hC dX11_ruled_146 (by decide) ?_
                    refine X.drop (xLe_s (xLe_s (xLe_s (xLe_s (xLe_s (xLe_n xLe_0)))))) (ih (k + 1) (j + 1) _ _ (by omega) (by omega) (fun p' hp => (f1 p' (by omega) (by omega) (by omega) (by omega)).trans (hnx p' hp)) ?_ ?_)
                    · rw [show sqF rulR z (k + 1) = secF v (rulR k v).1 (rulR k v).2 by rw [hv]; rfl]
                      have hs1 := f2
                      rw [show passF 0 v (1 : Int).toNat = secF v (rchF v 0 (v 0) (v 13).toNat) (bcF 0) from rfl] at hs1
                      unfold rulR
                      rw [← hj, rlF_row (fun x hx => p3 x (Or.inl hx)) hru.1]
                      dsimp only
                      rw [rch_none v (v 0) _ (by omega), bc_all.1] at hs1
                      rw [if_pos (by omega), if_pos (by omega)]
                      exact hs1
                    · show rulC z k + (if 0 < k ∧ rlF z ((k : Int) - 1) ≠ rlF z k then 1 else 0) = _
                      rw [if_neg (fun h => h.2 (by rw [← hj]; exact c102.symm)), Int.add_zero]; exact hch
                · refine x_iinc (L' := [_, _, _, _, _, _]) (pc := 105) hC dX11_ruled_105 rfl rfl rfl ?_
                  refine x_aload_n (pc := 108) hC dX11_ruled_108 rfl ?_
                  refine x_getr (K := 0) (pc := 109) hC fX11_12_11 (by assumption) dX11_ruled_109 rfl rfl (by assumption) ?_
                  refine x_aload_n (pc := 112) hC dX11_ruled_112 rfl ?_
                  refine x_getr (K := 3) (pc := 113) hC fX11_28_11 (by assumption) dX11_ruled_113 rfl rfl (by assumption) ?_
                  refine x_iload (pc := 116) hC dX11_ruled_116 rfl ?_
                  refine x_if_ge (tgt := 125) (pc := 118) hC (by omega) dX11_ruled_118 (by decide) (fun c118 => ?_) (fun c118 => ?_)
                  · refine x_iconst (pc := 125) hC dX11_ruled_125 ?_
                    refine x_iload (pc := 126) hC dX11_ruled_126 rfl ?_
                    refine x_ishl (pc := 128) hC dX11_ruled_128 ?_
                    refine x_aload_n (pc := 129) hC dX11_ruled_129 rfl ?_
                    refine x_getr (K := 0) (pc := 130) hC fX11_12_11 (by assumption) dX11_ruled_130 rfl rfl (by assumption) ?_
                    refine x_geti (K := 7) (pc := 133) hC fX11_105_1 (by assumption) dX11_ruled_133 rfl rfl ?_
                    rw [hs17]
                    refine x_iload (pc := 136) hC dX11_ruled_136 rfl ?_
                    refine x_iadd (pc := 138) hC dX11_ruled_138 ?_
                    refine x_iconst (pc := 139) hC dX11_ruled_139 ?_
                    refine x_callV (As := [_, _, _, _]) (Bs := [_, _, _, _]) (pc := 140) hC (c_pass E hk hfs1 p1 hrq hrm1 wn hsz1 (shl4 (by omega)) (by omega) (by omega) (n := 1) (by decide)) wX11_160_1 pX1_pass (by assumption) rfl rfl (by exact Nat.le_of_ble_eq_true rfl) hR (by decide) (by decide) (by decide) rfl dX11_ruled_140 (fun r140 σ140 ρ140 ks140 q140 => ?_)
                    obtain ⟨rfl, hρ140, hks140, f1, f2, f3⟩ := q140
                    obtain rfl := hρ140.symm
                    obtain rfl := hks140.symm
                    refine x_iinc (L' := [_, _, _, _, _, _]) (pc := 143) hC dX11_ruled_143 rfl rfl rfl ?_
                    refine x_goto (tgt := 67) (pc := 146) hC dX11_ruled_146 (by decide) ?_
                    refine X.drop (xLe_s (xLe_s (xLe_s (xLe_s (xLe_s (xLe_n xLe_0)))))) (ih (k + 1) (j + 1) _ _ (by omega) (by omega) (fun p' hp => (f1 p' (by omega) (by omega) (by omega) (by omega)).trans (hnx p' hp)) ?_ ?_)
                    · rw [show sqF rulR z (k + 1) = secF v (rulR k v).1 (rulR k v).2 by rw [hv]; rfl]
                      have hs1 := f2
                      rw [show passF (bShl 1 (rlF z j)) v (1 : Int).toNat = secF v (rchF v (bShl 1 (rlF z j)) (v 0) (v 13).toNat) (bcF (bShl 1 (rlF z j))) from rfl] at hs1
                      unfold rulR
                      rw [← hj, rlF_row (fun x hx => p3 x (Or.inl hx)) hru.1]
                      dsimp only
                      obtain ⟨F, hF⟩ : ∃ F : Nat, rlF z j = F := ⟨(rlF z j).toNat, by omega⟩
                      rw [hF] at hs1 hrl ⊢
                      rw [rch_one v (v 0) (by omega) _ (by omega), if_pos (by omega), bc_one (by omega)] at hs1
                      rw [if_neg (by omega), if_neg (by omega)]
                      exact hs1
                    · show rulC z k + (if 0 < k ∧ rlF z ((k : Int) - 1) ≠ rlF z k then 1 else 0) = _
                      rw [if_pos ⟨by omega, fun h => c102 (by rw [← hj] at h; exact h.symm)⟩, hch]
                  · refine x_iconst (pc := 121) hC dX11_ruled_121 ?_
                    refine x_goto (tgt := 129) (pc := 122) hC dX11_ruled_122 (by decide) ?_
                    refine x_aload_n (pc := 129) hC dX11_ruled_129 rfl ?_
                    refine x_getr (K := 0) (pc := 130) hC fX11_12_11 (by assumption) dX11_ruled_130 rfl rfl (by assumption) ?_
                    refine x_geti (K := 7) (pc := 133) hC fX11_105_1 (by assumption) dX11_ruled_133 rfl rfl ?_
                    rw [hs17]
                    refine x_iload (pc := 136) hC dX11_ruled_136 rfl ?_
                    refine x_iadd (pc := 138) hC dX11_ruled_138 ?_
                    refine x_iconst (pc := 139) hC dX11_ruled_139 ?_
                    refine x_callV (As := [_, _, _, _]) (Bs := [_, _, _, _]) (pc := 140) hC (c_pass E hk hfs1 p1 hrq hrm1 wn hsz1 (by decide) (by omega) (by omega) (n := 1) (by decide)) wX11_160_1 pX1_pass (by assumption) rfl rfl (by exact Nat.le_of_ble_eq_true rfl) hR (by decide) (by decide) (by decide) rfl dX11_ruled_140 (fun r140 σ140 ρ140 ks140 q140 => ?_)
                    obtain ⟨rfl, hρ140, hks140, f1, f2, f3⟩ := q140
                    obtain rfl := hρ140.symm
                    obtain rfl := hks140.symm
                    refine x_iinc (L' := [_, _, _, _, _, _]) (pc := 143) hC dX11_ruled_143 rfl rfl rfl ?_
                    refine x_goto (tgt := 67) (pc := 146) hC dX11_ruled_146 (by decide) ?_
                    refine X.drop (xLe_s (xLe_s (xLe_s (xLe_s (xLe_s (xLe_n xLe_0)))))) (ih (k + 1) (j + 1) _ _ (by omega) (by omega) (fun p' hp => (f1 p' (by omega) (by omega) (by omega) (by omega)).trans (hnx p' hp)) ?_ ?_)
                    · rw [show sqF rulR z (k + 1) = secF v (rulR k v).1 (rulR k v).2 by rw [hv]; rfl]
                      have hs1 := f2
                      rw [show passF 0 v (1 : Int).toNat = secF v (rchF v 0 (v 0) (v 13).toNat) (bcF 0) from rfl] at hs1
                      unfold rulR
                      rw [← hj, rlF_row (fun x hx => p3 x (Or.inl hx)) hru.1]
                      dsimp only
                      rw [rch_none v (v 0) _ (by omega), bc_all.1] at hs1
                      rw [if_pos (by omega), if_pos (by omega)]
                      exact hs1
                    · show rulC z k + (if 0 < k ∧ rlF z ((k : Int) - 1) ≠ rlF z k then 1 else 0) = _
                      rw [if_pos ⟨by omega, fun h => c102 (by rw [← hj] at h; exact h.symm)⟩, hch]
          exact loop n.toNat 0 0 0 _ rfl (by omega) hnx g3 rfl
        · refine x_bipush (pc := 45) hC dX11_ruled_45 (by decide +kernel) ?_
          refine x_ireturn hC hZ dX11_ruled_47 (by decide) (by decide) ?_
          refine ⟨congrArg (fun z => some (Value.int (iI z))) ?_, Nx.rf _, rfl, rfl⟩
          unfold ruledA
          (repeat (first | rw [if_pos (by omega)] | rw [if_neg (by omega)]))
          all_goals (first | rfl | omega | assumption)
    · refine x_bipush (pc := 19) hC dX11_ruled_19 (by decide +kernel) ?_
      refine x_ireturn hC hZ dX11_ruled_21 (by decide) (by decide) ?_
      refine ⟨congrArg (fun z => some (Value.int (iI z))) ?_, Nx.rf _, rfl, rfl⟩
      unfold ruledA
      (repeat (first | rw [if_pos (by omega)] | rw [if_neg (by omega)]))
      all_goals (first | rfl | omega | assumption)
  · refine x_iconst (pc := 7) hC dX11_ruled_7 ?_
    refine x_ireturn hC hZ dX11_ruled_8 (by decide) (by decide) ?_
    refine ⟨congrArg (fun z => some (Value.int (iI z))) ?_, Nx.rf _, rfl, rfl⟩
    unfold ruledA
    (repeat (first | rw [if_pos (by omega)] | rw [if_neg (by omega)]))
    all_goals (first | rfl | omega | assumption)
