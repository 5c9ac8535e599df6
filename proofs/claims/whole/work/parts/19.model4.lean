set_option maxHeartbeats 4000000 in
set_option maxRecDepth 100000 in
theorem s_goes (E : xE) {σ : xM} {ρ : xR} {ks : xKs} (hk : MK ks) (hw : MW ρ) {reached on : Int} (hroom : RoomOk (σ 47)) (hsit : SitOk (σ 47)) (hon : 0 ≤ on ∧ on ≤ 4) (ht : 0 ≤ σ 47 0 ∧ σ 47 0 < 1000000) : Sp E yX12_goes kX12_goes 3 0 0 [.ref 46, .int (iI reached), .int (iI on)] σ ρ ks (fun r σ' ρ' ks' => r = none ∧ ρ' = ρ ∧ ks' = ks ∧ Sc σ σ' ∧ σ' 47 = secF (σ 47) reached on ∧ σ' 52 = metsF (σ 47) reached (σ 52) (σ 47 14).toNat) := by
  obtain ⟨k46, k47, k48, k49, k50, k51, k52, k53, k54⟩ := id hk
  obtain ⟨w1, w2, w3, w10, w11, w14, w15, w16⟩ := id hw
  refine x_enter (own := RX12) (L := [_, _, _, _, _, _, _]) (by decide +kernel) rfl (by exact Nat.le_of_ble_eq_true rfl) rfl (fun p e R s m args below meth c Z hZ hC hR hin => ?_)
  have hs14 := hsit.1
  have loop : ∀ (n k : Nat) (j : Int) (σ' : xM), j = k → (k : Int) + n = σ 47 14 → Sc σ σ' → σ' 47 = goesF (σ 47) reached on k → σ' 52 = metsF (σ 47) reached (σ 52) k → X E p e R s m args below meth c Z 0 0 σ' ρ ks 2 [some (.ref 46), some (.int (iI reached)), some (.int (iI on)), some (.int (iI j)), none, none, none] [] := by
    intro n
    induction n with
    | zero =>
      intro k j σ' hj hn hsc h47 h52
      have h14 : σ' 47 14 = σ 47 14 := by rw [h47]; exact goesF_hi _ _ _ (Or.inl (by decide)) k (by omega)
      refine x_iload_n (pc := 2) hC dX12_goes_2 rfl ?_
      refine x_aload_n (pc := 3) hC dX12_goes_3 rfl ?_
      refine x_getr (K := 1) (pc := 4) hC fX12_9_12 (by assumption) dX12_goes_4 rfl rfl (by assumption) ?_
      refine x_bipush (pc := 7) hC dX12_goes_7 (by decide +kernel) ?_
      refine x_iald (pc := 9) hC (by assumption) (by first | omega | exact rg_of _) dX12_goes_9 ?_
      refine x_icmp_ge (tgt := 202) (pc := 10) hC (by first | omega | exact rg_of _) (by first | omega | exact rg_of _) dX12_goes_10 (by decide) (fun c10 => ?_) (fun c10 => by (exfalso; omega))
      refine x_aload_n (pc := 202) hC dX12_goes_202 rfl ?_
      refine x_getr (K := 1) (pc := 203) hC fX12_9_12 (by assumption) dX12_goes_203 rfl rfl (by assumption) ?_
      refine x_iconst (pc := 206) hC dX12_goes_206 ?_
      refine x_dup2 (pc := 207) hC dX12_goes_207 rfl rfl ?_
      refine x_iald (pc := 208) hC (by assumption) (by first | omega | exact rg_of _) dX12_goes_208 ?_
      refine x_iconst (pc := 209) hC dX12_goes_209 ?_
      refine x_iadd (pc := 210) hC dX12_goes_210 ?_
      refine x_iast (pc := 211) hC (by assumption) (by first | omega | exact rg_of _) dX12_goes_211 ?_
      refine x_return hC hZ dX12_goes_212 (by decide) (by decide) ?_
      refine ⟨rfl, rfl, rfl, hsc.trans ⟨fun q' x1 x2 x3 x4 x5 => by funext x; simp [wr, x2], fun x b1 b2 => by simp [wr]⟩, ?_, ?_⟩
      · have hk2 : (σ 47 14).toNat = k := by omega
        rw [wr_sw, sw_eq, h47, secF, hk2]
      · have hk2 : (σ 47 14).toNat = k := by omega
        rw [wr_sw, sw_ne _ (by decide), h52, hk2]
    | succ n ih =>
      intro k j σ' hj hn hsc h47 h52
      have h14 : σ' 47 14 = σ 47 14 := by rw [h47]; exact goesF_hi _ _ _ (Or.inl (by decide)) k (by omega)
      have h0 : σ' 47 0 = σ 47 0 := by rw [h47]; exact goesF_hi _ _ _ (Or.inr (by decide)) k (by omega)
      have hsit' : SitOk (σ' 47) := by rw [h47]; exact goesF_ok hsit _ _ k (by omega)
      have hroom' : RoomOk (σ' 47) := by rw [h47]; exact RoomOk.congr (fun x hx => goesF_hi _ _ _ (Or.inl hx) k (by omega)) hroom
      refine x_iload_n (pc := 2) hC dX12_goes_2 rfl ?_
      refine x_aload_n (pc := 3) hC dX12_goes_3 rfl ?_
      refine x_getr (K := 1) (pc := 4) hC fX12_9_12 (by assumption) dX12_goes_4 rfl rfl (by assumption) ?_
      refine x_bipush (pc := 7) hC dX12_goes_7 (by decide +kernel) ?_
      refine x_iald (pc := 9) hC (by assumption) (by first | omega | exact rg_of _) dX12_goes_9 ?_
      refine x_icmp_ge (tgt := 202) (pc := 10) hC (by first | omega | exact rg_of _) (by first | omega | exact rg_of _) dX12_goes_10 (by decide) (fun c10 => by (exfalso; omega)) (fun c10 => ?_)
      have hj6 : 0 ≤ j ∧ j < 6 := by omega
      have sj := hsit'.2 j hj6.1 hj6.2
      have hr1 := hroom'.1
      have h62 : σ' 47 (62 + j) = σ 47 (62 + j) := by rw [h47]; exact goesF_hi _ _ _ (Or.inl (by omega)) k (by omega)
      refine x_iload_n (pc := 13) hC dX12_goes_13 rfl ?_
      refine x_aload_n (pc := 14) hC dX12_goes_14 rfl ?_
      refine x_getr (K := 1) (pc := 15) hC fX12_9_12 (by assumption) dX12_goes_15 rfl rfl (by assumption) ?_
      refine x_bipush (pc := 18) hC dX12_goes_18 (by decide +kernel) ?_
      refine x_iload_n (pc := 20) hC dX12_goes_20 rfl ?_
      refine x_iadd (pc := 21) hC dX12_goes_21 ?_
      refine x_iald (pc := 22) hC (by assumption) (by first | omega | exact rg_of _) dX12_goes_22 ?_
      refine x_ishr (pc := 23) hC dX12_goes_23 ?_
      refine x_iconst (pc := 24) hC dX12_goes_24 ?_
      refine x_iand (pc := 25) hC dX12_goes_25 ?_
      refine x_iconst (pc := 26) hC dX12_goes_26 ?_
      refine x_icmp_ne (tgt := 34) (pc := 27) hC (by first | omega | exact rg_of _) (by first | omega | exact rg_of _) dX12_goes_27 (by decide) (fun c27 => ?_) (fun c27 => ?_)
      · refine x_iconst (pc := 34) hC dX12_goes_34 ?_
        refine x_istore (L' := [_, _, _, _, _, _, _]) (pc := 35) hC dX12_goes_35 rfl rfl ?_
        refine x_aload_n (pc := 37) hC dX12_goes_37 rfl ?_
        refine x_getr (K := 1) (pc := 38) hC fX12_9_12 (by assumption) dX12_goes_38 rfl rfl (by assumption) ?_
        refine x_bipush (pc := 41) hC dX12_goes_41 (by decide +kernel) ?_
        refine x_iload_n (pc := 43) hC dX12_goes_43 rfl ?_
        refine x_iadd (pc := 44) hC dX12_goes_44 ?_
        refine x_iload (pc := 45) hC dX12_goes_45 rfl ?_
        refine x_if_eq (tgt := 70) (pc := 47) hC (by first | omega | exact rg_of _) dX12_goes_47 (by decide) (fun c47 => ?_) (fun c47 => by (exfalso; omega))
        refine x_iconst (pc := 70) hC dX12_goes_70 ?_
        refine x_iast (pc := 71) hC (by assumption) (by first | omega | exact rg_of _) dX12_goes_71 ?_
        refine x_aload_n (pc := 72) hC dX12_goes_72 rfl ?_
        refine x_getr (K := 14) (pc := 73) hC fX12_28_12 (by assumption) dX12_goes_73 rfl rfl (by assumption) ?_
        refine x_iload_n (pc := 76) hC dX12_goes_76 rfl ?_
        refine x_dup2 (pc := 77) hC dX12_goes_77 rfl rfl ?_
        refine x_iald (pc := 78) hC (by assumption) (by first | omega | exact rg_of _) dX12_goes_78 ?_
        refine x_iload (pc := 79) hC dX12_goes_79 rfl ?_
        refine x_if_eq (tgt := 88) (pc := 81) hC (by first | omega | exact rg_of _) dX12_goes_81 (by decide) (fun c81 => ?_) (fun c81 => by (exfalso; omega))
        refine x_iconst (pc := 88) hC dX12_goes_88 ?_
        refine x_iadd (pc := 89) hC dX12_goes_89 ?_
        refine x_iast (pc := 90) hC (by assumption) (by first | omega | exact rg_of _) dX12_goes_90 ?_
        refine X.gen (P := fun m => (∀ q', q' ≠ 47 → q' ≠ 52 → m q' = σ' q') ∧ m 47 = up (σ' 47) (7 + j) (rnF (σ' 47) reached j) ∧ m 52 = up (σ' 52) j (σ' 52 j + bI (bAnd (bShr reached (σ' 47 (62 + j))) 1 = 1))) ⟨fun q' a b => by funext x; simp [wr, a, b], ?_, ?_⟩ (fun σa ha => ?_)
        · rw [rnF, if_neg c27]; funext x; simp [wr, up]
        · rw [bI_f c27]; funext x; simp [wr, up]
        obtain ⟨a1, a2, a3⟩ := ha
        have hR := hR
        have hrn := rnF_in (z := σ' 47) (r := reached) (p := j)
        have ro : RoomOk (σa 47) := RoomOk.congr (fun x hx => by rw [a2, up_ne _ (by omega)]) hroom'
        have e62 : σa 47 (62 + j) = σ' 47 (62 + j) := by rw [a2, up_ne _ (by omega)]
        have e1 : σa 47 (1 + j) = σ' 47 (1 + j) := by rw [a2, up_ne _ (by omega)]
        have e7 : σa 47 (7 + j) = rnF (σ' 47) reached j := by rw [a2, up_eq]
        have e0 : σa 47 0 = σ' 47 0 := by rw [a2, up_ne _ (by omega)]
        have hww := warm_in ro (byF (σa 47) j on)
        refine x_aload_n (pc := 91) hC dX12_goes_91 rfl ?_
        refine x_iload_n (pc := 92) hC dX12_goes_92 rfl ?_
        refine x_iload_n (pc := 93) hC dX12_goes_93 rfl ?_
        refine x_callV (As := [_, _]) (Bs := [_, _]) (pc := 94) hC (s_looks E hk hw ro hj6 (by rw [e62]; exact sj.1) (by rw [e1]; exact sj.2.1) (by rw [e7]; exact hrn) hon (by rw [e0, h0]; exact ht)) wX12_167_12 pX12_looks (by assumption) rfl rfl (by exact Nat.le_of_ble_eq_true rfl) hR (by decide) (by decide) (by decide) rfl dX12_goes_94 (fun r94 σ94 ρ94 ks94 q94 => ?_)
        obtain ⟨rfl, rfl, rfl, hL, hby, hwm, hcl⟩ := q94
        have b47 : σ94 47 = σa 47 := hL.1 47 (by decide) (by decide) (by decide)
        rw [← hwm, ← hcl] at hww
        refine x_aload_n (pc := 97) hC dX12_goes_97 rfl ?_
        refine x_getr (K := 1) (pc := 98) hC fX12_9_12 (by assumption) dX12_goes_98 rfl rfl (by assumption) ?_
        refine x_iconst (pc := 101) hC dX12_goes_101 ?_
        refine x_iload_n (pc := 102) hC dX12_goes_102 rfl ?_
        refine x_iadd (pc := 103) hC dX12_goes_103 ?_
        refine x_iald (pc := 104) hC (by assumption) (by first | omega | exact rg_of _) dX12_goes_104 ?_
        rw [b47, e1]
        refine x_aload_n (pc := 105) hC dX12_goes_105 rfl ?_
        refine x_sipush (pc := 106) hC dX12_goes_106 (by decide +kernel) ?_
        refine x_iconst (pc := 109) hC dX12_goes_109 ?_
        refine x_callV1 (As := [_, _]) (Bs := [_, _]) (pc := 110) hC (s_tellsOf E hk hw (by rw [b47]; exact ro.1) (by omega)) wX12_130_12 pX12_tellsOf (by assumption) rfl rfl (by exact Nat.le_of_ble_eq_true rfl) hR (by decide) (by decide) (by decide) rfl dX12_goes_110 ?_
        rw [b47]
        have hrr := ro.2.2.2.2.2
        refine x_iconst (pc := 113) hC dX12_goes_113 ?_
        refine x_icmp_ne (tgt := 124) (pc := 114) hC (by first | omega | exact rg_of _) (by first | omega | exact rg_of _) dX12_goes_114 (by decide) (fun c114 => ?_) (fun c114 => ?_)
        · refine x_iconst (pc := 124) hC dX12_goes_124 ?_
          refine x_iadd (pc := 125) hC dX12_goes_125 ?_
          refine x_istore (L' := [_, _, _, _, _, _, _]) (pc := 126) hC dX12_goes_126 rfl rfl ?_
          refine x_aload_n (pc := 128) hC dX12_goes_128 rfl ?_
          refine x_sipush (pc := 129) hC dX12_goes_129 (by decide +kernel) ?_
          refine x_iconst (pc := 132) hC dX12_goes_132 ?_
          refine x_callV1 (As := [_, _]) (Bs := [_, _]) (pc := 133) hC (s_tellsOf E hk hw (by rw [b47]; exact ro.1) (by omega)) wX12_130_12 pX12_tellsOf (by assumption) rfl rfl (by exact Nat.le_of_ble_eq_true rfl) hR (by decide) (by decide) (by decide) rfl dX12_goes_133 ?_
          rw [b47]
          refine x_iconst (pc := 136) hC dX12_goes_136 ?_
          refine x_icmp_ne (tgt := 147) (pc := 137) hC (by first | omega | exact rg_of _) (by first | omega | exact rg_of _) dX12_goes_137 (by decide) (fun c137 => ?_) (fun c137 => ?_)
          · refine x_bipush (pc := 147) hC dX12_goes_147 (by decide +kernel) ?_
            refine x_aload_n (pc := 149) hC dX12_goes_149 rfl ?_
            refine x_getr (K := 1) (pc := 150) hC fX12_9_12 (by assumption) dX12_goes_150 rfl rfl (by assumption) ?_
            refine x_bipush (pc := 153) hC dX12_goes_153 (by decide +kernel) ?_
            refine x_iload_n (pc := 155) hC dX12_goes_155 rfl ?_
            refine x_iadd (pc := 156) hC dX12_goes_156 ?_
            refine x_iald (pc := 157) hC (by assumption) (by first | omega | exact rg_of _) dX12_goes_157 ?_
            rw [b47, e7]
            refine x_isub (pc := 158) hC dX12_goes_158 ?_
            refine x_iconst (pc := 159) hC dX12_goes_159 ?_
            refine x_bipush (pc := 160) hC dX12_goes_160 (by decide +kernel) ?_
            refine x_callS1 (As := [_, _, _]) (Bs := [_, _, _]) (pc := 162) hC (s_within E (by omega) (by omega) (by omega)) wX12_147 pX12_within rfl rfl (by exact Nat.le_of_ble_eq_true rfl) hR (by decide) (by decide) (by decide) rfl dX12_goes_162 ?_
            have hwi := within_in (6 - rnF (σ' 47) reached j) 1 6 (by decide)
            refine x_istore (L' := [_, _, _, _, _, _, _]) (pc := 165) hC dX12_goes_165 rfl rfl ?_
            refine x_aload_n (pc := 167) hC dX12_goes_167 rfl ?_
            refine x_getr (K := 1) (pc := 168) hC fX12_9_12 (by assumption) dX12_goes_168 rfl rfl (by assumption) ?_
            refine x_iconst (pc := 171) hC dX12_goes_171 ?_
            refine x_iload_n (pc := 172) hC dX12_goes_172 rfl ?_
            refine x_iadd (pc := 173) hC dX12_goes_173 ?_
            refine x_iload (pc := 174) hC dX12_goes_174 rfl ?_
            refine x_if_eq (tgt := 187) (pc := 176) hC (by first | omega | exact rg_of _) dX12_goes_176 (by decide) (fun c176 => ?_) (fun c176 => by (exfalso; omega))
            refine x_iload (pc := 187) hC dX12_goes_187 rfl ?_
            refine x_iconst (pc := 189) hC dX12_goes_189 ?_
            refine x_bipush (pc := 190) hC dX12_goes_190 (by decide +kernel) ?_
            refine x_callS1 (As := [_, _, _]) (Bs := [_, _, _]) (pc := 192) hC (s_within E (by omega) (by omega) (by omega)) wX12_147 pX12_within rfl rfl (by exact Nat.le_of_ble_eq_true rfl) hR (by decide) (by decide) (by decide) rfl dX12_goes_192 ?_
            refine x_iast (pc := 195) hC (by assumption) (by first | omega | exact rg_of _) dX12_goes_195 ?_
            refine x_iinc (L' := [_, _, _, _, _, _, _]) (pc := 196) hC dX12_goes_196 rfl rfl rfl ?_
            refine x_goto (tgt := 2) (pc := 199) hC dX12_goes_199 (by decide) ?_
            refine X.drop (xLe_s (xLe_s (xLe_s (xLe_s (xLe_n (xLe_n (xLe_n xLe_0))))))) (ih (k + 1) (j + 1) _ (by omega) (by omega) ?_ ?_ ?_)
            · refine hsc.trans ⟨fun q' x1 x2 x3 x4 x5 => ?_, fun x b1 b2 => ?_⟩
              · rw [wr_sw, sw_ne _ x2, hL.1 q' x1 x3 x4, a1 q' x2 x5]
              · rw [wr_p _ (by decide), hL.2 x b1 b2, a1 46 (by decide) (by decide)]
            · show _ = goP (goesF (σ 47) reached on k) reached on k
              rw [wr_sw, sw_eq, b47, ← h47, ← hj, goP]
              rw [if_neg c27, htF, ← a2, if_neg c114]
            · show _ = up (metsF (σ 47) reached (σ 52) k) k (metsF (σ 47) reached (σ 52) k k + bI (bAnd (bShr reached (σ 47 (62 + k))) 1 = 1))
              rw [wr_sw, sw_ne _ (by decide), hL.1 52 (by decide) (by decide) (by decide), a3, ← h52, ← hj, h62]
          · refine x_aload_n (pc := 140) hC dX12_goes_140 rfl ?_
            refine x_geti (K := 13) (pc := 141) hC fX12_127_12 (by assumption) dX12_goes_141 rfl rfl ?_
            rw [hcl]
            refine x_goto (tgt := 165) (pc := 144) hC dX12_goes_144 (by decide) ?_
            have hwi := within_in (6 - rnF (σ' 47) reached j) 1 6 (by decide)
            refine x_istore (L' := [_, _, _, _, _, _, _]) (pc := 165) hC dX12_goes_165 rfl rfl ?_
            refine x_aload_n (pc := 167) hC dX12_goes_167 rfl ?_
            refine x_getr (K := 1) (pc := 168) hC fX12_9_12 (by assumption) dX12_goes_168 rfl rfl (by assumption) ?_
            refine x_iconst (pc := 171) hC dX12_goes_171 ?_
            refine x_iload_n (pc := 172) hC dX12_goes_172 rfl ?_
            refine x_iadd (pc := 173) hC dX12_goes_173 ?_
            refine x_iload (pc := 174) hC dX12_goes_174 rfl ?_
            refine x_if_eq (tgt := 187) (pc := 176) hC (by first | omega | exact rg_of _) dX12_goes_176 (by decide) (fun c176 => ?_) (fun c176 => by (exfalso; omega))
            refine x_iload (pc := 187) hC dX12_goes_187 rfl ?_
            refine x_iconst (pc := 189) hC dX12_goes_189 ?_
            refine x_bipush (pc := 190) hC dX12_goes_190 (by decide +kernel) ?_
            refine x_callS1 (As := [_, _, _]) (Bs := [_, _, _]) (pc := 192) hC (s_within E (by omega) (by omega) (by omega)) wX12_147 pX12_within rfl rfl (by exact Nat.le_of_ble_eq_true rfl) hR (by decide) (by decide) (by decide) rfl dX12_goes_192 ?_
            refine x_iast (pc := 195) hC (by assumption) (by first | omega | exact rg_of _) dX12_goes_195 ?_
            refine x_iinc (L' := [_, _, _, _, _, _, _]) (pc := 196) hC dX12_goes_196 rfl rfl rfl ?_
            refine x_goto (tgt := 2) (pc := 199) hC dX12_goes_199 (by decide) ?_
            refine X.drop (xLe_s (xLe_s (xLe_s (xLe_s (xLe_n (xLe_n (xLe_n xLe_0))))))) (ih (k + 1) (j + 1) _ (by omega) (by omega) ?_ ?_ ?_)
            · refine hsc.trans ⟨fun q' x1 x2 x3 x4 x5 => ?_, fun x b1 b2 => ?_⟩
              · rw [wr_sw, sw_ne _ x2, hL.1 q' x1 x3 x4, a1 q' x2 x5]
              · rw [wr_p _ (by decide), hL.2 x b1 b2, a1 46 (by decide) (by decide)]
            · show _ = goP (goesF (σ 47) reached on k) reached on k
              rw [wr_sw, sw_eq, b47, ← h47, ← hj, goP]
              rw [if_neg c27, htF, ← a2, if_neg c114]
            · show _ = up (metsF (σ 47) reached (σ 52) k) k (metsF (σ 47) reached (σ 52) k k + bI (bAnd (bShr reached (σ 47 (62 + k))) 1 = 1))
              rw [wr_sw, sw_ne _ (by decide), hL.1 52 (by decide) (by decide) (by decide), a3, ← h52, ← hj, h62]
        · refine x_aload_n (pc := 117) hC dX12_goes_117 rfl ?_
          refine x_geti (K := 12) (pc := 118) hC fX12_124_12 (by assumption) dX12_goes_118 rfl rfl ?_
          rw [hwm]
          refine x_goto (tgt := 125) (pc := 121) hC dX12_goes_121 (by decide) ?_
          refine x_iadd (pc := 125) hC dX12_goes_125 ?_
          refine x_istore (L' := [_, _, _, _, _, _, _]) (pc := 126) hC dX12_goes_126 rfl rfl ?_
          refine x_aload_n (pc := 128) hC dX12_goes_128 rfl ?_
          refine x_sipush (pc := 129) hC dX12_goes_129 (by decide +kernel) ?_
          refine x_iconst (pc := 132) hC dX12_goes_132 ?_
          refine x_callV1 (As := [_, _]) (Bs := [_, _]) (pc := 133) hC (s_tellsOf E hk hw (by rw [b47]; exact ro.1) (by omega)) wX12_130_12 pX12_tellsOf (by assumption) rfl rfl (by exact Nat.le_of_ble_eq_true rfl) hR (by decide) (by decide) (by decide) rfl dX12_goes_133 ?_
          rw [b47]
          refine x_iconst (pc := 136) hC dX12_goes_136 ?_
          refine x_icmp_ne (tgt := 147) (pc := 137) hC (by first | omega | exact rg_of _) (by first | omega | exact rg_of _) dX12_goes_137 (by decide) (fun c137 => ?_) (fun c137 => ?_)
          · refine x_bipush (pc := 147) hC dX12_goes_147 (by decide +kernel) ?_
            refine x_aload_n (pc := 149) hC dX12_goes_149 rfl ?_
            refine x_getr (K := 1) (pc := 150) hC fX12_9_12 (by assumption) dX12_goes_150 rfl rfl (by assumption) ?_
            refine x_bipush (pc := 153) hC dX12_goes_153 (by decide +kernel) ?_
            refine x_iload_n (pc := 155) hC dX12_goes_155 rfl ?_
            refine x_iadd (pc := 156) hC dX12_goes_156 ?_
            refine x_iald (pc := 157) hC (by assumption) (by first | omega | exact rg_of _) dX12_goes_157 ?_
            rw [b47, e7]
            refine x_isub (pc := 158) hC dX12_goes_158 ?_
            refine x_iconst (pc := 159) hC dX12_goes_159 ?_
            refine x_bipush (pc := 160) hC dX12_goes_160 (by decide +kernel) ?_
            refine x_callS1 (As := [_, _, _]) (Bs := [_, _, _]) (pc := 162) hC (s_within E (by omega) (by omega) (by omega)) wX12_147 pX12_within rfl rfl (by exact Nat.le_of_ble_eq_true rfl) hR (by decide) (by decide) (by decide) rfl dX12_goes_162 ?_
            have hwi := within_in (6 - rnF (σ' 47) reached j) 1 6 (by decide)
            refine x_istore (L' := [_, _, _, _, _, _, _]) (pc := 165) hC dX12_goes_165 rfl rfl ?_
            refine x_aload_n (pc := 167) hC dX12_goes_167 rfl ?_
            refine x_getr (K := 1) (pc := 168) hC fX12_9_12 (by assumption) dX12_goes_168 rfl rfl (by assumption) ?_
            refine x_iconst (pc := 171) hC dX12_goes_171 ?_
            refine x_iload_n (pc := 172) hC dX12_goes_172 rfl ?_
            refine x_iadd (pc := 173) hC dX12_goes_173 ?_
            refine x_iload (pc := 174) hC dX12_goes_174 rfl ?_
            refine x_if_eq (tgt := 187) (pc := 176) hC (by first | omega | exact rg_of _) dX12_goes_176 (by decide) (fun c176 => ?_) (fun c176 => by (exfalso; omega))
            refine x_iload (pc := 187) hC dX12_goes_187 rfl ?_
            refine x_iconst (pc := 189) hC dX12_goes_189 ?_
            refine x_bipush (pc := 190) hC dX12_goes_190 (by decide +kernel) ?_
            refine x_callS1 (As := [_, _, _]) (Bs := [_, _, _]) (pc := 192) hC (s_within E (by omega) (by omega) (by omega)) wX12_147 pX12_within rfl rfl (by exact Nat.le_of_ble_eq_true rfl) hR (by decide) (by decide) (by decide) rfl dX12_goes_192 ?_
            refine x_iast (pc := 195) hC (by assumption) (by first | omega | exact rg_of _) dX12_goes_195 ?_
            refine x_iinc (L' := [_, _, _, _, _, _, _]) (pc := 196) hC dX12_goes_196 rfl rfl rfl ?_
            refine x_goto (tgt := 2) (pc := 199) hC dX12_goes_199 (by decide) ?_
            refine X.drop (xLe_s (xLe_s (xLe_s (xLe_s (xLe_n (xLe_n (xLe_n xLe_0))))))) (ih (k + 1) (j + 1) _ (by omega) (by omega) ?_ ?_ ?_)
            · refine hsc.trans ⟨fun q' x1 x2 x3 x4 x5 => ?_, fun x b1 b2 => ?_⟩
              · rw [wr_sw, sw_ne _ x2, hL.1 q' x1 x3 x4, a1 q' x2 x5]
              · rw [wr_p _ (by decide), hL.2 x b1 b2, a1 46 (by decide) (by decide)]
            · show _ = goP (goesF (σ 47) reached on k) reached on k
              rw [wr_sw, sw_eq, b47, ← h47, ← hj, goP]
              rw [if_neg c27, htF, ← a2, if_pos c114]
            · show _ = up (metsF (σ 47) reached (σ 52) k) k (metsF (σ 47) reached (σ 52) k k + bI (bAnd (bShr reached (σ 47 (62 + k))) 1 = 1))
              rw [wr_sw, sw_ne _ (by decide), hL.1 52 (by decide) (by decide) (by decide), a3, ← h52, ← hj, h62]
          · refine x_aload_n (pc := 140) hC dX12_goes_140 rfl ?_
            refine x_geti (K := 13) (pc := 141) hC fX12_127_12 (by assumption) dX12_goes_141 rfl rfl ?_
            rw [hcl]
            refine x_goto (tgt := 165) (pc := 144) hC dX12_goes_144 (by decide) ?_
            have hwi := within_in (6 - rnF (σ' 47) reached j) 1 6 (by decide)
            refine x_istore (L' := [_, _, _, _, _, _, _]) (pc := 165) hC dX12_goes_165 rfl rfl ?_
            refine x_aload_n (pc := 167) hC dX12_goes_167 rfl ?_
            refine x_getr (K := 1) (pc := 168) hC fX12_9_12 (by assumption) dX12_goes_168 rfl rfl (by assumption) ?_
            refine x_iconst (pc := 171) hC dX12_goes_171 ?_
            refine x_iload_n (pc := 172) hC dX12_goes_172 rfl ?_
            refine x_iadd (pc := 173) hC dX12_goes_173 ?_
            refine x_iload (pc := 174) hC dX12_goes_174 rfl ?_
            refine x_if_eq (tgt := 187) (pc := 176) hC (by first | omega | exact rg_of _) dX12_goes_176 (by decide) (fun c176 => ?_) (fun c176 => by (exfalso; omega))
            refine x_iload (pc := 187) hC dX12_goes_187 rfl ?_
            refine x_iconst (pc := 189) hC dX12_goes_189 ?_
            refine x_bipush (pc := 190) hC dX12_goes_190 (by decide +kernel) ?_
            refine x_callS1 (As := [_, _, _]) (Bs := [_, _, _]) (pc := 192) hC (s_within E (by omega) (by omega) (by omega)) wX12_147 pX12_within rfl rfl (by exact Nat.le_of_ble_eq_true rfl) hR (by decide) (by decide) (by decide) rfl dX12_goes_192 ?_
            refine x_iast (pc := 195) hC (by assumption) (by first | omega | exact rg_of _) dX12_goes_195 ?_
            refine x_iinc (L' := [_, _, _, _, _, _, _]) (pc := 196) hC dX12_goes_196 rfl rfl rfl ?_
            refine x_goto (tgt := 2) (pc := 199) hC dX12_goes_199 (by decide) ?_
            refine X.drop (xLe_s (xLe_s (xLe_s (xLe_s (xLe_n (xLe_n (xLe_n xLe_0))))))) (ih (k + 1) (j + 1) _ (by omega) (by omega) ?_ ?_ ?_)
            · refine hsc.trans ⟨fun q' x1 x2 x3 x4 x5 => ?_, fun x b1 b2 => ?_⟩
              · rw [wr_sw, sw_ne _ x2, hL.1 q' x1 x3 x4, a1 q' x2 x5]
              · rw [wr_p _ (by decide), hL.2 x b1 b2, a1 46 (by decide) (by decide)]
            · show _ = goP (goesF (σ 47) reached on k) reached on k
              rw [wr_sw, sw_eq, b47, ← h47, ← hj, goP]
              rw [if_neg c27, htF, ← a2, if_pos c114]
            · show _ = up (metsF (σ 47) reached (σ 52) k) k (metsF (σ 47) reached (σ 52) k k + bI (bAnd (bShr reached (σ 47 (62 + k))) 1 = 1))
              rw [wr_sw, sw_ne _ (by decide), hL.1 52 (by decide) (by decide) (by decide), a3, ← h52, ← hj, h62]
      · refine x_iconst (pc := 30) hC dX12_goes_30 ?_
        refine x_goto (tgt := 35) (pc := 31) hC dX12_goes_31 (by decide) ?_
        refine x_istore (L' := [_, _, _, _, _, _, _]) (pc := 35) hC dX12_goes_35 rfl rfl ?_
        refine x_aload_n (pc := 37) hC dX12_goes_37 rfl ?_
        refine x_getr (K := 1) (pc := 38) hC fX12_9_12 (by assumption) dX12_goes_38 rfl rfl (by assumption) ?_
        refine x_bipush (pc := 41) hC dX12_goes_41 (by decide +kernel) ?_
        refine x_iload_n (pc := 43) hC dX12_goes_43 rfl ?_
        refine x_iadd (pc := 44) hC dX12_goes_44 ?_
        refine x_iload (pc := 45) hC dX12_goes_45 rfl ?_
        refine x_if_eq (tgt := 70) (pc := 47) hC (by first | omega | exact rg_of _) dX12_goes_47 (by decide) (fun c47 => by (exfalso; omega)) (fun c47 => ?_)
        refine x_aload_n (pc := 50) hC dX12_goes_50 rfl ?_
        refine x_getr (K := 1) (pc := 51) hC fX12_9_12 (by assumption) dX12_goes_51 rfl rfl (by assumption) ?_
        refine x_bipush (pc := 54) hC dX12_goes_54 (by decide +kernel) ?_
        refine x_iload_n (pc := 56) hC dX12_goes_56 rfl ?_
        refine x_iadd (pc := 57) hC dX12_goes_57 ?_
        refine x_iald (pc := 58) hC (by assumption) (by first | omega | exact rg_of _) dX12_goes_58 ?_
        refine x_iconst (pc := 59) hC dX12_goes_59 ?_
        refine x_iadd (pc := 60) hC dX12_goes_60 ?_
        refine x_iconst (pc := 61) hC dX12_goes_61 ?_
        refine x_bipush (pc := 62) hC dX12_goes_62 (by decide +kernel) ?_
        refine x_callS1 (As := [_, _, _]) (Bs := [_, _, _]) (pc := 64) hC (s_within E (by omega) (by omega) (by omega)) wX12_147 pX12_within rfl rfl (by exact Nat.le_of_ble_eq_true rfl) hR (by decide) (by decide) (by decide) rfl dX12_goes_64 ?_
        refine x_goto (tgt := 71) (pc := 67) hC dX12_goes_67 (by decide) ?_
        refine x_iast (pc := 71) hC (by assumption) (by first | omega | exact rg_of _) dX12_goes_71 ?_
        refine x_aload_n (pc := 72) hC dX12_goes_72 rfl ?_
        refine x_getr (K := 14) (pc := 73) hC fX12_28_12 (by assumption) dX12_goes_73 rfl rfl (by assumption) ?_
        refine x_iload_n (pc := 76) hC dX12_goes_76 rfl ?_
        refine x_dup2 (pc := 77) hC dX12_goes_77 rfl rfl ?_
        refine x_iald (pc := 78) hC (by assumption) (by first | omega | exact rg_of _) dX12_goes_78 ?_
        refine x_iload (pc := 79) hC dX12_goes_79 rfl ?_
        refine x_if_eq (tgt := 88) (pc := 81) hC (by first | omega | exact rg_of _) dX12_goes_81 (by decide) (fun c81 => by (exfalso; omega)) (fun c81 => ?_)
        refine x_iconst (pc := 84) hC dX12_goes_84 ?_
        refine x_goto (tgt := 89) (pc := 85) hC dX12_goes_85 (by decide) ?_
        refine x_iadd (pc := 89) hC dX12_goes_89 ?_
        refine x_iast (pc := 90) hC (by assumption) (by first | omega | exact rg_of _) dX12_goes_90 ?_
        refine X.gen (P := fun m => (∀ q', q' ≠ 47 → q' ≠ 52 → m q' = σ' q') ∧ m 47 = up (σ' 47) (7 + j) (rnF (σ' 47) reached j) ∧ m 52 = up (σ' 52) j (σ' 52 j + bI (bAnd (bShr reached (σ' 47 (62 + j))) 1 = 1))) ⟨fun q' a b => by funext x; simp [wr, a, b], ?_, ?_⟩ (fun σa ha => ?_)
        · rw [rnF, if_pos c27]; funext x; simp [wr, up]
        · rw [bI_t c27]; funext x; simp [wr, up]
        obtain ⟨a1, a2, a3⟩ := ha
        have hR := hR
        have hrn := rnF_in (z := σ' 47) (r := reached) (p := j)
        have ro : RoomOk (σa 47) := RoomOk.congr (fun x hx => by rw [a2, up_ne _ (by omega)]) hroom'
        have e62 : σa 47 (62 + j) = σ' 47 (62 + j) := by rw [a2, up_ne _ (by omega)]
        have e1 : σa 47 (1 + j) = σ' 47 (1 + j) := by rw [a2, up_ne _ (by omega)]
        have e7 : σa 47 (7 + j) = rnF (σ' 47) reached j := by rw [a2, up_eq]
        have e0 : σa 47 0 = σ' 47 0 := by rw [a2, up_ne _ (by omega)]
        have hww := warm_in ro (byF (σa 47) j on)
        refine x_aload_n (pc := 91) hC dX12_goes_91 rfl ?_
        refine x_iload_n (pc := 92) hC dX12_goes_92 rfl ?_
        refine x_iload_n (pc := 93) hC dX12_goes_93 rfl ?_
        refine x_callV (As := [_, _]) (Bs := [_, _]) (pc := 94) hC (s_looks E hk hw ro hj6 (by rw [e62]; exact sj.1) (by rw [e1]; exact sj.2.1) (by rw [e7]; exact hrn) hon (by rw [e0, h0]; exact ht)) wX12_167_12 pX12_looks (by assumption) rfl rfl (by exact Nat.le_of_ble_eq_true rfl) hR (by decide) (by decide) (by decide) rfl dX12_goes_94 (fun r94 σ94 ρ94 ks94 q94 => ?_)
        obtain ⟨rfl, rfl, rfl, hL, hby, hwm, hcl⟩ := q94
        have b47 : σ94 47 = σa 47 := hL.1 47 (by decide) (by decide) (by decide)
        rw [← hwm, ← hcl] at hww
        refine x_aload_n (pc := 97) hC dX12_goes_97 rfl ?_
        refine x_getr (K := 1) (pc := 98) hC fX12_9_12 (by assumption) dX12_goes_98 rfl rfl (by assumption) ?_
        refine x_iconst (pc := 101) hC dX12_goes_101 ?_
        refine x_iload_n (pc := 102) hC dX12_goes_102 rfl ?_
        refine x_iadd (pc := 103) hC dX12_goes_103 ?_
        refine x_iald (pc := 104) hC (by assumption) (by first | omega | exact rg_of _) dX12_goes_104 ?_
        rw [b47, e1]
        refine x_aload_n (pc := 105) hC dX12_goes_105 rfl ?_
        refine x_sipush (pc := 106) hC dX12_goes_106 (by decide +kernel) ?_
        refine x_iconst (pc := 109) hC dX12_goes_109 ?_
        refine x_callV1 (As := [_, _]) (Bs := [_, _]) (pc := 110) hC (s_tellsOf E hk hw (by rw [b47]; exact ro.1) (by omega)) wX12_130_12 pX12_tellsOf (by assumption) rfl rfl (by exact Nat.le_of_ble_eq_true rfl) hR (by decide) (by decide) (by decide) rfl dX12_goes_110 ?_
        rw [b47]
        have hrr := ro.2.2.2.2.2
        refine x_iconst (pc := 113) hC dX12_goes_113 ?_
        refine x_icmp_ne (tgt := 124) (pc := 114) hC (by first | omega | exact rg_of _) (by first | omega | exact rg_of _) dX12_goes_114 (by decide) (fun c114 => ?_) (fun c114 => ?_)
        · refine x_iconst (pc := 124) hC dX12_goes_124 ?_
          refine x_iadd (pc := 125) hC dX12_goes_125 ?_
          refine x_istore (L' := [_, _, _, _, _, _, _]) (pc := 126) hC dX12_goes_126 rfl rfl ?_
          refine x_aload_n (pc := 128) hC dX12_goes_128 rfl ?_
          refine x_sipush (pc := 129) hC dX12_goes_129 (by decide +kernel) ?_
          refine x_iconst (pc := 132) hC dX12_goes_132 ?_
          refine x_callV1 (As := [_, _]) (Bs := [_, _]) (pc := 133) hC (s_tellsOf E hk hw (by rw [b47]; exact ro.1) (by omega)) wX12_130_12 pX12_tellsOf (by assumption) rfl rfl (by exact Nat.le_of_ble_eq_true rfl) hR (by decide) (by decide) (by decide) rfl dX12_goes_133 ?_
          rw [b47]
          refine x_iconst (pc := 136) hC dX12_goes_136 ?_
          refine x_icmp_ne (tgt := 147) (pc := 137) hC (by first | omega | exact rg_of _) (by first | omega | exact rg_of _) dX12_goes_137 (by decide) (fun c137 => ?_) (fun c137 => ?_)
          · refine x_bipush (pc := 147) hC dX12_goes_147 (by decide +kernel) ?_
            refine x_aload_n (pc := 149) hC dX12_goes_149 rfl ?_
            refine x_getr (K := 1) (pc := 150) hC fX12_9_12 (by assumption) dX12_goes_150 rfl rfl (by assumption) ?_
            refine x_bipush (pc := 153) hC dX12_goes_153 (by decide +kernel) ?_
            refine x_iload_n (pc := 155) hC dX12_goes_155 rfl ?_
            refine x_iadd (pc := 156) hC dX12_goes_156 ?_
            refine x_iald (pc := 157) hC (by assumption) (by first | omega | exact rg_of _) dX12_goes_157 ?_
            rw [b47, e7]
            refine x_isub (pc := 158) hC dX12_goes_158 ?_
            refine x_iconst (pc := 159) hC dX12_goes_159 ?_
            refine x_bipush (pc := 160) hC dX12_goes_160 (by decide +kernel) ?_
            refine x_callS1 (As := [_, _, _]) (Bs := [_, _, _]) (pc := 162) hC (s_within E (by omega) (by omega) (by omega)) wX12_147 pX12_within rfl rfl (by exact Nat.le_of_ble_eq_true rfl) hR (by decide) (by decide) (by decide) rfl dX12_goes_162 ?_
            have hwi := within_in (6 - rnF (σ' 47) reached j) 1 6 (by decide)
            refine x_istore (L' := [_, _, _, _, _, _, _]) (pc := 165) hC dX12_goes_165 rfl rfl ?_
            refine x_aload_n (pc := 167) hC dX12_goes_167 rfl ?_
            refine x_getr (K := 1) (pc := 168) hC fX12_9_12 (by assumption) dX12_goes_168 rfl rfl (by assumption) ?_
            refine x_iconst (pc := 171) hC dX12_goes_171 ?_
            refine x_iload_n (pc := 172) hC dX12_goes_172 rfl ?_
            refine x_iadd (pc := 173) hC dX12_goes_173 ?_
            refine x_iload (pc := 174) hC dX12_goes_174 rfl ?_
            refine x_if_eq (tgt := 187) (pc := 176) hC (by first | omega | exact rg_of _) dX12_goes_176 (by decide) (fun c176 => by (exfalso; omega)) (fun c176 => ?_)
            refine x_iload (pc := 179) hC dX12_goes_179 rfl ?_
            refine x_iload (pc := 181) hC dX12_goes_181 rfl ?_
            refine x_isub (pc := 183) hC dX12_goes_183 ?_
            refine x_goto (tgt := 189) (pc := 184) hC dX12_goes_184 (by decide) ?_
            refine x_iconst (pc := 189) hC dX12_goes_189 ?_
            refine x_bipush (pc := 190) hC dX12_goes_190 (by decide +kernel) ?_
            refine x_callS1 (As := [_, _, _]) (Bs := [_, _, _]) (pc := 192) hC (s_within E (by omega) (by omega) (by omega)) wX12_147 pX12_within rfl rfl (by exact Nat.le_of_ble_eq_true rfl) hR (by decide) (by decide) (by decide) rfl dX12_goes_192 ?_
            refine x_iast (pc := 195) hC (by assumption) (by first | omega | exact rg_of _) dX12_goes_195 ?_
            refine x_iinc (L' := [_, _, _, _, _, _, _]) (pc := 196) hC dX12_goes_196 rfl rfl rfl ?_
            refine x_goto (tgt := 2) (pc := 199) hC dX12_goes_199 (by decide) ?_
            refine X.drop (xLe_s (xLe_s (xLe_s (xLe_s (xLe_n (xLe_n (xLe_n xLe_0))))))) (ih (k + 1) (j + 1) _ (by omega) (by omega) ?_ ?_ ?_)
            · refine hsc.trans ⟨fun q' x1 x2 x3 x4 x5 => ?_, fun x b1 b2 => ?_⟩
              · rw [wr_sw, sw_ne _ x2, hL.1 q' x1 x3 x4, a1 q' x2 x5]
              · rw [wr_p _ (by decide), hL.2 x b1 b2, a1 46 (by decide) (by decide)]
            · show _ = goP (goesF (σ 47) reached on k) reached on k
              rw [wr_sw, sw_eq, b47, ← h47, ← hj, goP]
              rw [if_pos c27, htF, ← a2, if_neg c114, clF, if_neg c137, e7]
            · show _ = up (metsF (σ 47) reached (σ 52) k) k (metsF (σ 47) reached (σ 52) k k + bI (bAnd (bShr reached (σ 47 (62 + k))) 1 = 1))
              rw [wr_sw, sw_ne _ (by decide), hL.1 52 (by decide) (by decide) (by decide), a3, ← h52, ← hj, h62]
          · refine x_aload_n (pc := 140) hC dX12_goes_140 rfl ?_
            refine x_geti (K := 13) (pc := 141) hC fX12_127_12 (by assumption) dX12_goes_141 rfl rfl ?_
            rw [hcl]
            refine x_goto (tgt := 165) (pc := 144) hC dX12_goes_144 (by decide) ?_
            have hwi := within_in (6 - rnF (σ' 47) reached j) 1 6 (by decide)
            refine x_istore (L' := [_, _, _, _, _, _, _]) (pc := 165) hC dX12_goes_165 rfl rfl ?_
            refine x_aload_n (pc := 167) hC dX12_goes_167 rfl ?_
            refine x_getr (K := 1) (pc := 168) hC fX12_9_12 (by assumption) dX12_goes_168 rfl rfl (by assumption) ?_
            refine x_iconst (pc := 171) hC dX12_goes_171 ?_
            refine x_iload_n (pc := 172) hC dX12_goes_172 rfl ?_
            refine x_iadd (pc := 173) hC dX12_goes_173 ?_
            refine x_iload (pc := 174) hC dX12_goes_174 rfl ?_
            refine x_if_eq (tgt := 187) (pc := 176) hC (by first | omega | exact rg_of _) dX12_goes_176 (by decide) (fun c176 => by (exfalso; omega)) (fun c176 => ?_)
            refine x_iload (pc := 179) hC dX12_goes_179 rfl ?_
            refine x_iload (pc := 181) hC dX12_goes_181 rfl ?_
            refine x_isub (pc := 183) hC dX12_goes_183 ?_
            refine x_goto (tgt := 189) (pc := 184) hC dX12_goes_184 (by decide) ?_
            refine x_iconst (pc := 189) hC dX12_goes_189 ?_
            refine x_bipush (pc := 190) hC dX12_goes_190 (by decide +kernel) ?_
            refine x_callS1 (As := [_, _, _]) (Bs := [_, _, _]) (pc := 192) hC (s_within E (by omega) (by omega) (by omega)) wX12_147 pX12_within rfl rfl (by exact Nat.le_of_ble_eq_true rfl) hR (by decide) (by decide) (by decide) rfl dX12_goes_192 ?_
            refine x_iast (pc := 195) hC (by assumption) (by first | omega | exact rg_of _) dX12_goes_195 ?_
            refine x_iinc (L' := [_, _, _, _, _, _, _]) (pc := 196) hC dX12_goes_196 rfl rfl rfl ?_
            refine x_goto (tgt := 2) (pc := 199) hC dX12_goes_199 (by decide) ?_
            refine X.drop (xLe_s (xLe_s (xLe_s (xLe_s (xLe_n (xLe_n (xLe_n xLe_0))))))) (ih (k + 1) (j + 1) _ (by omega) (by omega) ?_ ?_ ?_)
            · refine hsc.trans ⟨fun q' x1 x2 x3 x4 x5 => ?_, fun x b1 b2 => ?_⟩
              · rw [wr_sw, sw_ne _ x2, hL.1 q' x1 x3 x4, a1 q' x2 x5]
              · rw [wr_p _ (by decide), hL.2 x b1 b2, a1 46 (by decide) (by decide)]
            · show _ = goP (goesF (σ 47) reached on k) reached on k
              rw [wr_sw, sw_eq, b47, ← h47, ← hj, goP]
              rw [if_pos c27, htF, ← a2, if_neg c114, clF, if_pos c137]
            · show _ = up (metsF (σ 47) reached (σ 52) k) k (metsF (σ 47) reached (σ 52) k k + bI (bAnd (bShr reached (σ 47 (62 + k))) 1 = 1))
              rw [wr_sw, sw_ne _ (by decide), hL.1 52 (by decide) (by decide) (by decide), a3, ← h52, ← hj, h62]
        · refine x_aload_n (pc := 117) hC dX12_goes_117 rfl ?_
          refine x_geti (K := 12) (pc := 118) hC fX12_124_12 (by assumption) dX12_goes_118 rfl rfl ?_
          rw [hwm]
          refine x_goto (tgt := 125) (pc := 121) hC dX12_goes_121 (by decide) ?_
          refine x_iadd (pc := 125) hC dX12_goes_125 ?_
          refine x_istore (L' := [_, _, _, _, _, _, _]) (pc := 126) hC dX12_goes_126 rfl rfl ?_
          refine x_aload_n (pc := 128) hC dX12_goes_128 rfl ?_
          refine x_sipush (pc := 129) hC dX12_goes_129 (by decide +kernel) ?_
          refine x_iconst (pc := 132) hC dX12_goes_132 ?_
          refine x_callV1 (As := [_, _]) (Bs := [_, _]) (pc := 133) hC (s_tellsOf E hk hw (by rw [b47]; exact ro.1) (by omega)) wX12_130_12 pX12_tellsOf (by assumption) rfl rfl (by exact Nat.le_of_ble_eq_true rfl) hR (by decide) (by decide) (by decide) rfl dX12_goes_133 ?_
          rw [b47]
          refine x_iconst (pc := 136) hC dX12_goes_136 ?_
          refine x_icmp_ne (tgt := 147) (pc := 137) hC (by first | omega | exact rg_of _) (by first | omega | exact rg_of _) dX12_goes_137 (by decide) (fun c137 => ?_) (fun c137 => ?_)
          · refine x_bipush (pc := 147) hC dX12_goes_147 (by decide +kernel) ?_
            refine x_aload_n (pc := 149) hC dX12_goes_149 rfl ?_
            refine x_getr (K := 1) (pc := 150) hC fX12_9_12 (by assumption) dX12_goes_150 rfl rfl (by assumption) ?_
            refine x_bipush (pc := 153) hC dX12_goes_153 (by decide +kernel) ?_
            refine x_iload_n (pc := 155) hC dX12_goes_155 rfl ?_
            refine x_iadd (pc := 156) hC dX12_goes_156 ?_
            refine x_iald (pc := 157) hC (by assumption) (by first | omega | exact rg_of _) dX12_goes_157 ?_
            rw [b47, e7]
            refine x_isub (pc := 158) hC dX12_goes_158 ?_
            refine x_iconst (pc := 159) hC dX12_goes_159 ?_
            refine x_bipush (pc := 160) hC dX12_goes_160 (by decide +kernel) ?_
            refine x_callS1 (As := [_, _, _]) (Bs := [_, _, _]) (pc := 162) hC (s_within E (by omega) (by omega) (by omega)) wX12_147 pX12_within rfl rfl (by exact Nat.le_of_ble_eq_true rfl) hR (by decide) (by decide) (by decide) rfl dX12_goes_162 ?_
            have hwi := within_in (6 - rnF (σ' 47) reached j) 1 6 (by decide)
            refine x_istore (L' := [_, _, _, _, _, _, _]) (pc := 165) hC dX12_goes_165 rfl rfl ?_
            refine x_aload_n (pc := 167) hC dX12_goes_167 rfl ?_
            refine x_getr (K := 1) (pc := 168) hC fX12_9_12 (by assumption) dX12_goes_168 rfl rfl (by assumption) ?_
            refine x_iconst (pc := 171) hC dX12_goes_171 ?_
            refine x_iload_n (pc := 172) hC dX12_goes_172 rfl ?_
            refine x_iadd (pc := 173) hC dX12_goes_173 ?_
            refine x_iload (pc := 174) hC dX12_goes_174 rfl ?_
            refine x_if_eq (tgt := 187) (pc := 176) hC (by first | omega | exact rg_of _) dX12_goes_176 (by decide) (fun c176 => by (exfalso; omega)) (fun c176 => ?_)
            refine x_iload (pc := 179) hC dX12_goes_179 rfl ?_
            refine x_iload (pc := 181) hC dX12_goes_181 rfl ?_
            refine x_isub (pc := 183) hC dX12_goes_183 ?_
            refine x_goto (tgt := 189) (pc := 184) hC dX12_goes_184 (by decide) ?_
            refine x_iconst (pc := 189) hC dX12_goes_189 ?_
            refine x_bipush (pc := 190) hC dX12_goes_190 (by decide +kernel) ?_
            refine x_callS1 (As := [_, _, _]) (Bs := [_, _, _]) (pc := 192) hC (s_within E (by omega) (by omega) (by omega)) wX12_147 pX12_within rfl rfl (by exact Nat.le_of_ble_eq_true rfl) hR (by decide) (by decide) (by decide) rfl dX12_goes_192 ?_
            refine x_iast (pc := 195) hC (by assumption) (by first | omega | exact rg_of _) dX12_goes_195 ?_
            refine x_iinc (L' := [_, _, _, _, _, _, _]) (pc := 196) hC dX12_goes_196 rfl rfl rfl ?_
            refine x_goto (tgt := 2) (pc := 199) hC dX12_goes_199 (by decide) ?_
            refine X.drop (xLe_s (xLe_s (xLe_s (xLe_s (xLe_n (xLe_n (xLe_n xLe_0))))))) (ih (k + 1) (j + 1) _ (by omega) (by omega) ?_ ?_ ?_)
            · refine hsc.trans ⟨fun q' x1 x2 x3 x4 x5 => ?_, fun x b1 b2 => ?_⟩
              · rw [wr_sw, sw_ne _ x2, hL.1 q' x1 x3 x4, a1 q' x2 x5]
              · rw [wr_p _ (by decide), hL.2 x b1 b2, a1 46 (by decide) (by decide)]
            · show _ = goP (goesF (σ 47) reached on k) reached on k
              rw [wr_sw, sw_eq, b47, ← h47, ← hj, goP]
              rw [if_pos c27, htF, ← a2, if_pos c114, clF, if_neg c137, e7]
            · show _ = up (metsF (σ 47) reached (σ 52) k) k (metsF (σ 47) reached (σ 52) k k + bI (bAnd (bShr reached (σ 47 (62 + k))) 1 = 1))
              rw [wr_sw, sw_ne _ (by decide), hL.1 52 (by decide) (by decide) (by decide), a3, ← h52, ← hj, h62]
          · refine x_aload_n (pc := 140) hC dX12_goes_140 rfl ?_
            refine x_geti (K := 13) (pc := 141) hC fX12_127_12 (by assumption) dX12_goes_141 rfl rfl ?_
            rw [hcl]
            refine x_goto (tgt := 165) (pc := 144) hC dX12_goes_144 (by decide) ?_
            have hwi := within_in (6 - rnF (σ' 47) reached j) 1 6 (by decide)
            refine x_istore (L' := [_, _, _, _, _, _, _]) (pc := 165) hC dX12_goes_165 rfl rfl ?_
            refine x_aload_n (pc := 167) hC dX12_goes_167 rfl ?_
            refine x_getr (K := 1) (pc := 168) hC fX12_9_12 (by assumption) dX12_goes_168 rfl rfl (by assumption) ?_
            refine x_iconst (pc := 171) hC dX12_goes_171 ?_
            refine x_iload_n (pc := 172) hC dX12_goes_172 rfl ?_
            refine x_iadd (pc := 173) hC dX12_goes_173 ?_
            refine x_iload (pc := 174) hC dX12_goes_174 rfl ?_
            refine x_if_eq (tgt := 187) (pc := 176) hC (by first | omega | exact rg_of _) dX12_goes_176 (by decide) (fun c176 => by (exfalso; omega)) (fun c176 => ?_)
            refine x_iload (pc := 179) hC dX12_goes_179 rfl ?_
            refine x_iload (pc := 181) hC dX12_goes_181 rfl ?_
            refine x_isub (pc := 183) hC dX12_goes_183 ?_
            refine x_goto (tgt := 189) (pc := 184) hC dX12_goes_184 (by decide) ?_
            refine x_iconst (pc := 189) hC dX12_goes_189 ?_
            refine x_bipush (pc := 190) hC dX12_goes_190 (by decide +kernel) ?_
            refine x_callS1 (As := [_, _, _]) (Bs := [_, _, _]) (pc := 192) hC (s_within E (by omega) (by omega) (by omega)) wX12_147 pX12_within rfl rfl (by exact Nat.le_of_ble_eq_true rfl) hR (by decide) (by decide) (by decide) rfl dX12_goes_192 ?_
            refine x_iast (pc := 195) hC (by assumption) (by first | omega | exact rg_of _) dX12_goes_195 ?_
            refine x_iinc (L' := [_, _, _, _, _, _, _]) (pc := 196) hC dX12_goes_196 rfl rfl rfl ?_
            refine x_goto (tgt := 2) (pc := 199) hC dX12_goes_199 (by decide) ?_
            refine X.drop (xLe_s (xLe_s (xLe_s (xLe_s (xLe_n (xLe_n (xLe_n xLe_0))))))) (ih (k + 1) (j + 1) _ (by omega) (by omega) ?_ ?_ ?_)
            · refine hsc.trans ⟨fun q' x1 x2 x3 x4 x5 => ?_, fun x b1 b2 => ?_⟩
              · rw [wr_sw, sw_ne _ x2, hL.1 q' x1 x3 x4, a1 q' x2 x5]
              · rw [wr_p _ (by decide), hL.2 x b1 b2, a1 46 (by decide) (by decide)]
            · show _ = goP (goesF (σ 47) reached on k) reached on k
              rw [wr_sw, sw_eq, b47, ← h47, ← hj, goP]
              rw [if_pos c27, htF, ← a2, if_pos c114, clF, if_pos c137]
            · show _ = up (metsF (σ 47) reached (σ 52) k) k (metsF (σ 47) reached (σ 52) k k + bI (bAnd (bShr reached (σ 47 (62 + k))) 1 = 1))
              rw [wr_sw, sw_ne _ (by decide), hL.1 52 (by decide) (by decide) (by decide), a3, ← h52, ← hj, h62]
  refine x_iconst (pc := 0) hC dX12_goes_0 ?_
  refine x_istore_n (L' := [_, _, _, _, _, _, _]) (pc := 1) hC dX12_goes_1 rfl rfl ?_
  exact loop (σ 47 14).toNat 0 0 σ rfl (by omega) (Sc.rf σ) rfl rfl
