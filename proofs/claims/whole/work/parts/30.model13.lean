def sawF (z : zS) (bits place t : Int) : Nat → Int
  | 0 => 0
  | f + 1 => if sawF z bits place t f ≠ 0 ∨ (bAnd (bShr bits f) 1 = 1 ∧ bAnd (bShr (reachF z f t) place) 1 = 1) then 1 else 0
def rnnF (z : zS) (bits place : Int) : Nat → Int
  | 0 => 0
  | i + 1 => if sawF z bits place (z 0 + i) (z 13).toNat = 0 then 0 else rnnF z bits place i + 1
def ppI (z : zS) (bits place acc : Int) : Nat → Int
  | 0 => acc
  | i + 1 => bOr (ppI z bits place acc i) (if rnnF z bits place (i + 1) < flyF z then 0 else bShl 1 place)
def ppO (z : zS) (bits : Int) (n : Nat) : Nat → Int
  | 0 => 0
  | k + 1 => ppI z bits k (ppO z bits n k) n
theorem saw_01 (z : zS) (bits place t : Int) : ∀ n, sawF z bits place t n = 0 ∨ sawF z bits place t n = 1
  | 0 => Or.inl rfl
  | n + 1 => by unfold sawF; split <;> simp
theorem rnn_in (z : zS) (bits place : Int) : ∀ n, 0 ≤ rnnF z bits place n ∧ rnnF z bits place n ≤ n
  | 0 => by simp [rnnF]
  | n + 1 => by
    have := rnn_in z bits place n
    unfold rnnF; split <;> omega
theorem fly_in {z : zS} (h : RoomOk z) : 1 ≤ flyF z ∧ flyF z ≤ 99 := by
  have := h.2.2.2.2.1
  unfold flyF; split <;> omega
set_option maxHeartbeats 4000000 in
set_option maxRecDepth 100000 in
theorem s_papersBy (E : xE) {σ : xM} {ρ : xR} {ks : xKs} (hk : MK ks) (hw : MW ρ) {q n : Int} (hq : rg q) (hpl : PlOk (σ 47)) (hn : 1 ≤ n ∧ n ≤ 60) : Sp E yX12_papersBy kX12_papersBy 4 0 0 [.ref 46, .int (iI q), .int (iI n)] σ ρ ks (Fn (some (.int (iI (ppO (σ 47) q n.toNat 10)))) (σ) ρ ks) := by
  obtain ⟨k46, k47, k48, k49, k50, k51, k52, k53, k54⟩ := id hk
  obtain ⟨w1, w2, w3, w10, w11, w14, w15, w16⟩ := id hw
  refine x_enter (own := RX12) (L := [_, _, _, _, _, _, _, _, _]) (by decide +kernel) rfl (by exact Nat.le_of_ble_eq_true rfl) rfl (fun p e R s m args below meth c Z hZ hC hR hin => ?_)
  obtain ⟨g1, g2, g3, g4⟩ := id hpl
  have hf13 := g1.1
  have hfl := fly_in g3
  have hr1 := g3.1
  have loop : ∀ (i k : Nat) (pl res : Int), pl = k → i + k = 10 → res = ppO (σ 47) q n.toNat k → X E p e R s m args below meth c Z 0 0 σ ρ ks 5 [some (.ref 46), some (.int (iI q)), some (.int (iI n)), some (.int (iI res)), some (.int (iI pl)), none, none, none, none] [] := by
    intro i
    induction i with
    | zero =>
      intro k pl res hp hi hres
      have hk10 : k = 10 := by omega
      subst hk10
      refine x_iload (pc := 5) hC dX12_papersBy_5 rfl ?_
      refine x_bipush (pc := 7) hC dX12_papersBy_7 (by decide +kernel) ?_
      refine x_icmp_ge (tgt := 146) (pc := 9) hC (by omega) (by omega) dX12_papersBy_9 (by decide) (fun c9 => ?_) (fun c9 => by (exfalso; omega))
      refine x_iload_n (pc := 146) hC dX12_papersBy_146 rfl ?_
      refine x_ireturn hC hZ dX12_papersBy_147 (by decide) (by decide) ?_
      exact ⟨congrArg (fun z => some (Value.int (iI z))) (by rw [hres]), rfl, rfl, rfl⟩
    | succ i ih =>
      intro k pl res0 hp hi hres0
      have loop2 : ∀ (i2 k2 : Nat) (t b0 res : Int), t = σ 47 0 + k2 → i2 + k2 = n.toNat → b0 = rnnF (σ 47) q pl k2 → res = ppI (σ 47) q pl res0 k2 → X E p e R s m args below meth c Z 0 0 σ ρ ks 23 [some (.ref 46), some (.int (iI q)), some (.int (iI n)), some (.int (iI res)), some (.int (iI pl)), some (.int (iI b0)), some (.int (iI t)), none, none] [] := by
        intro i2
        induction i2 with
        | zero =>
          intro k2 t b0 res ht2 hi2 hrun hres
          refine x_iload (pc := 23) hC dX12_papersBy_23 rfl ?_
          refine x_aload_n (pc := 25) hC dX12_papersBy_25 rfl ?_
          refine x_getr (K := 1) (pc := 26) hC fX12_9_12 (by assumption) dX12_papersBy_26 rfl rfl (by assumption) ?_
          refine x_iconst (pc := 29) hC dX12_papersBy_29 ?_
          refine x_iald (pc := 30) hC (by assumption) (by omega) dX12_papersBy_30 ?_
          refine x_iload_n (pc := 31) hC dX12_papersBy_31 rfl ?_
          refine x_iadd (pc := 32) hC dX12_papersBy_32 ?_
          refine x_icmp_ge (tgt := 140) (pc := 33) hC (by omega) (by omega) dX12_papersBy_33 (by decide) (fun c33 => ?_) (fun c33 => by (exfalso; omega))
          refine x_iinc (L' := [_, _, _, _, _, _, _, _, _]) (pc := 140) hC dX12_papersBy_140 rfl rfl rfl ?_
          refine x_goto (tgt := 5) (pc := 143) hC dX12_papersBy_143 (by decide) ?_
          refine X.drop (xLe_s (xLe_s (xLe_s (xLe_s (xLe_s (xLe_n (xLe_n (xLe_n (xLe_n xLe_0))))))))) (ih (k + 1) (pl + 1) _ (by omega) (by omega) ?_)
          rw [hres, show k2 = n.toNat by omega, hres0, hp]; rfl
        | succ i2 ih2 =>
          intro k2 t b0 res ht2 hi2 hrun hres
          have hrn := rnn_in (σ 47) q pl k2
          rw [← hrun] at hrn
          have loop3 : ∀ (i3 k3 : Nat) (f a : Int), f = k3 → (k3 : Int) + i3 = σ 47 13 → a = sawF (σ 47) q pl t k3 → X E p e R s m args below meth c Z 0 0 σ ρ ks 42 [some (.ref 46), some (.int (iI q)), some (.int (iI n)), some (.int (iI res)), some (.int (iI pl)), some (.int (iI b0)), some (.int (iI t)), some (.int (iI a)), some (.int (iI f))] [] := by
            intro i3
            induction i3 with
            | zero =>
              intro k3 f a hf hi3 ha
              have ha01 := saw_01 (σ 47) q pl t k3
              rw [← ha] at ha01
              refine x_iload (pc := 42) hC dX12_papersBy_42 rfl ?_
              refine x_aload_n (pc := 44) hC dX12_papersBy_44 rfl ?_
              refine x_getr (K := 1) (pc := 45) hC fX12_9_12 (by assumption) dX12_papersBy_45 rfl rfl (by assumption) ?_
              refine x_bipush (pc := 48) hC dX12_papersBy_48 (by decide +kernel) ?_
              refine x_iald (pc := 50) hC (by assumption) (by omega) dX12_papersBy_50 ?_
              refine x_icmp_ge (tgt := 99) (pc := 51) hC (by omega) (by omega) dX12_papersBy_51 (by decide) (fun c51 => ?_) (fun c51 => by (exfalso; omega))
              refine x_iload (pc := 99) hC dX12_papersBy_99 rfl ?_
              refine x_if_eq (tgt := 111) (pc := 101) hC (by omega) dX12_papersBy_101 (by decide) (fun c101 => ?_) (fun c101 => ?_)
              · refine x_iconst (pc := 111) hC dX12_papersBy_111 ?_
                refine x_istore (L' := [_, _, _, _, _, _, _, _, _]) (pc := 112) hC dX12_papersBy_112 rfl rfl ?_
                refine x_iload_n (pc := 114) hC dX12_papersBy_114 rfl ?_
                refine x_iload (pc := 115) hC dX12_papersBy_115 rfl ?_
                refine x_aload_n (pc := 117) hC dX12_papersBy_117 rfl ?_
                refine x_callV1 (As := []) (Bs := []) (pc := 118) hC (s_flyNow E hk hw (by omega) (by have := g3.2.2.2.2.1; omega)) wX12_164_12 pX12_flyNow (by assumption) rfl rfl (by exact Nat.le_of_ble_eq_true rfl) hR (by decide) (by decide) (by decide) rfl dX12_papersBy_118 ?_
                refine x_icmp_lt (tgt := 131) (pc := 121) hC (by omega) (by omega) dX12_papersBy_121 (by decide) (fun c121 => ?_) (fun c121 => ?_)
                · refine x_iconst (pc := 131) hC dX12_papersBy_131 ?_
                  refine x_ior (pc := 132) hC dX12_papersBy_132 ?_
                  refine x_istore_n (L' := [_, _, _, _, _, _, _, _, _]) (pc := 133) hC dX12_papersBy_133 rfl rfl ?_
                  refine x_iinc (L' := [_, _, _, _, _, _, _, _, _]) (pc := 134) hC dX12_papersBy_134 rfl rfl rfl ?_
                  refine x_goto (tgt := 23) (pc := 137) hC dX12_papersBy_137 (by decide) ?_
                  have hnew : rnnF (σ 47) q pl (k2 + 1) = 0 := by
                    show (if _ then _ else _) = _
                    rw [show σ 47 0 + (k2 : Int) = t by omega, show (σ 47 13).toNat = k3 by omega, ← ha, if_pos (by omega)]
                  refine X.drop (xLe_s (xLe_s (xLe_s (xLe_s (xLe_s (xLe_s (xLe_s (xLe_n (xLe_n xLe_0))))))))) (ih2 (k2 + 1) (t + 1) _ _ (by omega) (by omega) hnew.symm ?_)
                  show _ = bOr _ _
                  rw [← hres]
                  congr 1
                  rw [hnew, if_pos (by omega)]
                · refine x_iconst (pc := 124) hC dX12_papersBy_124 ?_
                  refine x_iload (pc := 125) hC dX12_papersBy_125 rfl ?_
                  refine x_ishl (pc := 127) hC dX12_papersBy_127 ?_
                  refine x_goto (tgt := 132) (pc := 128) hC dX12_papersBy_128 (by decide) ?_
                  refine x_ior (pc := 132) hC dX12_papersBy_132 ?_
                  refine x_istore_n (L' := [_, _, _, _, _, _, _, _, _]) (pc := 133) hC dX12_papersBy_133 rfl rfl ?_
                  refine x_iinc (L' := [_, _, _, _, _, _, _, _, _]) (pc := 134) hC dX12_papersBy_134 rfl rfl rfl ?_
                  refine x_goto (tgt := 23) (pc := 137) hC dX12_papersBy_137 (by decide) ?_
                  have hnew : rnnF (σ 47) q pl (k2 + 1) = 0 := by
                    show (if _ then _ else _) = _
                    rw [show σ 47 0 + (k2 : Int) = t by omega, show (σ 47 13).toNat = k3 by omega, ← ha, if_pos (by omega)]
                  refine X.drop (xLe_s (xLe_s (xLe_s (xLe_s (xLe_s (xLe_s (xLe_s (xLe_n (xLe_n xLe_0))))))))) (ih2 (k2 + 1) (t + 1) _ _ (by omega) (by omega) hnew.symm ?_)
                  show _ = bOr _ _
                  rw [← hres]
                  congr 1
                  rw [hnew, if_neg (by omega)]
              · refine x_iload (pc := 104) hC dX12_papersBy_104 rfl ?_
                refine x_iconst (pc := 106) hC dX12_papersBy_106 ?_
                refine x_iadd (pc := 107) hC dX12_papersBy_107 ?_
                refine x_goto (tgt := 112) (pc := 108) hC dX12_papersBy_108 (by decide) ?_
                refine x_istore (L' := [_, _, _, _, _, _, _, _, _]) (pc := 112) hC dX12_papersBy_112 rfl rfl ?_
                refine x_iload_n (pc := 114) hC dX12_papersBy_114 rfl ?_
                refine x_iload (pc := 115) hC dX12_papersBy_115 rfl ?_
                refine x_aload_n (pc := 117) hC dX12_papersBy_117 rfl ?_
                refine x_callV1 (As := []) (Bs := []) (pc := 118) hC (s_flyNow E hk hw (by omega) (by have := g3.2.2.2.2.1; omega)) wX12_164_12 pX12_flyNow (by assumption) rfl rfl (by exact Nat.le_of_ble_eq_true rfl) hR (by decide) (by decide) (by decide) rfl dX12_papersBy_118 ?_
                refine x_icmp_lt (tgt := 131) (pc := 121) hC (by omega) (by omega) dX12_papersBy_121 (by decide) (fun c121 => ?_) (fun c121 => ?_)
                · refine x_iconst (pc := 131) hC dX12_papersBy_131 ?_
                  refine x_ior (pc := 132) hC dX12_papersBy_132 ?_
                  refine x_istore_n (L' := [_, _, _, _, _, _, _, _, _]) (pc := 133) hC dX12_papersBy_133 rfl rfl ?_
                  refine x_iinc (L' := [_, _, _, _, _, _, _, _, _]) (pc := 134) hC dX12_papersBy_134 rfl rfl rfl ?_
                  refine x_goto (tgt := 23) (pc := 137) hC dX12_papersBy_137 (by decide) ?_
                  have hnew : rnnF (σ 47) q pl (k2 + 1) = b0 + 1 := by
                    show (if _ then _ else _) = _
                    rw [show σ 47 0 + (k2 : Int) = t by omega, show (σ 47 13).toNat = k3 by omega, ← ha, if_neg (by omega)]
                    rw [hrun]
                  refine X.drop (xLe_s (xLe_s (xLe_s (xLe_s (xLe_s (xLe_s (xLe_s (xLe_n (xLe_n xLe_0))))))))) (ih2 (k2 + 1) (t + 1) _ _ (by omega) (by omega) hnew.symm ?_)
                  show _ = bOr _ _
                  rw [← hres]
                  congr 1
                  rw [hnew, if_pos (by omega)]
                · refine x_iconst (pc := 124) hC dX12_papersBy_124 ?_
                  refine x_iload (pc := 125) hC dX12_papersBy_125 rfl ?_
                  refine x_ishl (pc := 127) hC dX12_papersBy_127 ?_
                  refine x_goto (tgt := 132) (pc := 128) hC dX12_papersBy_128 (by decide) ?_
                  refine x_ior (pc := 132) hC dX12_papersBy_132 ?_
                  refine x_istore_n (L' := [_, _, _, _, _, _, _, _, _]) (pc := 133) hC dX12_papersBy_133 rfl rfl ?_
                  refine x_iinc (L' := [_, _, _, _, _, _, _, _, _]) (pc := 134) hC dX12_papersBy_134 rfl rfl rfl ?_
                  refine x_goto (tgt := 23) (pc := 137) hC dX12_papersBy_137 (by decide) ?_
                  have hnew : rnnF (σ 47) q pl (k2 + 1) = b0 + 1 := by
                    show (if _ then _ else _) = _
                    rw [show σ 47 0 + (k2 : Int) = t by omega, show (σ 47 13).toNat = k3 by omega, ← ha, if_neg (by omega)]
                    rw [hrun]
                  refine X.drop (xLe_s (xLe_s (xLe_s (xLe_s (xLe_s (xLe_s (xLe_s (xLe_n (xLe_n xLe_0))))))))) (ih2 (k2 + 1) (t + 1) _ _ (by omega) (by omega) hnew.symm ?_)
                  show _ = bOr _ _
                  rw [← hres]
                  congr 1
                  rw [hnew, if_neg (by omega)]
            | succ i3 ih3 =>
              intro k3 f a hf hi3 ha
              have hff := g1.2 f (by omega) (by omega)
              have ha01 := saw_01 (σ 47) q pl t k3
              rw [← ha] at ha01
              refine x_iload (pc := 42) hC dX12_papersBy_42 rfl ?_
              refine x_aload_n (pc := 44) hC dX12_papersBy_44 rfl ?_
              refine x_getr (K := 1) (pc := 45) hC fX12_9_12 (by assumption) dX12_papersBy_45 rfl rfl (by assumption) ?_
              refine x_bipush (pc := 48) hC dX12_papersBy_48 (by decide +kernel) ?_
              refine x_iald (pc := 50) hC (by assumption) (by first | omega | exact rg_of _) dX12_papersBy_50 ?_
              refine x_icmp_ge (tgt := 99) (pc := 51) hC (by first | omega | exact rg_of _) (by first | omega | exact rg_of _) dX12_papersBy_51 (by decide) (fun c51 => by (exfalso; omega)) (fun c51 => ?_)
              refine x_iload (pc := 54) hC dX12_papersBy_54 rfl ?_
              refine x_if_ne (tgt := 86) (pc := 56) hC (by first | omega | exact rg_of _) dX12_papersBy_56 (by decide) (fun c56 => ?_) (fun c56 => ?_)
              · refine x_iconst (pc := 86) hC dX12_papersBy_86 ?_
                refine x_goto (tgt := 91) (pc := 87) hC dX12_papersBy_87 (by decide) ?_
                refine x_istore (L' := [_, _, _, _, _, _, _, _, _]) (pc := 91) hC dX12_papersBy_91 rfl rfl ?_
                refine x_iinc (L' := [_, _, _, _, _, _, _, _, _]) (pc := 93) hC dX12_papersBy_93 rfl rfl rfl ?_
                refine x_goto (tgt := 42) (pc := 96) hC dX12_papersBy_96 (by decide) ?_
                refine ih3 (k3 + 1) (f + 1) _ (by omega) (by omega) ?_
                show _ = if _ then _ else _
                subst hf
                rw [if_pos (Or.inl (by rw [← ha]; exact c56))]
              · refine x_iload_n (pc := 59) hC dX12_papersBy_59 rfl ?_
                refine x_iload (pc := 60) hC dX12_papersBy_60 rfl ?_
                refine x_ishr (pc := 62) hC dX12_papersBy_62 ?_
                refine x_iconst (pc := 63) hC dX12_papersBy_63 ?_
                refine x_iand (pc := 64) hC dX12_papersBy_64 ?_
                refine x_iconst (pc := 65) hC dX12_papersBy_65 ?_
                refine x_icmp_ne (tgt := 90) (pc := 66) hC (by first | omega | exact rg_of _) (by first | omega | exact rg_of _) dX12_papersBy_66 (by decide) (fun c66 => ?_) (fun c66 => ?_)
                · refine x_iconst (pc := 90) hC dX12_papersBy_90 ?_
                  refine x_istore (L' := [_, _, _, _, _, _, _, _, _]) (pc := 91) hC dX12_papersBy_91 rfl rfl ?_
                  refine x_iinc (L' := [_, _, _, _, _, _, _, _, _]) (pc := 93) hC dX12_papersBy_93 rfl rfl rfl ?_
                  refine x_goto (tgt := 42) (pc := 96) hC dX12_papersBy_96 (by decide) ?_
                  refine ih3 (k3 + 1) (f + 1) _ (by omega) (by omega) ?_
                  show _ = if _ then _ else _
                  subst hf
                  rw [if_neg (fun h => h.elim (fun h => h (by rw [← ha]; omega)) (fun h => c66 h.1))]
                · refine x_aload_n (pc := 69) hC dX12_papersBy_69 rfl ?_
                  refine x_iload (pc := 70) hC dX12_papersBy_70 rfl ?_
                  refine x_iload (pc := 72) hC dX12_papersBy_72 rfl ?_
                  refine x_callV1 (As := [_, _]) (Bs := [_, _]) (pc := 74) hC (s_reaches E hk hw hff g2 (by omega) (by omega)) wX12_154_12 pX12_reaches (by assumption) rfl rfl (by exact Nat.le_of_ble_eq_true rfl) hR (by decide) (by decide) (by decide) rfl dX12_papersBy_74 ?_
                  refine x_iload (pc := 77) hC dX12_papersBy_77 rfl ?_
                  refine x_ishr (pc := 79) hC dX12_papersBy_79 ?_
                  refine x_iconst (pc := 80) hC dX12_papersBy_80 ?_
                  refine x_iand (pc := 81) hC dX12_papersBy_81 ?_
                  refine x_iconst (pc := 82) hC dX12_papersBy_82 ?_
                  refine x_icmp_ne (tgt := 90) (pc := 83) hC (by first | omega | exact rg_of _) (by first | omega | exact rg_of _) dX12_papersBy_83 (by decide) (fun c83 => ?_) (fun c83 => ?_)
                  · refine x_iconst (pc := 90) hC dX12_papersBy_90 ?_
                    refine x_istore (L' := [_, _, _, _, _, _, _, _, _]) (pc := 91) hC dX12_papersBy_91 rfl rfl ?_
                    refine x_iinc (L' := [_, _, _, _, _, _, _, _, _]) (pc := 93) hC dX12_papersBy_93 rfl rfl rfl ?_
                    refine x_goto (tgt := 42) (pc := 96) hC dX12_papersBy_96 (by decide) ?_
                    refine ih3 (k3 + 1) (f + 1) _ (by omega) (by omega) ?_
                    show _ = if _ then _ else _
                    subst hf
                    rw [if_neg (fun h => h.elim (fun h => h (by rw [← ha]; omega)) (fun h => c83 h.2))]
                  · refine x_iconst (pc := 86) hC dX12_papersBy_86 ?_
                    refine x_goto (tgt := 91) (pc := 87) hC dX12_papersBy_87 (by decide) ?_
                    refine x_istore (L' := [_, _, _, _, _, _, _, _, _]) (pc := 91) hC dX12_papersBy_91 rfl rfl ?_
                    refine x_iinc (L' := [_, _, _, _, _, _, _, _, _]) (pc := 93) hC dX12_papersBy_93 rfl rfl rfl ?_
                    refine x_goto (tgt := 42) (pc := 96) hC dX12_papersBy_96 (by decide) ?_
                    refine ih3 (k3 + 1) (f + 1) _ (by omega) (by omega) ?_
                    show _ = if _ then _ else _
                    subst hf
                    rw [if_pos (Or.inr ⟨by omega, by omega⟩)]
          refine x_iload (pc := 23) hC dX12_papersBy_23 rfl ?_
          refine x_aload_n (pc := 25) hC dX12_papersBy_25 rfl ?_
          refine x_getr (K := 1) (pc := 26) hC fX12_9_12 (by assumption) dX12_papersBy_26 rfl rfl (by assumption) ?_
          refine x_iconst (pc := 29) hC dX12_papersBy_29 ?_
          refine x_iald (pc := 30) hC (by assumption) (by omega) dX12_papersBy_30 ?_
          refine x_iload_n (pc := 31) hC dX12_papersBy_31 rfl ?_
          refine x_iadd (pc := 32) hC dX12_papersBy_32 ?_
          refine x_icmp_ge (tgt := 140) (pc := 33) hC (by omega) (by omega) dX12_papersBy_33 (by decide) (fun c33 => by (exfalso; omega)) (fun c33 => ?_)
          refine x_iconst (pc := 36) hC dX12_papersBy_36 ?_
          refine x_istore (L' := [_, _, _, _, _, _, _, _, _]) (pc := 37) hC dX12_papersBy_37 rfl rfl ?_
          refine x_iconst (pc := 39) hC dX12_papersBy_39 ?_
          refine x_istore (L' := [_, _, _, _, _, _, _, _, _]) (pc := 40) hC dX12_papersBy_40 rfl rfl ?_
          exact loop3 (σ 47 13).toNat 0 0 0 rfl (by omega) rfl
      refine x_iload (pc := 5) hC dX12_papersBy_5 rfl ?_
      refine x_bipush (pc := 7) hC dX12_papersBy_7 (by decide +kernel) ?_
      refine x_icmp_ge (tgt := 146) (pc := 9) hC (by omega) (by omega) dX12_papersBy_9 (by decide) (fun c9 => by (exfalso; omega)) (fun c9 => ?_)
      refine x_iconst (pc := 12) hC dX12_papersBy_12 ?_
      refine x_istore (L' := [_, _, _, _, _, _, _, _, _]) (pc := 13) hC dX12_papersBy_13 rfl rfl ?_
      refine x_aload_n (pc := 15) hC dX12_papersBy_15 rfl ?_
      refine x_getr (K := 1) (pc := 16) hC fX12_9_12 (by assumption) dX12_papersBy_16 rfl rfl (by assumption) ?_
      refine x_iconst (pc := 19) hC dX12_papersBy_19 ?_
      refine x_iald (pc := 20) hC (by assumption) (by omega) dX12_papersBy_20 ?_
      refine x_istore (L' := [_, _, _, _, _, _, _, _, _]) (pc := 21) hC dX12_papersBy_21 rfl rfl ?_
      refine X.drop (xLe_s (xLe_s (xLe_s (xLe_s (xLe_s (xLe_s (xLe_s (xLe_n (xLe_n xLe_0))))))))) (loop2 n.toNat 0 _ 0 _ (by omega) (by omega) rfl rfl)
  refine x_iconst (pc := 0) hC dX12_papersBy_0 ?_
  refine x_istore_n (L' := [_, _, _, _, _, _, _, _, _]) (pc := 1) hC dX12_papersBy_1 rfl rfl ?_
  refine x_iconst (pc := 2) hC dX12_papersBy_2 ?_
  refine x_istore (L' := [_, _, _, _, _, _, _, _, _]) (pc := 3) hC dX12_papersBy_3 rfl rfl ?_
  exact X.drop (xLe_s (xLe_s (xLe_s (xLe_s (xLe_s (xLe_n (xLe_n (xLe_n (xLe_n xLe_0))))))))) (loop 10 0 0 0 rfl rfl rfl)

def papersA (z : zS) (n : Int) : Int := if ¬ (1 ≤ n ∧ n ≤ 60) then -2 else ppO z (chain (fun f => bShl (z (42 + f)) f) (z 13).toNat) n.toNat 10
def whichA (z : zS) (n : Int) : Int := if ¬ (1 ≤ n ∧ n ≤ 60) then -2 else chain (fun f => if ppO z (bShl 1 f) n.toNat 10 = z 21 then bShl 1 f else 0) (z 13).toNat
theorem chain_rg (g : Int → Int) : ∀ n, rg (chain g n)
  | 0 => by show rg 0; exact ⟨by decide, by decide⟩
  | n + 1 => rg_of _
theorem ppO_rg (z : zS) (q : Int) (n : Nat) : ∀ k, rg (ppO z q n k) := by
  intro k
  induction k with
  | zero => show rg 0; exact ⟨by decide, by decide⟩
  | succ k ih =>
    show rg (ppI z q k (ppO z q n k) n)
    cases n with
    | zero => exact ih
    | succ n => exact rg_of _
set_option maxHeartbeats 4000000 in
set_option maxRecDepth 100000 in
theorem s_papers (E : xE) {σ : xM} {ρ : xR} {ks : xKs} (hk : MK ks) (hw : MW ρ) {n : Int} (hn : rg n) (hpl : PlOk (σ 47)) : Sp E yX12_papers kX12_papers 5 0 0 [.ref 46, .int (iI n)] σ ρ ks (Fn (some (.int (iI (papersA (σ 47) n)))) (σ) ρ ks) := by
  obtain ⟨k46, k47, k48, k49, k50, k51, k52, k53, k54⟩ := id hk
  obtain ⟨w1, w2, w3, w10, w11, w14, w15, w16⟩ := id hw
  refine x_enter (own := RX12) (L := [_, _, _, _]) (by decide +kernel) rfl (by exact Nat.le_of_ble_eq_true rfl) rfl (fun p e R s m args below meth c Z hZ hC hR hin => ?_)
  obtain ⟨g1, g2, g3, g4⟩ := id hpl
  have hf13 := g1.1
  have loop : (1 ≤ n ∧ n ≤ 60) → ∀ (i k : Nat) (j a : Int), j = k → (k : Int) + i = σ 47 13 → a = chain (fun f => bShl (σ 47 (42 + f)) f) k → X E p e R s m args below meth c Z 0 0 σ ρ ks 17 [some (.ref 46), some (.int (iI n)), some (.int (iI a)), some (.int (iI j))] [] := by
    intro hn1 i
    induction i with
    | zero =>
      intro k j a hj hi ha
      have har := chain_rg (fun f => bShl (σ 47 (42 + f)) f) k
      rw [← ha] at har
      refine x_iload_n (pc := 17) hC dX12_papers_17 rfl ?_
      refine x_aload_n (pc := 18) hC dX12_papers_18 rfl ?_
      refine x_getr (K := 1) (pc := 19) hC fX12_9_12 (by assumption) dX12_papers_19 rfl rfl (by assumption) ?_
      refine x_bipush (pc := 22) hC dX12_papers_22 (by decide +kernel) ?_
      refine x_iald (pc := 24) hC (by assumption) (by omega) dX12_papers_24 ?_
      refine x_icmp_ge (tgt := 48) (pc := 25) hC (by omega) (by omega) dX12_papers_25 (by decide) (fun c25 => ?_) (fun c25 => by (exfalso; omega))
      refine x_aload_n (pc := 48) hC dX12_papers_48 rfl ?_
      refine x_iload_n (pc := 49) hC dX12_papers_49 rfl ?_
      refine x_iload_n (pc := 50) hC dX12_papers_50 rfl ?_
      refine x_callV1 (As := [_, _]) (Bs := [_, _]) (pc := 51) hC (s_papersBy E hk hw har hpl (by omega)) wX12_222_12 pX12_papersBy (by assumption) rfl rfl (by exact Nat.le_of_ble_eq_true rfl) hR (by decide) (by decide) (by decide) rfl dX12_papers_51 ?_
      refine x_ireturn hC hZ dX12_papers_54 (by decide) (by decide) ?_
      exact ⟨congrArg (fun z => some (Value.int (iI z))) (by rw [papersA, if_neg (by omega), show (σ 47 13).toNat = k by omega, ← ha]), rfl, rfl, rfl⟩
    | succ i ih =>
      intro k j a hj hi ha
      refine x_iload_n (pc := 17) hC dX12_papers_17 rfl ?_
      refine x_aload_n (pc := 18) hC dX12_papers_18 rfl ?_
      refine x_getr (K := 1) (pc := 19) hC fX12_9_12 (by assumption) dX12_papers_19 rfl rfl (by assumption) ?_
      refine x_bipush (pc := 22) hC dX12_papers_22 (by decide +kernel) ?_
      refine x_iald (pc := 24) hC (by assumption) (by first | omega | exact ppO_rg _ _ _ _ | exact h21) dX12_papers_24 ?_
      refine x_icmp_ge (tgt := 48) (pc := 25) hC (by first | omega | exact ppO_rg _ _ _ _ | exact h21) (by first | omega | exact ppO_rg _ _ _ _ | exact h21) dX12_papers_25 (by decide) (fun c25 => by (exfalso; omega)) (fun c25 => ?_)
      refine x_iload_n (pc := 28) hC dX12_papers_28 rfl ?_
      refine x_aload_n (pc := 29) hC dX12_papers_29 rfl ?_
      refine x_getr (K := 1) (pc := 30) hC fX12_9_12 (by assumption) dX12_papers_30 rfl rfl (by assumption) ?_
      refine x_bipush (pc := 33) hC dX12_papers_33 (by decide +kernel) ?_
      refine x_iload_n (pc := 35) hC dX12_papers_35 rfl ?_
      refine x_iadd (pc := 36) hC dX12_papers_36 ?_
      refine x_iald (pc := 37) hC (by assumption) (by first | omega | exact ppO_rg _ _ _ _ | exact h21) dX12_papers_37 ?_
      refine x_iload_n (pc := 38) hC dX12_papers_38 rfl ?_
      refine x_ishl (pc := 39) hC dX12_papers_39 ?_
      refine x_ior (pc := 40) hC dX12_papers_40 ?_
      refine x_istore_n (L' := [_, _, _, _]) (pc := 41) hC dX12_papers_41 rfl rfl ?_
      refine x_iinc (L' := [_, _, _, _]) (pc := 42) hC dX12_papers_42 rfl rfl rfl ?_
      refine x_goto (tgt := 17) (pc := 45) hC dX12_papers_45 (by decide) ?_
      refine ih (k + 1) (j + 1) _ (by omega) (by omega) ?_
      subst hj
      rw [chain_s, ← ha]
  refine x_iload_n (pc := 0) hC dX12_papers_0 rfl ?_
  refine x_iconst (pc := 1) hC dX12_papers_1 ?_
  refine x_bipush (pc := 2) hC dX12_papers_2 (by decide +kernel) ?_
  refine x_callS1 (As := [_, _, _]) (Bs := [_, _, _]) (pc := 4) hC (s_in E (by omega) (by omega) (by omega)) wX12_41 pX12_in rfl rfl (by exact Nat.le_of_ble_eq_true rfl) hR (by decide) (by decide) (by decide) rfl dX12_papers_4 ?_
  refine x_ifB_ne (tgt := 13) (pc := 7) hC  dX12_papers_7 (by decide) (fun c7 => ?_) (fun c7 => ?_)
  · refine x_iconst (pc := 13) hC dX12_papers_13 ?_
    refine x_istore_n (L' := [_, _, _, _]) (pc := 14) hC dX12_papers_14 rfl rfl ?_
    refine x_iconst (pc := 15) hC dX12_papers_15 ?_
    refine x_istore_n (L' := [_, _, _, _]) (pc := 16) hC dX12_papers_16 rfl rfl ?_
    exact loop (by omega) (σ 47 13).toNat 0 0 0 rfl (by omega) rfl
  · refine x_bipush (pc := 10) hC dX12_papers_10 (by decide +kernel) ?_
    refine x_ireturn hC hZ dX12_papers_12 (by decide) (by decide) ?_
    exact ⟨congrArg (fun z => some (Value.int (iI z))) (by rw [papersA, if_pos (by omega)]), rfl, rfl, rfl⟩

set_option maxHeartbeats 4000000 in
set_option maxRecDepth 100000 in
theorem s_which (E : xE) {σ : xM} {ρ : xR} {ks : xKs} (hk : MK ks) (hw : MW ρ) {n : Int} (hn : rg n) (hpl : PlOk (σ 47)) (h21 : rg (σ 47 21)) : Sp E yX12_which kX12_which 5 0 0 [.ref 46, .int (iI n)] σ ρ ks (Fn (some (.int (iI (whichA (σ 47) n)))) (σ) ρ ks) := by
  obtain ⟨k46, k47, k48, k49, k50, k51, k52, k53, k54⟩ := id hk
  obtain ⟨w1, w2, w3, w10, w11, w14, w15, w16⟩ := id hw
  refine x_enter (own := RX12) (L := [_, _, _, _]) (by decide +kernel) rfl (by exact Nat.le_of_ble_eq_true rfl) rfl (fun p e R s m args below meth c Z hZ hC hR hin => ?_)
  obtain ⟨g1, g2, g3, g4⟩ := id hpl
  have hf13 := g1.1
  have loop : (1 ≤ n ∧ n ≤ 60) → ∀ (i k : Nat) (j a : Int), j = k → (k : Int) + i = σ 47 13 → a = chain (fun f => if ppO (σ 47) (bShl 1 f) n.toNat 10 = σ 47 21 then bShl 1 f else 0) k → X E p e R s m args below meth c Z 0 0 σ ρ ks 17 [some (.ref 46), some (.int (iI n)), some (.int (iI a)), some (.int (iI j))] [] := by
    intro hn1 i
    induction i with
    | zero =>
      intro k j a hj hi ha
      have har := chain_rg (fun f => if ppO (σ 47) (bShl 1 f) n.toNat 10 = σ 47 21 then bShl 1 f else 0) k
      rw [← ha] at har
      refine x_iload_n (pc := 17) hC dX12_which_17 rfl ?_
      refine x_aload_n (pc := 18) hC dX12_which_18 rfl ?_
      refine x_getr (K := 1) (pc := 19) hC fX12_9_12 (by assumption) dX12_which_19 rfl rfl (by assumption) ?_
      refine x_bipush (pc := 22) hC dX12_which_22 (by decide +kernel) ?_
      refine x_iald (pc := 24) hC (by assumption) (by omega) dX12_which_24 ?_
      refine x_icmp_ge (tgt := 62) (pc := 25) hC (by omega) (by omega) dX12_which_25 (by decide) (fun c25 => ?_) (fun c25 => by (exfalso; omega))
      refine x_iload_n (pc := 62) hC dX12_which_62 rfl ?_
      refine x_ireturn hC hZ dX12_which_63 (by decide) (by decide) ?_
      exact ⟨congrArg (fun z => some (Value.int (iI z))) (by rw [whichA, if_neg (by omega), show (σ 47 13).toNat = k by omega, ← ha]), rfl, rfl, rfl⟩
    | succ i ih =>
      intro k j a hj hi ha
      refine x_iload_n (pc := 17) hC dX12_which_17 rfl ?_
      refine x_aload_n (pc := 18) hC dX12_which_18 rfl ?_
      refine x_getr (K := 1) (pc := 19) hC fX12_9_12 (by assumption) dX12_which_19 rfl rfl (by assumption) ?_
      refine x_bipush (pc := 22) hC dX12_which_22 (by decide +kernel) ?_
      refine x_iald (pc := 24) hC (by assumption) (by first | omega | exact ppO_rg _ _ _ _ | exact h21) dX12_which_24 ?_
      refine x_icmp_ge (tgt := 62) (pc := 25) hC (by first | omega | exact ppO_rg _ _ _ _ | exact h21) (by first | omega | exact ppO_rg _ _ _ _ | exact h21) dX12_which_25 (by decide) (fun c25 => by (exfalso; omega)) (fun c25 => ?_)
      refine x_iload_n (pc := 28) hC dX12_which_28 rfl ?_
      refine x_aload_n (pc := 29) hC dX12_which_29 rfl ?_
      refine x_iconst (pc := 30) hC dX12_which_30 ?_
      refine x_iload_n (pc := 31) hC dX12_which_31 rfl ?_
      refine x_ishl (pc := 32) hC dX12_which_32 ?_
      refine x_iload_n (pc := 33) hC dX12_which_33 rfl ?_
      refine x_callV1 (As := [_, _]) (Bs := [_, _]) (pc := 34) hC (s_papersBy E hk hw (q := bShl 1 j) (rg_of _) hpl (by omega)) wX12_222_12 pX12_papersBy (by assumption) rfl rfl (by exact Nat.le_of_ble_eq_true rfl) hR (by decide) (by decide) (by decide) rfl dX12_which_34 ?_
      refine x_aload_n (pc := 37) hC dX12_which_37 rfl ?_
      refine x_getr (K := 1) (pc := 38) hC fX12_9_12 (by assumption) dX12_which_38 rfl rfl (by assumption) ?_
      refine x_bipush (pc := 41) hC dX12_which_41 (by decide +kernel) ?_
      refine x_iald (pc := 43) hC (by assumption) (by first | omega | exact ppO_rg _ _ _ _ | exact h21) dX12_which_43 ?_
      refine x_icmp_ne (tgt := 53) (pc := 44) hC (by first | omega | exact ppO_rg _ _ _ _ | exact h21) (by first | omega | exact ppO_rg _ _ _ _ | exact h21) dX12_which_44 (by decide) (fun c44 => ?_) (fun c44 => ?_)
      · refine x_iconst (pc := 53) hC dX12_which_53 ?_
        refine x_ior (pc := 54) hC dX12_which_54 ?_
        refine x_istore_n (L' := [_, _, _, _]) (pc := 55) hC dX12_which_55 rfl rfl ?_
        refine x_iinc (L' := [_, _, _, _]) (pc := 56) hC dX12_which_56 rfl rfl rfl ?_
        refine x_goto (tgt := 17) (pc := 59) hC dX12_which_59 (by decide) ?_
        refine ih (k + 1) (j + 1) _ (by omega) (by omega) ?_
        subst hj
        rw [chain_s, ← ha]
        rw [if_neg c44]
      · refine x_iconst (pc := 47) hC dX12_which_47 ?_
        refine x_iload_n (pc := 48) hC dX12_which_48 rfl ?_
        refine x_ishl (pc := 49) hC dX12_which_49 ?_
        refine x_goto (tgt := 54) (pc := 50) hC dX12_which_50 (by decide) ?_
        refine x_ior (pc := 54) hC dX12_which_54 ?_
        refine x_istore_n (L' := [_, _, _, _]) (pc := 55) hC dX12_which_55 rfl rfl ?_
        refine x_iinc (L' := [_, _, _, _]) (pc := 56) hC dX12_which_56 rfl rfl rfl ?_
        refine x_goto (tgt := 17) (pc := 59) hC dX12_which_59 (by decide) ?_
        refine ih (k + 1) (j + 1) _ (by omega) (by omega) ?_
        subst hj
        rw [chain_s, ← ha]
        rw [if_pos c44]
  refine x_iload_n (pc := 0) hC dX12_which_0 rfl ?_
  refine x_iconst (pc := 1) hC dX12_which_1 ?_
  refine x_bipush (pc := 2) hC dX12_which_2 (by decide +kernel) ?_
  refine x_callS1 (As := [_, _, _]) (Bs := [_, _, _]) (pc := 4) hC (s_in E (by omega) (by omega) (by omega)) wX12_41 pX12_in rfl rfl (by exact Nat.le_of_ble_eq_true rfl) hR (by decide) (by decide) (by decide) rfl dX12_which_4 ?_
  refine x_ifB_ne (tgt := 13) (pc := 7) hC  dX12_which_7 (by decide) (fun c7 => ?_) (fun c7 => ?_)
  · refine x_iconst (pc := 13) hC dX12_which_13 ?_
    refine x_istore_n (L' := [_, _, _, _]) (pc := 14) hC dX12_which_14 rfl rfl ?_
    refine x_iconst (pc := 15) hC dX12_which_15 ?_
    refine x_istore_n (L' := [_, _, _, _]) (pc := 16) hC dX12_which_16 rfl rfl ?_
    exact loop (by omega) (σ 47 13).toNat 0 0 0 rfl (by omega) rfl
  · refine x_bipush (pc := 10) hC dX12_which_10 (by decide +kernel) ?_
    refine x_ireturn hC hZ dX12_which_12 (by decide) (by decide) ?_
    exact ⟨congrArg (fun z => some (Value.int (iI z))) (by rw [whichA, if_pos (by omega)]), rfl, rfl, rfl⟩
