def y0F (z : zS) (kd v a b c : Int) : zS := up (up (up (up (up (up z (22 + z 13) kd) (26 + z 13) v) (30 + z 13) a) (34 + z 13) b) (38 + z 13) c) (42 + z 13) 1
def row0F (y : zS) (f : Int) : Nat → zS
  | 0 => y
  | n + 1 => up (row0F y f n) (46 + 4 * f + n) 0
theorem row0F_lo (y : zS) (f : Int) (h : 0 ≤ f) {j : Int} (hj : j < 46) : ∀ n, row0F y f n j = y j
  | 0 => rfl
  | n + 1 => by
    show up _ _ _ j = _
    rw [up_ne _ (by omega), row0F_lo y f h hj n]
theorem y0F_13 (z : zS) (kd v a b c : Int) (h : 0 ≤ z 13) : y0F z kd v a b c 13 = z 13 := by unfold y0F; simp (disch := omega) only [up_ne]
def fanA (z : zS) (kd v a b c : Int) : Int := if ¬ (0 ≤ kd ∧ kd ≤ 6) then -1 else if ¬ ((0 ≤ v ∧ v ≤ 9) ∧ (0 ≤ a ∧ a ≤ 9) ∧ (0 ≤ b ∧ b ≤ 9) ∧ a ≤ b ∧ 1 ≤ c ∧ c ≤ 4) then -2 else if z 13 = 4 then -4 else z 13
def fanZ (z : zS) (kd v a b c : Int) : zS := if ¬ (0 ≤ kd ∧ kd ≤ 6) then z else if ¬ ((0 ≤ v ∧ v ≤ 9) ∧ (0 ≤ a ∧ a ≤ 9) ∧ (0 ≤ b ∧ b ≤ 9) ∧ a ≤ b ∧ 1 ≤ c ∧ c ≤ 4) then z else if z 13 = 4 then z else up (row0F (y0F z kd v a b c) (z 13) 4) 13 (z 13 + 1)
set_option maxHeartbeats 4000000 in
set_option maxRecDepth 100000 in
theorem s_fan (E : xE) {σ : xM} {ρ : xR} {ks : xKs} (hk : MK ks) (hw : MW ρ) {kd v a b c0 : Int} (h1 : rg kd) (h2 : rg v) (h3 : rg a) (h4 : rg b) (h5 : rg c0) (hfan : FansOk (σ 47)) : Sp E yX12_fan kX12_fan 4 0 0 [.ref 46, .int (iI kd), .int (iI v), .int (iI a), .int (iI b), .int (iI c0)] σ ρ ks (Fn (some (.int (iI (fanA (σ 47) kd v a b c0)))) (sw σ 47 (fanZ (σ 47) kd v a b c0)) ρ ks) := by
  obtain ⟨k46, k47, k48, k49, k50, k51, k52, k53, k54⟩ := id hk
  obtain ⟨w1, w2, w3, w10, w11, w14, w15, w16⟩ := id hw
  have hf13 := hfan.1
  refine x_enter (own := RX12) (L := [_, _, _, _, _, _, _, _]) (by decide +kernel) rfl (by exact Nat.le_of_ble_eq_true rfl) rfl (fun p e R s m args below meth c Z hZ hC hR hin => ?_)
  have loop : ¬ ¬ (0 ≤ kd ∧ kd ≤ 6) → ¬ ¬ ((0 ≤ v ∧ v ≤ 9) ∧ (0 ≤ a ∧ a ≤ 9) ∧ (0 ≤ b ∧ b ≤ 9) ∧ a ≤ b ∧ 1 ≤ c0 ∧ c0 ≤ 4) → ¬ σ 47 13 = 4 → ∀ (n k : Nat) (j : Int), j = k → k + n = 4 → X E p e R s m args below meth c Z 0 0 (sw σ 47 (row0F (y0F (σ 47) kd v a b c0) (σ 47 13) k)) ρ ks 130 [some (.ref 46), some (.int (iI kd)), some (.int (iI v)), some (.int (iI a)), some (.int (iI b)), some (.int (iI c0)), some (.int (iI (σ 47 13))), some (.int (iI j))] [] := by
    intro n1 n2 n3 n
    induction n with
    | zero =>
      intro k j hj hn
      have hk4 : k = 4 := by omega
      subst hk4
      refine x_iload (pc := 130) hC dX12_fan_130 rfl ?_
      refine x_iconst (pc := 132) hC dX12_fan_132 ?_
      refine x_icmp_ge (tgt := 158) (pc := 133) hC (by omega) (by omega) dX12_fan_133 (by decide) (fun c133 => ?_) (fun c133 => by (exfalso; omega))
      refine x_aload_n (pc := 158) hC dX12_fan_158 rfl ?_
      refine x_getr (K := 1) (pc := 159) hC fX12_9_12 (by assumption) dX12_fan_159 rfl rfl (by assumption) ?_
      refine x_bipush (pc := 162) hC dX12_fan_162 (by decide +kernel) ?_
      refine x_dup2 (pc := 164) hC dX12_fan_164 rfl rfl ?_
      refine x_iald (pc := 165) hC (by assumption) (by omega) dX12_fan_165 ?_
      simp (disch := omega) only [sw_eq, up_ne, up_eq]
      rw [row0F_lo _ _ hf13.1 (by decide), y0F_13 _ _ _ _ _ _ hf13.1]
      refine x_iconst (pc := 166) hC dX12_fan_166 ?_
      refine x_iadd (pc := 167) hC dX12_fan_167 ?_
      refine x_iast (pc := 168) hC (by assumption) (by omega) dX12_fan_168 ?_
      refine X.mem (σ' := sw σ 47 _) (by rw [wr_sw, sw_eq, sw_sw]) ?_
      refine x_iload (pc := 169) hC dX12_fan_169 rfl ?_
      refine x_ireturn hC hZ dX12_fan_171 (by decide) (by decide) ?_
      exact ⟨congrArg (fun z => some (Value.int (iI z))) (by rw [fanA, if_neg n1, if_neg n2, if_neg n3]), by rw [fanZ, if_neg n1, if_neg n2, if_neg n3], rfl, rfl⟩
    | succ n ih =>
      intro k j hj hn
      refine x_iload (pc := 130) hC dX12_fan_130 rfl ?_
      refine x_iconst (pc := 132) hC dX12_fan_132 ?_
      refine x_icmp_ge (tgt := 158) (pc := 133) hC (by omega) (by omega) dX12_fan_133 (by decide) (fun c133 => by (exfalso; omega)) (fun c133 => ?_)
      refine x_aload_n (pc := 136) hC dX12_fan_136 rfl ?_
      refine x_getr (K := 1) (pc := 137) hC fX12_9_12 (by assumption) dX12_fan_137 rfl rfl (by assumption) ?_
      refine x_bipush (pc := 140) hC dX12_fan_140 (by decide +kernel) ?_
      refine x_iconst (pc := 142) hC dX12_fan_142 ?_
      refine x_iload (pc := 143) hC dX12_fan_143 rfl ?_
      refine x_imul (pc := 145) hC dX12_fan_145 ?_
      refine x_iadd (pc := 146) hC dX12_fan_146 ?_
      refine x_iload (pc := 147) hC dX12_fan_147 rfl ?_
      refine x_iadd (pc := 149) hC dX12_fan_149 ?_
      refine x_iconst (pc := 150) hC dX12_fan_150 ?_
      refine x_iast (pc := 151) hC (by assumption) (by omega) dX12_fan_151 ?_
      refine X.mem (σ' := sw σ 47 _) (by rw [wr_sw, sw_eq, sw_sw]) ?_
      refine x_iinc (L' := [_, _, _, _, _, _, _, _]) (pc := 152) hC dX12_fan_152 rfl rfl rfl ?_
      refine x_goto (tgt := 130) (pc := 155) hC dX12_fan_155 (by decide) ?_
      refine X.mem ?_ (ih (k + 1) (j + 1) (by omega) (by omega))
      subst hj
      rfl
  refine x_iload_n (pc := 0) hC dX12_fan_0 rfl ?_
  refine x_iconst (pc := 1) hC dX12_fan_1 ?_
  refine x_bipush (pc := 2) hC dX12_fan_2 (by decide +kernel) ?_
  refine x_callS1 (As := [_, _, _]) (Bs := [_, _, _]) (pc := 4) hC (s_in E (by omega) (by omega) (by omega)) wX12_41 pX12_in rfl rfl (by exact Nat.le_of_ble_eq_true rfl) hR (by decide) (by decide) (by decide) rfl dX12_fan_4 ?_
  refine x_ifB_ne (tgt := 12) (pc := 7) hC  dX12_fan_7 (by decide) (fun c7 => ?_) (fun c7 => ?_)
  · refine x_iload_n (pc := 12) hC dX12_fan_12 rfl ?_
    refine x_iconst (pc := 13) hC dX12_fan_13 ?_
    refine x_bipush (pc := 14) hC dX12_fan_14 (by decide +kernel) ?_
    refine x_callS1 (As := [_, _, _]) (Bs := [_, _, _]) (pc := 16) hC (s_in E (by omega) (by omega) (by omega)) wX12_41 pX12_in rfl rfl (by exact Nat.le_of_ble_eq_true rfl) hR (by decide) (by decide) (by decide) rfl dX12_fan_16 ?_
    refine x_ifB_eq (tgt := 33) (pc := 19) hC  dX12_fan_19 (by decide) (fun c19 => ?_) (fun c19 => ?_)
    · refine x_bipush (pc := 33) hC dX12_fan_33 (by decide +kernel) ?_
      refine x_ireturn hC hZ dX12_fan_35 (by decide) (by decide) ?_
      exact ⟨congrArg (fun z => some (Value.int (iI z))) (by rw [fanA, if_neg (by omega), if_pos (by omega)]), by rw [fanZ, if_neg (by omega), if_pos (by omega), sw_id], rfl, rfl⟩
    · refine x_iload_n (pc := 22) hC dX12_fan_22 rfl ?_
      refine x_iload (pc := 23) hC dX12_fan_23 rfl ?_
      refine x_iload (pc := 25) hC dX12_fan_25 rfl ?_
      refine x_callS1 (As := [_, _, _]) (Bs := [_, _, _]) (pc := 27) hC (s_areSet E (by omega) (by omega) (by omega)) wX12_138 pX12_areSet rfl rfl (by exact Nat.le_of_ble_eq_true rfl) hR (by decide) (by decide) (by decide) rfl dX12_fan_27 ?_
      refine x_ifB_ne (tgt := 36) (pc := 30) hC  dX12_fan_30 (by decide) (fun c30 => ?_) (fun c30 => ?_)
      · refine x_aload_n (pc := 36) hC dX12_fan_36 rfl ?_
        refine x_getr (K := 1) (pc := 37) hC fX12_9_12 (by assumption) dX12_fan_37 rfl rfl (by assumption) ?_
        refine x_bipush (pc := 40) hC dX12_fan_40 (by decide +kernel) ?_
        refine x_iald (pc := 42) hC (by assumption) (by omega) dX12_fan_42 ?_
        refine x_iconst (pc := 43) hC dX12_fan_43 ?_
        refine x_icmp_ne (tgt := 50) (pc := 44) hC (by omega) (by omega) dX12_fan_44 (by decide) (fun c44 => ?_) (fun c44 => ?_)
        · refine x_aload_n (pc := 50) hC dX12_fan_50 rfl ?_
          refine x_getr (K := 1) (pc := 51) hC fX12_9_12 (by assumption) dX12_fan_51 rfl rfl (by assumption) ?_
          refine x_bipush (pc := 54) hC dX12_fan_54 (by decide +kernel) ?_
          refine x_iald (pc := 56) hC (by assumption) (by omega) dX12_fan_56 ?_
          refine x_istore (L' := [_, _, _, _, _, _, _, _]) (pc := 57) hC dX12_fan_57 rfl rfl ?_
          refine x_aload_n (pc := 59) hC dX12_fan_59 rfl ?_
          refine x_getr (K := 1) (pc := 60) hC fX12_9_12 (by assumption) dX12_fan_60 rfl rfl (by assumption) ?_
          refine x_bipush (pc := 63) hC dX12_fan_63 (by decide +kernel) ?_
          refine x_iload (pc := 65) hC dX12_fan_65 rfl ?_
          refine x_iadd (pc := 67) hC dX12_fan_67 ?_
          refine x_iload_n (pc := 68) hC dX12_fan_68 rfl ?_
          refine x_iast (pc := 69) hC (by assumption) (by omega) dX12_fan_69 ?_
          refine X.mem (σ' := sw σ 47 _) (by exact wr_sw _ _ _ _) ?_
          refine x_aload_n (pc := 70) hC dX12_fan_70 rfl ?_
          refine x_getr (K := 1) (pc := 71) hC fX12_9_12 (by assumption) dX12_fan_71 rfl rfl (by assumption) ?_
          refine x_bipush (pc := 74) hC dX12_fan_74 (by decide +kernel) ?_
          refine x_iload (pc := 76) hC dX12_fan_76 rfl ?_
          refine x_iadd (pc := 78) hC dX12_fan_78 ?_
          refine x_iload_n (pc := 79) hC dX12_fan_79 rfl ?_
          refine x_iast (pc := 80) hC (by assumption) (by omega) dX12_fan_80 ?_
          refine X.mem (σ' := sw σ 47 _) (by rw [wr_sw, sw_eq, sw_sw]) ?_
          refine x_aload_n (pc := 81) hC dX12_fan_81 rfl ?_
          refine x_getr (K := 1) (pc := 82) hC fX12_9_12 (by assumption) dX12_fan_82 rfl rfl (by assumption) ?_
          refine x_bipush (pc := 85) hC dX12_fan_85 (by decide +kernel) ?_
          refine x_iload (pc := 87) hC dX12_fan_87 rfl ?_
          refine x_iadd (pc := 89) hC dX12_fan_89 ?_
          refine x_iload_n (pc := 90) hC dX12_fan_90 rfl ?_
          refine x_iast (pc := 91) hC (by assumption) (by omega) dX12_fan_91 ?_
          refine X.mem (σ' := sw σ 47 _) (by rw [wr_sw, sw_eq, sw_sw]) ?_
          refine x_aload_n (pc := 92) hC dX12_fan_92 rfl ?_
          refine x_getr (K := 1) (pc := 93) hC fX12_9_12 (by assumption) dX12_fan_93 rfl rfl (by assumption) ?_
          refine x_bipush (pc := 96) hC dX12_fan_96 (by decide +kernel) ?_
          refine x_iload (pc := 98) hC dX12_fan_98 rfl ?_
          refine x_iadd (pc := 100) hC dX12_fan_100 ?_
          refine x_iload (pc := 101) hC dX12_fan_101 rfl ?_
          refine x_iast (pc := 103) hC (by assumption) (by omega) dX12_fan_103 ?_
          refine X.mem (σ' := sw σ 47 _) (by rw [wr_sw, sw_eq, sw_sw]) ?_
          refine x_aload_n (pc := 104) hC dX12_fan_104 rfl ?_
          refine x_getr (K := 1) (pc := 105) hC fX12_9_12 (by assumption) dX12_fan_105 rfl rfl (by assumption) ?_
          refine x_bipush (pc := 108) hC dX12_fan_108 (by decide +kernel) ?_
          refine x_iload (pc := 110) hC dX12_fan_110 rfl ?_
          refine x_iadd (pc := 112) hC dX12_fan_112 ?_
          refine x_iload (pc := 113) hC dX12_fan_113 rfl ?_
          refine x_iast (pc := 115) hC (by assumption) (by omega) dX12_fan_115 ?_
          refine X.mem (σ' := sw σ 47 _) (by rw [wr_sw, sw_eq, sw_sw]) ?_
          refine x_aload_n (pc := 116) hC dX12_fan_116 rfl ?_
          refine x_getr (K := 1) (pc := 117) hC fX12_9_12 (by assumption) dX12_fan_117 rfl rfl (by assumption) ?_
          refine x_bipush (pc := 120) hC dX12_fan_120 (by decide +kernel) ?_
          refine x_iload (pc := 122) hC dX12_fan_122 rfl ?_
          refine x_iadd (pc := 124) hC dX12_fan_124 ?_
          refine x_iconst (pc := 125) hC dX12_fan_125 ?_
          refine x_iast (pc := 126) hC (by assumption) (by omega) dX12_fan_126 ?_
          refine X.mem (σ' := sw σ 47 _) (by rw [wr_sw, sw_eq, sw_sw]) ?_
          refine x_iconst (pc := 127) hC dX12_fan_127 ?_
          refine x_istore (L' := [_, _, _, _, _, _, _, _]) (pc := 128) hC dX12_fan_128 rfl rfl ?_
          exact loop (by omega) (by omega) (by omega) 4 0 0 rfl rfl
        · refine x_bipush (pc := 47) hC dX12_fan_47 (by decide +kernel) ?_
          refine x_ireturn hC hZ dX12_fan_49 (by decide) (by decide) ?_
          exact ⟨congrArg (fun z => some (Value.int (iI z))) (by rw [fanA, if_neg (by omega), if_neg (by omega), if_pos (by omega)]), by rw [fanZ, if_neg (by omega), if_neg (by omega), if_pos (by omega), sw_id], rfl, rfl⟩
      · refine x_bipush (pc := 33) hC dX12_fan_33 (by decide +kernel) ?_
        refine x_ireturn hC hZ dX12_fan_35 (by decide) (by decide) ?_
        exact ⟨congrArg (fun z => some (Value.int (iI z))) (by rw [fanA, if_neg (by omega), if_pos (by omega)]), by rw [fanZ, if_neg (by omega), if_pos (by omega), sw_id], rfl, rfl⟩
  · refine x_iconst (pc := 10) hC dX12_fan_10 ?_
    refine x_ireturn hC hZ dX12_fan_11 (by decide) (by decide) ?_
    exact ⟨congrArg (fun z => some (Value.int (iI z))) (by rw [fanA, if_pos (by omega)]), by rw [fanZ, if_pos (by omega), sw_id], rfl, rfl⟩

def turnY (z : zS) (f a b c : Int) : zS := up (up (up z (30 + f) a) (34 + f) b) (38 + f) c
def turnA (z : zS) (f a b c : Int) : Int := if ¬ (0 ≤ f ∧ f ≤ z 13 - 1) then -1 else if ¬ ((0 ≤ a ∧ a ≤ 9) ∧ (0 ≤ b ∧ b ≤ 9) ∧ a ≤ b ∧ 1 ≤ c ∧ c ≤ 4) then -2 else isAtF (turnY z f a b c) f (z 0)
def turnZ (z : zS) (f a b c : Int) : zS := if ¬ (0 ≤ f ∧ f ≤ z 13 - 1) then z else if ¬ ((0 ≤ a ∧ a ≤ 9) ∧ (0 ≤ b ∧ b ≤ 9) ∧ a ≤ b ∧ 1 ≤ c ∧ c ≤ 4) then z else turnY z f a b c
theorem turnY_fan {z : zS} {f a b c : Int} (h : FanOk z f) (hf : 0 ≤ f ∧ f < 4) (hs : (0 ≤ a ∧ a ≤ 9) ∧ (0 ≤ b ∧ b ≤ 9) ∧ a ≤ b ∧ 1 ≤ c ∧ c ≤ 4) : FanOk (turnY z f a b c) f := by
  obtain ⟨a1, a2, a3, a4, a5, a6⟩ := h
  unfold FanOk turnY
  simp (disch := omega) only [up_ne, up_eq]
  exact ⟨a1, a2, by omega, by omega, a5, fun k g0 g1 => by simp (disch := omega) only [up_ne]; exact a6 k g0 g1⟩
theorem turnY_sit {z : zS} {f a b c : Int} (h : SitOk z) (hf : 0 ≤ f ∧ f < 4) : SitOk (turnY z f a b c) := by
  unfold SitOk turnY at *
  refine ⟨by simp (disch := omega) only [up_ne]; exact h.1, fun p g0 g1 => ?_⟩
  simp (disch := omega) only [up_ne]
  exact h.2 p g0 g1
set_option maxHeartbeats 4000000 in
set_option maxRecDepth 100000 in
theorem s_turn (E : xE) {σ : xM} {ρ : xR} {ks : xKs} (hk : MK ks) (hw : MW ρ) {f a b c0 : Int} (h1 : rg f) (h3 : rg a) (h4 : rg b) (h5 : rg c0) (hfan : FansOk (σ 47)) (hsit : SitOk (σ 47)) (ht : 0 ≤ σ 47 0 ∧ σ 47 0 < 1000000) : Sp E yX12_turn kX12_turn 4 0 0 [.ref 46, .int (iI f), .int (iI a), .int (iI b), .int (iI c0)] σ ρ ks (Fn (some (.int (iI (turnA (σ 47) f a b c0)))) (sw σ 47 (turnZ (σ 47) f a b c0)) ρ ks) := by
  obtain ⟨k46, k47, k48, k49, k50, k51, k52, k53, k54⟩ := id hk
  obtain ⟨w1, w2, w3, w10, w11, w14, w15, w16⟩ := id hw
  have hf13 := hfan.1
  refine x_enter (own := RX12) (L := [_, _, _, _, _]) (by decide +kernel) rfl (by exact Nat.le_of_ble_eq_true rfl) rfl (fun p e R s m args below meth c Z hZ hC hR hin => ?_)
  refine x_aload_n (pc := 0) hC dX12_turn_0 rfl ?_
  refine x_iload_n (pc := 1) hC dX12_turn_1 rfl ?_
  refine x_callV1 (As := [_]) (Bs := [_]) (pc := 2) hC (s_isFan E hk hw (by omega) (by omega)) wX12_151_12 pX12_isFan (by assumption) rfl rfl (by exact Nat.le_of_ble_eq_true rfl) hR (by decide) (by decide) (by decide) rfl dX12_turn_2 ?_
  refine x_ifB_ne (tgt := 10) (pc := 5) hC  dX12_turn_5 (by decide) (fun c5 => ?_) (fun c5 => ?_)
  · refine x_iload_n (pc := 10) hC dX12_turn_10 rfl ?_
    refine x_iload_n (pc := 11) hC dX12_turn_11 rfl ?_
    refine x_iload (pc := 12) hC dX12_turn_12 rfl ?_
    refine x_callS1 (As := [_, _, _]) (Bs := [_, _, _]) (pc := 14) hC (s_areSet E (by omega) (by omega) (by omega)) wX12_138 pX12_areSet rfl rfl (by exact Nat.le_of_ble_eq_true rfl) hR (by decide) (by decide) (by decide) rfl dX12_turn_14 ?_
    refine x_ifB_ne (tgt := 23) (pc := 17) hC  dX12_turn_17 (by decide) (fun c17 => ?_) (fun c17 => ?_)
    · refine x_aload_n (pc := 23) hC dX12_turn_23 rfl ?_
      refine x_getr (K := 1) (pc := 24) hC fX12_9_12 (by assumption) dX12_turn_24 rfl rfl (by assumption) ?_
      refine x_bipush (pc := 27) hC dX12_turn_27 (by decide +kernel) ?_
      refine x_iload_n (pc := 29) hC dX12_turn_29 rfl ?_
      refine x_iadd (pc := 30) hC dX12_turn_30 ?_
      refine x_iload_n (pc := 31) hC dX12_turn_31 rfl ?_
      refine x_iast (pc := 32) hC (by assumption) (by omega) dX12_turn_32 ?_
      refine X.mem (σ' := sw σ 47 _) (by exact wr_sw _ _ _ _) ?_
      refine x_aload_n (pc := 33) hC dX12_turn_33 rfl ?_
      refine x_getr (K := 1) (pc := 34) hC fX12_9_12 (by assumption) dX12_turn_34 rfl rfl (by assumption) ?_
      refine x_bipush (pc := 37) hC dX12_turn_37 (by decide +kernel) ?_
      refine x_iload_n (pc := 39) hC dX12_turn_39 rfl ?_
      refine x_iadd (pc := 40) hC dX12_turn_40 ?_
      refine x_iload_n (pc := 41) hC dX12_turn_41 rfl ?_
      refine x_iast (pc := 42) hC (by assumption) (by omega) dX12_turn_42 ?_
      refine X.mem (σ' := sw σ 47 _) (by rw [wr_sw, sw_eq, sw_sw]) ?_
      refine x_aload_n (pc := 43) hC dX12_turn_43 rfl ?_
      refine x_getr (K := 1) (pc := 44) hC fX12_9_12 (by assumption) dX12_turn_44 rfl rfl (by assumption) ?_
      refine x_bipush (pc := 47) hC dX12_turn_47 (by decide +kernel) ?_
      refine x_iload_n (pc := 49) hC dX12_turn_49 rfl ?_
      refine x_iadd (pc := 50) hC dX12_turn_50 ?_
      refine x_iload (pc := 51) hC dX12_turn_51 rfl ?_
      refine x_iast (pc := 53) hC (by assumption) (by omega) dX12_turn_53 ?_
      refine X.mem (σ' := sw σ 47 _) (by rw [wr_sw, sw_eq, sw_sw]) ?_
      have fo := turnY_fan (a := a) (b := b) (c := c0) (hfan.2 f (by omega) (by omega)) (by omega) (by omega)
      have so := turnY_sit (f := f) (a := a) (b := b) (c := c0) hsit (by omega)
      refine x_aload_n (pc := 54) hC dX12_turn_54 rfl ?_
      refine x_iload_n (pc := 55) hC dX12_turn_55 rfl ?_
      refine x_aload_n (pc := 56) hC dX12_turn_56 rfl ?_
      refine x_getr (K := 1) (pc := 57) hC fX12_9_12 (by assumption) dX12_turn_57 rfl rfl (by assumption) ?_
      refine x_iconst (pc := 60) hC dX12_turn_60 ?_
      refine x_iald (pc := 61) hC (by assumption) (by omega) dX12_turn_61 ?_
      simp (disch := omega) only [sw_eq, up_ne, up_eq]
      refine x_callV1 (As := [_, _]) (Bs := [_, _]) (pc := 62) hC (s_isAt E hk hw (by rw [sw_eq]; exact fo) (by rw [sw_eq]; exact so) (by omega) (by omega)) wX12_144_12 pX12_isAt (by assumption) rfl rfl (by exact Nat.le_of_ble_eq_true rfl) hR (by decide) (by decide) (by decide) rfl dX12_turn_62 ?_
      refine x_ireturn hC hZ dX12_turn_65 (by decide) (by decide) ?_
      exact ⟨congrArg (fun z => some (Value.int (iI z))) (by rw [turnA, if_neg (by omega), if_neg (by omega), sw_eq]; rfl), by rw [turnZ, if_neg (by omega), if_neg (by omega)]; rfl, rfl, rfl⟩
    · refine x_bipush (pc := 20) hC dX12_turn_20 (by decide +kernel) ?_
      refine x_ireturn hC hZ dX12_turn_22 (by decide) (by decide) ?_
      exact ⟨congrArg (fun z => some (Value.int (iI z))) (by rw [turnA, if_neg (by omega), if_pos (by omega)]), by rw [turnZ, if_neg (by omega), if_pos (by omega), sw_id], rfl, rfl⟩
  · refine x_iconst (pc := 8) hC dX12_turn_8 ?_
    refine x_ireturn hC hZ dX12_turn_9 (by decide) (by decide) ?_
    exact ⟨congrArg (fun z => some (Value.int (iI z))) (by rw [turnA, if_pos (by omega)]), by rw [turnZ, if_pos (by omega), sw_id], rfl, rfl⟩

def goA (z : zS) (n : Int) : Int := if ¬ (0 ≤ n ∧ n ≤ 60) then -2 else if 99999 < z 0 + n then -3 else z 0 + n
def goZ (z : zS) (n : Int) : zS := if ¬ (0 ≤ n ∧ n ≤ 60) then z else if 99999 < z 0 + n then z else playF z n.toNat
set_option maxHeartbeats 4000000 in
set_option maxRecDepth 100000 in
theorem s_go (E : xE) {σ : xM} {ρ : xR} {ks : xKs} (hk : MK ks) (hw : MW ρ) {n : Int} (hn : rg n) (hpl : PlOk (σ 47)) : Sp E yX12_go kX12_go 6 0 0 [.ref 46, .int (iI n)] σ ρ ks (fun r σ' ρ' ks' => r = some (.int (iI (goA (σ 47) n))) ∧ ρ' = ρ ∧ ks' = ks ∧ Sc σ σ' ∧ σ' 47 = goZ (σ 47) n) := by
  obtain ⟨k46, k47, k48, k49, k50, k51, k52, k53, k54⟩ := id hk
  obtain ⟨w1, w2, w3, w10, w11, w14, w15, w16⟩ := id hw
  have ht := hpl.2.2.2
  refine x_enter (own := RX12) (L := [_, _]) (by decide +kernel) rfl (by exact Nat.le_of_ble_eq_true rfl) rfl (fun p e R s m args below meth c Z hZ hC hR hin => ?_)
  refine x_iload_n (pc := 0) hC dX12_go_0 rfl ?_
  refine x_iconst (pc := 1) hC dX12_go_1 ?_
  refine x_bipush (pc := 2) hC dX12_go_2 (by decide +kernel) ?_
  refine x_callS1 (As := [_, _, _]) (Bs := [_, _, _]) (pc := 4) hC (s_in E (by omega) (by omega) (by omega)) wX12_41 pX12_in rfl rfl (by exact Nat.le_of_ble_eq_true rfl) hR (by decide) (by decide) (by decide) rfl dX12_go_4 ?_
  refine x_ifB_ne (tgt := 13) (pc := 7) hC  dX12_go_7 (by decide) (fun c7 => ?_) (fun c7 => ?_)
  · refine x_aload_n (pc := 13) hC dX12_go_13 rfl ?_
    refine x_getr (K := 1) (pc := 14) hC fX12_9_12 (by assumption) dX12_go_14 rfl rfl (by assumption) ?_
    refine x_iconst (pc := 17) hC dX12_go_17 ?_
    refine x_iald (pc := 18) hC (by assumption) (by omega) dX12_go_18 ?_
    refine x_iload_n (pc := 19) hC dX12_go_19 rfl ?_
    refine x_iadd (pc := 20) hC dX12_go_20 ?_
    refine x_ldc (pc := 21) hC (99999) qX12_180 (by decide +kernel) dX12_go_21 ?_
    refine x_icmp_le (tgt := 29) (pc := 23) hC (by omega) (by omega) dX12_go_23 (by decide) (fun c23 => ?_) (fun c23 => ?_)
    · refine x_aload_n (pc := 29) hC dX12_go_29 rfl ?_
      refine x_iload_n (pc := 30) hC dX12_go_30 rfl ?_
      refine x_callV (As := [_]) (Bs := [_]) (pc := 31) hC (s_goesOn E hk hw hpl (by omega) (by omega)) wX12_181_12 pX12_goesOn (by assumption) rfl rfl (by exact Nat.le_of_ble_eq_true rfl) hR (by decide) (by decide) (by decide) rfl dX12_go_31 (fun r31 σ31 ρ31 ks31 q31 => ?_)
      obtain ⟨rfl, rfl, rfl, hsc, h47, h52⟩ := q31
      obtain ⟨hp, h0, hout⟩ := play_pl hpl n.toNat (by omega)
      rw [← h47] at h0
      refine x_aload_n (pc := 34) hC dX12_go_34 rfl ?_
      refine x_getr (K := 1) (pc := 35) hC fX12_9_12 (by assumption) dX12_go_35 rfl rfl (by assumption) ?_
      refine x_iconst (pc := 38) hC dX12_go_38 ?_
      refine x_iald (pc := 39) hC (by assumption) (by omega) dX12_go_39 ?_
      refine x_ireturn hC hZ dX12_go_40 (by decide) (by decide) ?_
      exact ⟨congrArg (fun z => some (Value.int (iI z))) (by rw [goA, if_neg (by omega), if_neg (by omega), h0]; omega), rfl, rfl, hsc, by rw [goZ, if_neg (by omega), if_neg (by omega), h47]⟩
    · refine x_bipush (pc := 26) hC dX12_go_26 (by decide +kernel) ?_
      refine x_ireturn hC hZ dX12_go_28 (by decide) (by decide) ?_
      exact ⟨congrArg (fun z => some (Value.int (iI z))) (by rw [goA, if_neg (by omega), if_pos (by omega)]), rfl, rfl, Sc.rf σ, by rw [goZ, if_neg (by omega), if_pos (by omega)]⟩
  · refine x_bipush (pc := 10) hC dX12_go_10 (by decide +kernel) ?_
    refine x_ireturn hC hZ dX12_go_12 (by decide) (by decide) ?_
    exact ⟨congrArg (fun z => some (Value.int (iI z))) (by rw [goA, if_pos (by omega)]), rfl, rfl, Sc.rf σ, by rw [goZ, if_pos (by omega)]⟩

def lookF (z : zS) : Nat → Int → Int
  | 0, _ => -5
  | n + 1, k => if isAtF z (z (94 + k)) (z (102 + k)) = z (110 + k) then lookF z n (k + 1) else k
def BookOk (z : zS) : Prop := (0 ≤ z 18 ∧ z 18 ≤ 8) ∧ ∀ k, 0 ≤ k → k < z 18 → (0 ≤ z (94 + k) ∧ z (94 + k) < z 13) ∧ (0 ≤ z (102 + k) ∧ z (102 + k) ≤ 999) ∧ (0 ≤ z (110 + k) ∧ z (110 + k) ≤ 9)
set_option maxHeartbeats 4000000 in
set_option maxRecDepth 100000 in
theorem s_looked (E : xE) {σ : xM} {ρ : xR} {ks : xKs} (hk : MK ks) (hw : MW ρ) (hfan : FansOk (σ 47)) (hsit : SitOk (σ 47)) (hbk : BookOk (σ 47)) : Sp E yX12_looked kX12_looked 3 0 0 [.ref 46] σ ρ ks (Fn (some (.int (iI (lookF (σ 47) (σ 47 18).toNat 0)))) (σ) ρ ks) := by
  obtain ⟨k46, k47, k48, k49, k50, k51, k52, k53, k54⟩ := id hk
  obtain ⟨w1, w2, w3, w10, w11, w14, w15, w16⟩ := id hw
  have hf13 := hfan.1
  refine x_enter (own := RX12) (L := [_, _]) (by decide +kernel) rfl (by exact Nat.le_of_ble_eq_true rfl) rfl (fun p e R s m args below meth c Z hZ hC hR hin => ?_)
  have hb8 := hbk.1
  have loop : ∀ (n : Nat) (k : Int), 0 ≤ k → k + n = σ 47 18 → lookF (σ 47) n k = lookF (σ 47) (σ 47 18).toNat 0 → X E p e R s m args below meth c Z 0 0 σ ρ ks 2 [some (.ref 46), some (.int (iI k))] [] := by
    intro n
    induction n with
    | zero =>
      intro k h0 hn he
      refine x_iload_n (pc := 2) hC dX12_looked_2 rfl ?_
      refine x_aload_n (pc := 3) hC dX12_looked_3 rfl ?_
      refine x_getr (K := 1) (pc := 4) hC fX12_9_12 (by assumption) dX12_looked_4 rfl rfl (by assumption) ?_
      refine x_bipush (pc := 7) hC dX12_looked_7 (by decide +kernel) ?_
      refine x_iald (pc := 9) hC (by assumption) (by omega) dX12_looked_9 ?_
      refine x_icmp_ge (tgt := 55) (pc := 10) hC (by omega) (by omega) dX12_looked_10 (by decide) (fun c10 => ?_) (fun c10 => by (exfalso; omega))
      refine x_bipush (pc := 55) hC dX12_looked_55 (by decide +kernel) ?_
      refine x_ireturn hC hZ dX12_looked_57 (by decide) (by decide) ?_
      exact ⟨congrArg (fun z => some (Value.int (iI z))) (by rw [← he]; rfl), rfl, rfl, rfl⟩
    | succ n ih =>
      intro k h0 hn he
      refine x_iload_n (pc := 2) hC dX12_looked_2 rfl ?_
      refine x_aload_n (pc := 3) hC dX12_looked_3 rfl ?_
      refine x_getr (K := 1) (pc := 4) hC fX12_9_12 (by assumption) dX12_looked_4 rfl rfl (by assumption) ?_
      refine x_bipush (pc := 7) hC dX12_looked_7 (by decide +kernel) ?_
      refine x_iald (pc := 9) hC (by assumption) (by omega) dX12_looked_9 ?_
      refine x_icmp_ge (tgt := 55) (pc := 10) hC (by omega) (by omega) dX12_looked_10 (by decide) (fun c10 => by (exfalso; omega)) (fun c10 => ?_)
      obtain ⟨b1, b2, b3⟩ := hbk.2 k (by omega) (by omega)
      have hfk := hfan.2 (σ 47 (94 + k)) (by omega) (by omega)
      have hin := isAt_in hfk hsit b2.1
      refine x_aload_n (pc := 13) hC dX12_looked_13 rfl ?_
      refine x_aload_n (pc := 14) hC dX12_looked_14 rfl ?_
      refine x_getr (K := 1) (pc := 15) hC fX12_9_12 (by assumption) dX12_looked_15 rfl rfl (by assumption) ?_
      refine x_bipush (pc := 18) hC dX12_looked_18 (by decide +kernel) ?_
      refine x_iload_n (pc := 20) hC dX12_looked_20 rfl ?_
      refine x_iadd (pc := 21) hC dX12_looked_21 ?_
      refine x_iald (pc := 22) hC (by assumption) (by omega) dX12_looked_22 ?_
      refine x_aload_n (pc := 23) hC dX12_looked_23 rfl ?_
      refine x_getr (K := 1) (pc := 24) hC fX12_9_12 (by assumption) dX12_looked_24 rfl rfl (by assumption) ?_
      refine x_bipush (pc := 27) hC dX12_looked_27 (by decide +kernel) ?_
      refine x_iload_n (pc := 29) hC dX12_looked_29 rfl ?_
      refine x_iadd (pc := 30) hC dX12_looked_30 ?_
      refine x_iald (pc := 31) hC (by assumption) (by omega) dX12_looked_31 ?_
      refine x_callV1 (As := [_, _]) (Bs := [_, _]) (pc := 32) hC (s_isAt E hk hw hfk hsit (by omega) (by omega)) wX12_144_12 pX12_isAt (by assumption) rfl rfl (by exact Nat.le_of_ble_eq_true rfl) hR (by decide) (by decide) (by decide) rfl dX12_looked_32 ?_
      refine x_aload_n (pc := 35) hC dX12_looked_35 rfl ?_
      refine x_getr (K := 1) (pc := 36) hC fX12_9_12 (by assumption) dX12_looked_36 rfl rfl (by assumption) ?_
      refine x_bipush (pc := 39) hC dX12_looked_39 (by decide +kernel) ?_
      refine x_iload_n (pc := 41) hC dX12_looked_41 rfl ?_
      refine x_iadd (pc := 42) hC dX12_looked_42 ?_
      refine x_iald (pc := 43) hC (by assumption) (by omega) dX12_looked_43 ?_
      refine x_icmp_eq (tgt := 49) (pc := 44) hC (by omega) (by omega) dX12_looked_44 (by decide) (fun c44 => ?_) (fun c44 => ?_)
      · refine x_iinc (L' := [_, _]) (pc := 49) hC dX12_looked_49 rfl rfl rfl ?_
        refine x_goto (tgt := 2) (pc := 52) hC dX12_looked_52 (by decide) ?_
        exact ih (k + 1) (by omega) (by omega) (by rw [← he]; exact (if_pos c44).symm)
      · refine x_iload_n (pc := 47) hC dX12_looked_47 rfl ?_
        refine x_ireturn hC hZ dX12_looked_48 (by decide) (by decide) ?_
        exact ⟨congrArg (fun z => some (Value.int (iI z))) (by rw [← he]; exact (if_neg c44).symm), rfl, rfl, rfl⟩
  refine x_iconst (pc := 0) hC dX12_looked_0 ?_
  refine x_istore_n (L' := [_, _]) (pc := 1) hC dX12_looked_1 rfl rfl ?_
  exact loop (σ 47 18).toNat 0 (by omega) (by omega) rfl

def ci48 (σ : xM) (k : Int) : zS := fun j => if 0 ≤ j ∧ j < k then σ 47 j else σ 48 j
theorem ci48_0 (σ : xM) : ci48 σ 0 = σ 48 := by funext j; unfold ci48; rw [if_neg (by omega)]
theorem ci48_s (σ : xM) (k : Int) (h : 0 ≤ k) : up (ci48 σ k) k (σ 47 k) = ci48 σ (k + 1) := by
  funext j; unfold up ci48
  by_cases h1 : j = k
  · subst h1; rw [if_pos rfl, if_pos (by omega)]
  · rw [if_neg h1]
    by_cases h2 : 0 ≤ j ∧ j < k
    · rw [if_pos h2, if_pos (by omega)]
    · rw [if_neg h2, if_neg (by omega)]
set_option maxHeartbeats 4000000 in
set_option maxRecDepth 100000 in
theorem s_image (E : xE) {σ : xM} {ρ : xR} {ks : xKs} (hk : MK ks) (hw : MW ρ)  : Sp E yX12_image kX12_image 1 0 0 [.ref 46] σ ρ ks (Fn (some (.int (iI (σ 47 13)))) (wr (sw σ 48 (ci48 σ 943)) 46 4 1) ρ ks) := by
  obtain ⟨k46, k47, k48, k49, k50, k51, k52, k53, k54⟩ := id hk
  obtain ⟨w1, w2, w3, w10, w11, w14, w15, w16⟩ := id hw
  refine x_enter (own := RX12) (L := [_, _]) (by decide +kernel) rfl (by exact Nat.le_of_ble_eq_true rfl) rfl (fun p e R s m args below meth c Z hZ hC hR hin => ?_)
  have loop : ∀ (n : Nat) (k : Int), 0 ≤ k → k + n = 943 → X E p e R s m args below meth c Z 0 0 (sw σ 48 (ci48 σ k)) ρ ks 2 [some (.ref 46), some (.int (iI k))] [] := by
    intro n
    induction n with
    | zero =>
      intro k h1 h2
      have h4 : k = 943 := by omega
      subst h4
      refine x_iload_n (pc := 2) hC dX12_image_2 rfl ?_
      refine x_sipush (pc := 3) hC dX12_image_3 (by decide +kernel) ?_
      refine x_icmp_ge (tgt := 27) (pc := 6) hC (by omega) (by omega) dX12_image_6 (by decide) (fun c6 => ?_) (fun c6 => by (exfalso; omega))
      refine x_aload_n (pc := 27) hC dX12_image_27 rfl ?_
      refine x_iconst (pc := 28) hC dX12_image_28 ?_
      refine x_putz (K := 4) (pc := 29) hC rfl fX12_279_12 rfl (by assumption) dX12_image_29 rfl (by omega) ?_
      refine x_aload_n (pc := 32) hC dX12_image_32 rfl ?_
      refine x_getr (K := 1) (pc := 33) hC fX12_9_12 (by assumption) dX12_image_33 rfl rfl (by assumption) ?_
      refine x_bipush (pc := 36) hC dX12_image_36 (by decide +kernel) ?_
      refine x_iald (pc := 38) hC (by assumption) (by omega) dX12_image_38 ?_
      refine x_ireturn hC hZ dX12_image_39 (by decide) (by decide) ?_
      exact ⟨by rw [wr_p _ (by decide), sw_ne _ (by decide)], rfl, rfl, rfl⟩
    | succ n ih =>
      intro k h1 h2
      refine x_iload_n (pc := 2) hC dX12_image_2 rfl ?_
      refine x_sipush (pc := 3) hC dX12_image_3 (by decide +kernel) ?_
      refine x_icmp_ge (tgt := 27) (pc := 6) hC (by omega) (by omega) dX12_image_6 (by decide) (fun c6 => by (exfalso; omega)) (fun c6 => ?_)
      refine x_aload_n (pc := 9) hC dX12_image_9 rfl ?_
      refine x_getr (K := 2) (pc := 10) hC fX12_15_12 (by assumption) dX12_image_10 rfl rfl (by assumption) ?_
      refine x_iload_n (pc := 13) hC dX12_image_13 rfl ?_
      refine x_aload_n (pc := 14) hC dX12_image_14 rfl ?_
      refine x_getr (K := 1) (pc := 15) hC fX12_9_12 (by assumption) dX12_image_15 rfl rfl (by assumption) ?_
      refine x_iload_n (pc := 18) hC dX12_image_18 rfl ?_
      refine x_iald (pc := 19) hC (by assumption) (by omega) dX12_image_19 ?_
      refine x_iast (pc := 20) hC (by assumption) (by omega) dX12_image_20 ?_
      refine x_iinc (L' := [_, _]) (pc := 21) hC dX12_image_21 rfl rfl rfl ?_
      refine x_goto (tgt := 2) (pc := 24) hC dX12_image_24 (by decide) ?_
      refine X.mem ?_ (ih (k + 1) (by omega) (by omega))
      rw [wr_sw, sw_eq, sw_sw, sw_ne _ (by decide), ci48_s _ _ h1]
  refine x_iconst (pc := 0) hC dX12_image_0 ?_
  refine x_istore_n (L' := [_, _]) (pc := 1) hC dX12_image_1 rfl rfl ?_
  refine X.mem ?_ (loop 943 0 (by omega) (by omega))
  rw [ci48_0, sw_id]

def ci47 (σ : xM) (k : Int) : zS := fun j => if 0 ≤ j ∧ j < k then σ 48 j else σ 47 j
theorem ci47_0 (σ : xM) : ci47 σ 0 = σ 47 := by funext j; unfold ci47; rw [if_neg (by omega)]
theorem ci47_s (σ : xM) (k : Int) (h : 0 ≤ k) : up (ci47 σ k) k (σ 48 k) = ci47 σ (k + 1) := by
  funext j; unfold up ci47
  by_cases h1 : j = k
  · subst h1; rw [if_pos rfl, if_pos (by omega)]
  · rw [if_neg h1]
    by_cases h2 : 0 ≤ j ∧ j < k
    · rw [if_pos h2, if_pos (by omega)]
    · rw [if_neg h2, if_neg (by omega)]
set_option maxHeartbeats 4000000 in
set_option maxRecDepth 100000 in
theorem s_undo (E : xE) {σ : xM} {ρ : xR} {ks : xKs} (hk : MK ks) (hw : MW ρ) (himg : σ 46 4 = 0 ∨ σ 46 4 = 1) : Sp E yX12_undo kX12_undo 1 0 0 [.ref 46] σ ρ ks (Fn (some (.int (iI (if σ 46 4 = 0 then -3 else σ 48 13)))) (if σ 46 4 = 0 then σ else sw σ 47 (ci47 σ 943)) ρ ks) := by
  obtain ⟨k46, k47, k48, k49, k50, k51, k52, k53, k54⟩ := id hk
  obtain ⟨w1, w2, w3, w10, w11, w14, w15, w16⟩ := id hw
  refine x_enter (own := RX12) (L := [_, _]) (by decide +kernel) rfl (by exact Nat.le_of_ble_eq_true rfl) rfl (fun p e R s m args below meth c Z hZ hC hR hin => ?_)
  have loop : ¬ σ 46 4 = 0 → ∀ (n : Nat) (k : Int), 0 ≤ k → k + n = 943 → X E p e R s m args below meth c Z 0 0 (sw σ 47 (ci47 σ k)) ρ ks 12 [some (.ref 46), some (.int (iI k))] [] := by
    intro hi0 n
    induction n with
    | zero =>
      intro k h1 h2
      have h4 : k = 943 := by omega
      subst h4
      refine x_iload_n (pc := 12) hC dX12_undo_12 rfl ?_
      refine x_sipush (pc := 13) hC dX12_undo_13 (by decide +kernel) ?_
      refine x_icmp_ge (tgt := 37) (pc := 16) hC (by omega) (by omega) dX12_undo_16 (by decide) (fun c16 => ?_) (fun c16 => by (exfalso; omega))
      refine x_aload_n (pc := 37) hC dX12_undo_37 rfl ?_
      refine x_getr (K := 1) (pc := 38) hC fX12_9_12 (by assumption) dX12_undo_38 rfl rfl (by assumption) ?_
      refine x_bipush (pc := 41) hC dX12_undo_41 (by decide +kernel) ?_
      refine x_iald (pc := 43) hC (by assumption) (by omega) dX12_undo_43 ?_
      refine x_ireturn hC hZ dX12_undo_44 (by decide) (by decide) ?_
      exact ⟨by rw [if_neg hi0, sw_eq]; unfold ci47; rw [if_pos (by omega)], by rw [if_neg hi0], rfl, rfl⟩
    | succ n ih =>
      intro k h1 h2
      refine x_iload_n (pc := 12) hC dX12_undo_12 rfl ?_
      refine x_sipush (pc := 13) hC dX12_undo_13 (by decide +kernel) ?_
      refine x_icmp_ge (tgt := 37) (pc := 16) hC (by omega) (by omega) dX12_undo_16 (by decide) (fun c16 => by (exfalso; omega)) (fun c16 => ?_)
      refine x_aload_n (pc := 19) hC dX12_undo_19 rfl ?_
      refine x_getr (K := 1) (pc := 20) hC fX12_9_12 (by assumption) dX12_undo_20 rfl rfl (by assumption) ?_
      refine x_iload_n (pc := 23) hC dX12_undo_23 rfl ?_
      refine x_aload_n (pc := 24) hC dX12_undo_24 rfl ?_
      refine x_getr (K := 2) (pc := 25) hC fX12_15_12 (by assumption) dX12_undo_25 rfl rfl (by assumption) ?_
      refine x_iload_n (pc := 28) hC dX12_undo_28 rfl ?_
      refine x_iald (pc := 29) hC (by assumption) (by omega) dX12_undo_29 ?_
      refine x_iast (pc := 30) hC (by assumption) (by omega) dX12_undo_30 ?_
      refine x_iinc (L' := [_, _]) (pc := 31) hC dX12_undo_31 rfl rfl rfl ?_
      refine x_goto (tgt := 12) (pc := 34) hC dX12_undo_34 (by decide) ?_
      refine X.mem ?_ (ih (k + 1) (by omega) (by omega))
      rw [wr_sw, sw_eq, sw_sw, sw_ne _ (by decide), ci47_s _ _ h1]
  refine x_aload_n (pc := 0) hC dX12_undo_0 rfl ?_
  refine x_geti (K := 4) (pc := 1) hC fX12_279_12 (by assumption) dX12_undo_1 rfl rfl ?_
  refine x_if_ne (tgt := 10) (pc := 4) hC (by omega) dX12_undo_4 (by decide) (fun c4 => ?_) (fun c4 => ?_)
  · refine x_iconst (pc := 10) hC dX12_undo_10 ?_
    refine x_istore_n (L' := [_, _]) (pc := 11) hC dX12_undo_11 rfl rfl ?_
    refine X.mem ?_ (loop c4 943 0 (by omega) (by omega))
    rw [ci47_0, sw_id]
  · refine x_bipush (pc := 7) hC dX12_undo_7 (by decide +kernel) ?_
    refine x_ireturn hC hZ dX12_undo_9 (by decide) (by decide) ?_
    exact ⟨by rw [if_pos c4], by rw [if_pos c4], rfl, rfl⟩
