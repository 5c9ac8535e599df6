theorem pu_id (σ : xM) : pu σ (σ 46 6) (σ 46 8) (σ 46 9) (σ 47) = σ := by
  funext q j; unfold pu
  by_cases h : q = 46
  · subst h
    by_cases h6 : j = 6
    · subst h6; simp
    · by_cases h8 : j = 8
      · subst h8; simp
      · by_cases h9 : j = 9
        · subst h9; simp
        · simp [h6, h8, h9]
  · by_cases h47 : q = 47
    · subst h47; simp
    · simp [h, h47]
theorem pu_w5 (σ : xM) (sp wg op : Int) (z : zS) (v : Int) : wr (pu σ sp wg op z) 46 5 v = pu (wr σ 46 5 v) sp wg op z := by
  funext q j; unfold wr pu
  by_cases h : q = 46
  · subst h
    by_cases h5 : j = 5
    · subst h5; simp
    · simp [h5]
  · simp [h]
theorem pu_w7 (σ : xM) (sp wg op : Int) (z : zS) (v : Int) : wr (pu σ sp wg op z) 46 7 v = pu (wr σ 46 7 v) sp wg op z := by
  funext q j; unfold wr pu
  by_cases h : q = 46
  · subst h
    by_cases h5 : j = 7
    · subst h5; simp
    · simp [h5]
  · simp [h]
def rm1 (σ : xM) (a b : Int) : xM := wr (wr σ 46 5 a) 46 7 b
theorem rm1_e (σ : xM) (a b : Int) : wr (wr σ 46 5 a) 46 7 b = rm1 σ a b := rfl
theorem rm1_5 (σ : xM) (a b : Int) : rm1 σ a b 46 5 = a := by unfold rm1; rw [wr_k _ _ _ (by decide), wr_eq]
theorem rm1_7 (σ : xM) (a b : Int) : rm1 σ a b 46 7 = b := wr_eq _ _ _ _
def clL (en ac : Int) : Nat → pT → pT
  | 0, t => t
  | m + 1, t => if t.2.1 = 0 ∧ hereF t.2.2.2 t.1 en = 59 then clL en ac m (clauseF en ac (t.1 + 1, t.2)) else t
/-- the row before a ROOM is read into place ac -/
def rmR0 (z : zS) : zS := up (up (up (up (up (up z 19 0) (218 + z 15) 80) (223 + z 15) 3) (228 + z 15) 0) (233 + z 15) 0) (238 + z 15) 0
def rmT (z : zS) : pT := clL (z 19) (z 15) 9 (clauseF (z 19) (z 15) (0, 0, 0, rmR0 z))
def roomA (z : zS) : Int := if z 15 = 5 then -4 else if (rmT z).2.1 ≠ 0 ∨ (rmT z).1 ≠ z 19 then -10 - (rmT z).1 else z 15
def roomZ (z : zS) : zS := if z 15 = 5 then z else if (rmT z).2.1 ≠ 0 ∨ (rmT z).1 ≠ z 19 then (rmT z).2.2.2 else up (up (rmT z).2.2.2 15 ((rmT z).2.2.2 15 + 1)) 20 (z 15)
/-- what reading a ROOM leaves of the memory -/
def Rd (σ σ' : xM) : Prop := (∀ q, q ≠ 46 → q ≠ 47 → σ' q = σ q) ∧ (∀ j, j < 5 ∨ 9 < j → σ' 46 j = σ 46 j)
theorem Rd.pu {σ : xM} {a b sp wg op : Int} {z : zS} : Rd σ (pu (rm1 σ a b) sp wg op z) := by
  refine ⟨fun q h h2 => ?_, fun j hj => ?_⟩
  · funext j; show (if q = 46 then _ else if q = 47 then _ else rm1 σ a b q j) = _
    rw [if_neg h, if_neg h2]; unfold rm1; rw [wr_p _ h, wr_p _ h]
  · show (if j = 6 then _ else if j = 8 then _ else if j = 9 then _ else rm1 σ a b 46 j) = _
    rw [if_neg (by omega), if_neg (by omega), if_neg (by omega)]; unfold rm1; rw [wr_k _ _ _ (by omega), wr_k _ _ _ (by omega)]
/-- cells that a piece of the parser leaves: all but those of room ac -/
theorem clL_15 : True := trivial
set_option maxHeartbeats 4000000 in
set_option maxRecDepth 100000 in
theorem s_room (E : xE) {σ : xM} {ρ : xR} {ks : xKs} (hk : MK ks) (hw : MW ρ) (hz : (0 ≤ σ 47 15 ∧ σ 47 15 ≤ 5) ∧ (0 ≤ σ 47 19 ∧ σ 47 19 ≤ 100)) (htape : TapeOk (σ 47)) : Sp E yX12_room kX12_room 28 0 0 [.ref 46] σ ρ ks (fun r σ' ρ' ks' => r = some (.int (iI (roomA (σ 47)))) ∧ ρ' = ρ ∧ ks' = ks ∧ Rd σ σ' ∧ σ' 47 = roomZ (σ 47)) := by
  obtain ⟨k46, k47, k48, k49, k50, k51, k52, k53, k54⟩ := id hk
  obtain ⟨w1, w2, w3, w10, w11, w14, w15, w16⟩ := id hw
  refine x_enter (own := RX12) (L := [_, _]) (by decide +kernel) rfl (by exact Nat.le_of_ble_eq_true rfl) rfl (fun p e R s m args below meth c Z hZ hC hR hin => ?_)
  obtain ⟨g15, g19⟩ := hz
  have a5 := rm1_5 σ (σ 47 15) (σ 47 19)
  have a7 := rm1_7 σ (σ 47 15) (σ 47 19)
  have endw : σ 47 15 ≠ 5 → ∀ (sp1 wg1 op1 : Int) (z1 : zS) (k : Int), PIn (σ 47 19) (σ 47 15) (sp1, wg1, op1, z1) → (sp1, wg1, op1, z1) = rmT (σ 47) → X E p e R s m args below meth c Z 0 0 (pu (rm1 σ (σ 47 15) (σ 47 19)) sp1 wg1 op1 z1) ρ ks 178 [some (.ref 46), some (.int (iI k))] [] := by
    intro h5 sp1 wg1 op1 z1 k hpi hT
    obtain ⟨hsp, hwg, hop, hct, htp⟩ := id hpi
    simp only at hsp hwg hop hct htp
    refine x_aload_n (pc := 178) hC dX12_room_178 rfl ?_
    refine x_geti (K := 8) (pc := 179) hC fX12_51_12 (by assumption) dX12_room_179 rfl rfl ?_
    rw [pu_8]
    refine x_if_ne (tgt := 196) (pc := 182) hC (by omega) dX12_room_182 (by decide) (fun c182 => ?_) (fun c182 => ?_)
    · refine x_bipush (pc := 196) hC dX12_room_196 (by decide +kernel) ?_
      refine x_aload_n (pc := 198) hC dX12_room_198 rfl ?_
      refine x_geti (K := 6) (pc := 199) hC fX12_45_12 (by assumption) dX12_room_199 rfl rfl ?_
      rw [pu_6]
      refine x_isub (pc := 202) hC dX12_room_202 ?_
      refine x_ireturn hC hZ dX12_room_203 (by decide) (by decide) ?_
      have hr : (rmT (σ 47)).2.1 ≠ 0 ∨ (rmT (σ 47)).1 ≠ σ 47 19 := by rw [← hT]; simp only; omega
      refine ⟨congrArg (fun z => some (Value.int (iI z))) ?_, rfl, rfl, Rd.pu, ?_⟩
      · rw [roomA, if_neg (by omega), if_pos hr, ← hT]
      · rw [roomZ, if_neg (by omega), if_pos hr, ← hT]; rfl
    · refine x_aload_n (pc := 185) hC dX12_room_185 rfl ?_
      refine x_geti (K := 6) (pc := 186) hC fX12_45_12 (by assumption) dX12_room_186 rfl rfl ?_
      rw [pu_6]
      skip
      refine x_aload_n (pc := 189) hC dX12_room_189 rfl ?_
      refine x_geti (K := 7) (pc := 190) hC fX12_48_12 (by assumption) dX12_room_190 rfl rfl ?_
      rw [pu_7]
      rw [rm1_7]
      refine x_icmp_eq (tgt := 204) (pc := 193) hC (by omega) (by omega) dX12_room_193 (by decide) (fun c193 => ?_) (fun c193 => ?_)
      · refine x_aload_n (pc := 204) hC dX12_room_204 rfl ?_
        refine x_getr (K := 1) (pc := 205) hC fX12_9_12 (by assumption) dX12_room_205 rfl rfl (by assumption) ?_
        refine x_bipush (pc := 208) hC dX12_room_208 (by decide +kernel) ?_
        refine x_dup2 (pc := 210) hC dX12_room_210 rfl rfl ?_
        refine x_iald (pc := 211) hC (by assumption) (by omega) dX12_room_211 ?_
        rw [pu_z]
        refine x_iconst (pc := 212) hC dX12_room_212 ?_
        refine x_iadd (pc := 213) hC dX12_room_213 ?_
        refine x_iast (pc := 214) hC (by assumption) (by omega) dX12_room_214 ?_
        refine X.mem (pu_ws _ _ _ _ _ _ _) ?_
        refine x_aload_n (pc := 215) hC dX12_room_215 rfl ?_
        refine x_getr (K := 1) (pc := 216) hC fX12_9_12 (by assumption) dX12_room_216 rfl rfl (by assumption) ?_
        refine x_bipush (pc := 219) hC dX12_room_219 (by decide +kernel) ?_
        refine x_aload_n (pc := 221) hC dX12_room_221 rfl ?_
        refine x_geti (K := 5) (pc := 222) hC fX12_72_12 (by assumption) dX12_room_222 rfl rfl ?_
        rw [pu_5]
        rw [rm1_5]
        refine x_iast (pc := 225) hC (by assumption) (by omega) dX12_room_225 ?_
        refine X.mem (pu_ws _ _ _ _ _ _ _) ?_
        refine x_aload_n (pc := 226) hC dX12_room_226 rfl ?_
        refine x_geti (K := 5) (pc := 227) hC fX12_72_12 (by assumption) dX12_room_227 rfl rfl ?_
        rw [pu_5]
        rw [rm1_5]
        refine x_ireturn hC hZ dX12_room_230 (by decide) (by decide) ?_
        have hr : ¬ ((rmT (σ 47)).2.1 ≠ 0 ∨ (rmT (σ 47)).1 ≠ σ 47 19) := by rw [← hT]; simp only; omega
        refine ⟨congrArg (fun z => some (Value.int (iI z))) ?_, rfl, rfl, Rd.pu, ?_⟩
        · rw [roomA, if_neg (by omega), if_neg hr]
        · rw [roomZ, if_neg (by omega), if_neg hr, ← hT]; rfl
      · refine x_bipush (pc := 196) hC dX12_room_196 (by decide +kernel) ?_
        refine x_aload_n (pc := 198) hC dX12_room_198 rfl ?_
        refine x_geti (K := 6) (pc := 199) hC fX12_45_12 (by assumption) dX12_room_199 rfl rfl ?_
        rw [pu_6]
        refine x_isub (pc := 202) hC dX12_room_202 ?_
        refine x_ireturn hC hZ dX12_room_203 (by decide) (by decide) ?_
        have hr : (rmT (σ 47)).2.1 ≠ 0 ∨ (rmT (σ 47)).1 ≠ σ 47 19 := by rw [← hT]; simp only; omega
        refine ⟨congrArg (fun z => some (Value.int (iI z))) ?_, rfl, rfl, Rd.pu, ?_⟩
        · rw [roomA, if_neg (by omega), if_pos hr, ← hT]
        · rw [roomZ, if_neg (by omega), if_pos hr, ← hT]; rfl
  have loop : σ 47 15 ≠ 5 → ∀ (i : Nat) (k : Int) (sp1 wg1 op1 : Int) (z1 : zS), (0 ≤ k ∧ i + k = 10) → PIn (σ 47 19) (σ 47 15) (sp1, wg1, op1, z1) → op1 = 0 → clL (σ 47 19) (σ 47 15) i (sp1, wg1, op1, z1) = rmT (σ 47) → X E p e R s m args below meth c Z 0 0 (pu (rm1 σ (σ 47 15) (σ 47 19)) sp1 wg1 op1 z1) ρ ks 136 [some (.ref 46), some (.int (iI k))] [] := by
    intro h5 i
    induction i with
    | zero =>
      intro k sp1 wg1 op1 z1 hk1 hpi hop1 hT
      obtain ⟨hsp, hwg, hop, hct, htp⟩ := id hpi
      simp only at hsp hwg hop hct htp
      refine x_aload_n (pc := 136) hC dX12_room_136 rfl ?_
      refine x_geti (K := 8) (pc := 137) hC fX12_51_12 (by assumption) dX12_room_137 rfl rfl ?_
      rw [pu_8]
      refine x_if_ne (tgt := 178) (pc := 140) hC (by omega) dX12_room_140 (by decide) (fun c140 => ?_) (fun c140 => ?_)
      · exact endw h5 _ _ _ _ _ hpi hT
      · refine x_iload_n (pc := 143) hC dX12_room_143 rfl ?_
        refine x_bipush (pc := 144) hC dX12_room_144 (by decide +kernel) ?_
        refine x_icmp_ge (tgt := 178) (pc := 146) hC (by omega) (by omega) dX12_room_146 (by decide) (fun c146 => ?_) (fun c146 => by (exfalso; omega))
        exact endw h5 _ _ _ _ _ hpi hT
    | succ i ih =>
      intro k sp1 wg1 op1 z1 hk1 hpi hop1 hT
      obtain ⟨hsp, hwg, hop, hct, htp⟩ := id hpi
      simp only at hsp hwg hop hct htp
      have hh := here_in (sp := sp1) (en := σ 47 19) htp hsp.1 (by omega)
      refine x_aload_n (pc := 136) hC dX12_room_136 rfl ?_
      refine x_geti (K := 8) (pc := 137) hC fX12_51_12 (by assumption) dX12_room_137 rfl rfl ?_
      rw [pu_8]
      refine x_if_ne (tgt := 178) (pc := 140) hC (by omega) dX12_room_140 (by decide) (fun c140 => ?_) (fun c140 => ?_)
      · refine endw h5 _ _ _ _ _ hpi ?_
        rw [← hT]
        exact (if_neg (fun h => by have h1 := h.1; have h2 := h.2; simp only at h1 h2; omega)).symm
      · refine x_iload_n (pc := 143) hC dX12_room_143 rfl ?_
        refine x_bipush (pc := 144) hC dX12_room_144 (by decide +kernel) ?_
        refine x_icmp_ge (tgt := 178) (pc := 146) hC (by omega) (by omega) dX12_room_146 (by decide) (fun c146 => by (exfalso; omega)) (fun c146 => ?_)
        refine x_aload_n (pc := 149) hC dX12_room_149 rfl ?_
        refine x_callV1 (As := []) (Bs := []) (pc := 150) hC (s_hereP E hk hw (by rw [a7]; omega) (by rw [a7]; omega)) wX12_55_12 pX12_here (by assumption) rfl rfl (by exact Nat.le_of_ble_eq_true rfl) hR (by decide) (by decide) (by decide) rfl dX12_room_150 ?_
        rw [a7]
        refine x_bipush (pc := 153) hC dX12_room_153 (by decide +kernel) ?_
        refine x_icmp_ne (tgt := 178) (pc := 155) hC (by omega) (by omega) dX12_room_155 (by decide) (fun c155 => ?_) (fun c155 => ?_)
        · refine endw h5 _ _ _ _ _ hpi ?_
          rw [← hT]
          exact (if_neg (fun h => by have h1 := h.1; have h2 := h.2; simp only at h1 h2; omega)).symm
        · refine x_aload_n (pc := 158) hC dX12_room_158 rfl ?_
          refine x_dup (pc := 159) hC dX12_room_159 rfl ?_
          refine x_geti (K := 6) (pc := 160) hC fX12_45_12 (by assumption) dX12_room_160 rfl rfl ?_
          rw [pu_6]
          refine x_iconst (pc := 163) hC dX12_room_163 ?_
          refine x_iadd (pc := 164) hC dX12_room_164 ?_
          refine x_puti (K := 6) (pc := 165) hC rfl fX12_45_12 rfl (by assumption) dX12_room_165 rfl ?_
          refine X.mem (pu_w6 _ _ _ _ _ _) ?_
          have hA : PIn (σ 47 19) (σ 47 15) (sp1 + 1, wg1, op1, z1) := hpi.adv (show sp1 < σ 47 19 by omega)
          have hcl := clause_in (by omega) (by omega) hA
          refine x_aload_n (pc := 168) hC dX12_room_168 rfl ?_
          refine x_callV0 (As := []) (Bs := []) (pc := 169) hC (s_clauseHere E hk hw (by rw [a5]; omega) (by rw [a7]; omega) (by rw [a5, a7]; exact hA) hop1) wX12_121_12 pX12_clauseHere (by assumption) rfl rfl (by exact Nat.le_of_ble_eq_true rfl) hR (by decide) (by decide) (by decide) rfl dX12_room_169 ?_
          rw [a5, a7]
          refine x_iinc (L' := [_, _]) (pc := 172) hC dX12_room_172 rfl rfl rfl ?_
          refine x_goto (tgt := 136) (pc := 175) hC dX12_room_175 (by decide) ?_
          refine ih (k + 1) _ _ _ _ (by omega) hcl.1 (by rw [hcl.2.2]; exact hop1) ?_
          rw [← hT]
          exact (if_pos ⟨show wg1 = 0 by omega, show hereF z1 sp1 (σ 47 19) = 59 by omega⟩).symm
  refine X.mem (σ' := pu σ (σ 46 6) (σ 46 8) (σ 46 9) (σ 47)) (pu_id σ).symm ?_
  refine x_aload_n (pc := 0) hC dX12_room_0 rfl ?_
  refine x_getr (K := 1) (pc := 1) hC fX12_9_12 (by assumption) dX12_room_1 rfl rfl (by assumption) ?_
  refine x_bipush (pc := 4) hC dX12_room_4 (by decide +kernel) ?_
  refine x_iald (pc := 6) hC (by assumption) (by omega) dX12_room_6 ?_
  rw [pu_z]
  refine x_iconst (pc := 7) hC dX12_room_7 ?_
  refine x_icmp_ne (tgt := 14) (pc := 8) hC (by omega) (by omega) dX12_room_8 (by decide) (fun c8 => ?_) (fun c8 => ?_)
  · refine x_aload_n (pc := 14) hC dX12_room_14 rfl ?_
    refine x_aload_n (pc := 15) hC dX12_room_15 rfl ?_
    refine x_getr (K := 1) (pc := 16) hC fX12_9_12 (by assumption) dX12_room_16 rfl rfl (by assumption) ?_
    refine x_bipush (pc := 19) hC dX12_room_19 (by decide +kernel) ?_
    refine x_iald (pc := 21) hC (by assumption) (by omega) dX12_room_21 ?_
    rw [pu_z]
    refine x_puti (K := 5) (pc := 22) hC rfl fX12_72_12 rfl (by assumption) dX12_room_22 rfl ?_
    refine X.mem (pu_w5 _ _ _ _ _ _) ?_
    refine x_aload_n (pc := 25) hC dX12_room_25 rfl ?_
    refine x_aload_n (pc := 26) hC dX12_room_26 rfl ?_
    refine x_getr (K := 1) (pc := 27) hC fX12_9_12 (by assumption) dX12_room_27 rfl rfl (by assumption) ?_
    refine x_bipush (pc := 30) hC dX12_room_30 (by decide +kernel) ?_
    refine x_iald (pc := 32) hC (by assumption) (by omega) dX12_room_32 ?_
    rw [pu_z]
    refine x_puti (K := 7) (pc := 33) hC rfl fX12_48_12 rfl (by assumption) dX12_room_33 rfl ?_
    refine X.mem (pu_w7 _ _ _ _ _ _) ?_
    rw [rm1_e]
    refine x_aload_n (pc := 36) hC dX12_room_36 rfl ?_
    refine x_getr (K := 1) (pc := 37) hC fX12_9_12 (by assumption) dX12_room_37 rfl rfl (by assumption) ?_
    refine x_bipush (pc := 40) hC dX12_room_40 (by decide +kernel) ?_
    refine x_iconst (pc := 42) hC dX12_room_42 ?_
    refine x_iast (pc := 43) hC (by assumption) (by omega) dX12_room_43 ?_
    refine X.mem (pu_ws _ _ _ _ _ _ _) ?_
    refine x_aload_n (pc := 44) hC dX12_room_44 rfl ?_
    refine x_getr (K := 1) (pc := 45) hC fX12_9_12 (by assumption) dX12_room_45 rfl rfl (by assumption) ?_
    refine x_sipush (pc := 48) hC dX12_room_48 (by decide +kernel) ?_
    refine x_aload_n (pc := 51) hC dX12_room_51 rfl ?_
    refine x_geti (K := 5) (pc := 52) hC fX12_72_12 (by assumption) dX12_room_52 rfl rfl ?_
    rw [pu_5]
    rw [rm1_5]
    refine x_iadd (pc := 55) hC dX12_room_55 ?_
    refine x_bipush (pc := 56) hC dX12_room_56 (by decide +kernel) ?_
    refine x_iast (pc := 58) hC (by assumption) (by omega) dX12_room_58 ?_
    refine X.mem (pu_ws _ _ _ _ _ _ _) ?_
    refine x_aload_n (pc := 59) hC dX12_room_59 rfl ?_
    refine x_getr (K := 1) (pc := 60) hC fX12_9_12 (by assumption) dX12_room_60 rfl rfl (by assumption) ?_
    refine x_sipush (pc := 63) hC dX12_room_63 (by decide +kernel) ?_
    refine x_aload_n (pc := 66) hC dX12_room_66 rfl ?_
    refine x_geti (K := 5) (pc := 67) hC fX12_72_12 (by assumption) dX12_room_67 rfl rfl ?_
    rw [pu_5]
    rw [rm1_5]
    refine x_iadd (pc := 70) hC dX12_room_70 ?_
    refine x_iconst (pc := 71) hC dX12_room_71 ?_
    refine x_iast (pc := 72) hC (by assumption) (by omega) dX12_room_72 ?_
    refine X.mem (pu_ws _ _ _ _ _ _ _) ?_
    refine x_aload_n (pc := 73) hC dX12_room_73 rfl ?_
    refine x_getr (K := 1) (pc := 74) hC fX12_9_12 (by assumption) dX12_room_74 rfl rfl (by assumption) ?_
    refine x_sipush (pc := 77) hC dX12_room_77 (by decide +kernel) ?_
    refine x_aload_n (pc := 80) hC dX12_room_80 rfl ?_
    refine x_geti (K := 5) (pc := 81) hC fX12_72_12 (by assumption) dX12_room_81 rfl rfl ?_
    rw [pu_5]
    rw [rm1_5]
    refine x_iadd (pc := 84) hC dX12_room_84 ?_
    refine x_iconst (pc := 85) hC dX12_room_85 ?_
    refine x_iast (pc := 86) hC (by assumption) (by omega) dX12_room_86 ?_
    refine X.mem (pu_ws _ _ _ _ _ _ _) ?_
    refine x_aload_n (pc := 87) hC dX12_room_87 rfl ?_
    refine x_getr (K := 1) (pc := 88) hC fX12_9_12 (by assumption) dX12_room_88 rfl rfl (by assumption) ?_
    refine x_sipush (pc := 91) hC dX12_room_91 (by decide +kernel) ?_
    refine x_aload_n (pc := 94) hC dX12_room_94 rfl ?_
    refine x_geti (K := 5) (pc := 95) hC fX12_72_12 (by assumption) dX12_room_95 rfl rfl ?_
    rw [pu_5]
    rw [rm1_5]
    refine x_iadd (pc := 98) hC dX12_room_98 ?_
    refine x_iconst (pc := 99) hC dX12_room_99 ?_
    refine x_iast (pc := 100) hC (by assumption) (by omega) dX12_room_100 ?_
    refine X.mem (pu_ws _ _ _ _ _ _ _) ?_
    refine x_aload_n (pc := 101) hC dX12_room_101 rfl ?_
    refine x_getr (K := 1) (pc := 102) hC fX12_9_12 (by assumption) dX12_room_102 rfl rfl (by assumption) ?_
    refine x_sipush (pc := 105) hC dX12_room_105 (by decide +kernel) ?_
    refine x_aload_n (pc := 108) hC dX12_room_108 rfl ?_
    refine x_geti (K := 5) (pc := 109) hC fX12_72_12 (by assumption) dX12_room_109 rfl rfl ?_
    rw [pu_5]
    rw [rm1_5]
    refine x_iadd (pc := 112) hC dX12_room_112 ?_
    refine x_iconst (pc := 113) hC dX12_room_113 ?_
    refine x_iast (pc := 114) hC (by assumption) (by omega) dX12_room_114 ?_
    refine X.mem (pu_ws _ _ _ _ _ _ _) ?_
    refine x_aload_n (pc := 115) hC dX12_room_115 rfl ?_
    refine x_iconst (pc := 116) hC dX12_room_116 ?_
    refine x_puti (K := 6) (pc := 117) hC rfl fX12_45_12 rfl (by assumption) dX12_room_117 rfl ?_
    refine X.mem (pu_w6 _ _ _ _ _ _) ?_
    refine x_aload_n (pc := 120) hC dX12_room_120 rfl ?_
    refine x_iconst (pc := 121) hC dX12_room_121 ?_
    refine x_putz (K := 8) (pc := 122) hC rfl fX12_51_12 rfl (by assumption) dX12_room_122 rfl (by omega) ?_
    refine X.mem (pu_w8 _ _ _ _ _ _) ?_
    refine x_aload_n (pc := 125) hC dX12_room_125 rfl ?_
    refine x_iconst (pc := 126) hC dX12_room_126 ?_
    refine x_puti (K := 9) (pc := 127) hC rfl fX12_75_12 rfl (by assumption) dX12_room_127 rfl ?_
    refine X.mem (pu_w9 _ _ _ _ _ _) ?_
    have h0 : PIn (σ 47 19) (σ 47 15) (0, 0, 0, rmR0 (σ 47)) := ⟨by simp only; omega, Or.inl rfl, ⟨by simp only; decide, by simp only; decide, fun _ => by simp only; decide⟩, by simp only [rmR0]; rw [up_ne _ (by omega), up_ne _ (by omega), up_eq]; decide, fun j j0 j1 => by simp only [rmR0]; rw [up_ne _ (by omega), up_ne _ (by omega), up_ne _ (by omega), up_ne _ (by omega), up_ne _ (by omega), up_ne _ (by omega)]; exact htape j j0 j1⟩
    refine X.mem (σ' := pu (rm1 σ (σ 47 15) (σ 47 19)) 0 0 0 (rmR0 (σ 47))) rfl ?_
    have hcl := clause_in (by omega) (by omega) h0
    refine x_iconst (pc := 130) hC dX12_room_130 ?_
    refine x_istore_n (L' := [_, _]) (pc := 131) hC dX12_room_131 rfl rfl ?_
    refine x_aload_n (pc := 132) hC dX12_room_132 rfl ?_
    refine x_callV0 (As := []) (Bs := []) (pc := 133) hC (s_clauseHere E hk hw (by rw [a5]; omega) (by rw [a7]; omega) (by rw [a5, a7]; exact h0) rfl) wX12_121_12 pX12_clauseHere (by assumption) rfl rfl (by exact Nat.le_of_ble_eq_true rfl) hR (by decide) (by decide) (by decide) rfl dX12_room_133 ?_
    rw [a5, a7]
    exact loop (by omega) 9 1 _ _ _ _ (by decide) hcl.1 hcl.2.2 rfl
  · refine x_bipush (pc := 11) hC dX12_room_11 (by decide +kernel) ?_
    refine x_ireturn hC hZ dX12_room_13 (by decide) (by decide) ?_
    exact ⟨congrArg (fun z => some (Value.int (iI z))) (if_pos (by omega)).symm, rfl, rfl, ⟨fun q h h2 => by funext j; show (if q = 46 then _ else if q = 47 then _ else σ q j) = _; rw [if_neg h, if_neg h2], fun j hj => by show (if j = 6 then _ else if j = 8 then _ else if j = 9 then _ else σ 46 j) = _; rw [if_neg (by omega), if_neg (by omega), if_neg (by omega)]⟩, (if_pos (by omega)).symm⟩
