/-! THE REFERENCE'S PARSER: its state is spot, isWrong, open and the row; en the end, ac the room's number -/
def pu (σ : xM) (sp wg op : Int) (z : zS) : xM := fun q j => if q = 46 then (if j = 6 then sp else if j = 8 then wg else if j = 9 then op else σ 46 j) else if q = 47 then z j else σ q j
theorem pu_z (σ : xM) (sp wg op : Int) (z : zS) : pu σ sp wg op z 47 = z := rfl
theorem pu_5 (σ : xM) (sp wg op : Int) (z : zS) : pu σ sp wg op z 46 5 = σ 46 5 := rfl
theorem pu_6 (σ : xM) (sp wg op : Int) (z : zS) : pu σ sp wg op z 46 6 = sp := rfl
theorem pu_7 (σ : xM) (sp wg op : Int) (z : zS) : pu σ sp wg op z 46 7 = σ 46 7 := rfl
theorem pu_8 (σ : xM) (sp wg op : Int) (z : zS) : pu σ sp wg op z 46 8 = wg := rfl
theorem pu_9 (σ : xM) (sp wg op : Int) (z : zS) : pu σ sp wg op z 46 9 = op := rfl
theorem pu_w6 (σ : xM) (sp wg op : Int) (z : zS) (v : Int) : wr (pu σ sp wg op z) 46 6 v = pu σ v wg op z := by
  funext q j; unfold wr pu
  by_cases h : q = 46
  · subst h; by_cases h6 : j = 6 <;> simp [h6]
  · simp [h]
theorem pu_w8 (σ : xM) (sp wg op : Int) (z : zS) (v : Int) : wr (pu σ sp wg op z) 46 8 v = pu σ sp v op z := by
  funext q j; unfold wr pu
  by_cases h : q = 46
  · subst h
    by_cases h8 : j = 8
    · subst h8; simp
    · simp [h8]
  · simp [h]
theorem pu_w9 (σ : xM) (sp wg op : Int) (z : zS) (v : Int) : wr (pu σ sp wg op z) 46 9 v = pu σ sp wg v z := by
  funext q j; unfold wr pu
  by_cases h : q = 46
  · subst h
    by_cases h9 : j = 9
    · subst h9; simp
    · simp [h9]
  · simp [h]
theorem pu_ws (σ : xM) (sp wg op : Int) (z : zS) (k v : Int) : wr (pu σ sp wg op z) 47 k v = pu σ sp wg op (up z k v) := by
  funext q j; unfold wr pu up
  by_cases h : q = 47
  · subst h; by_cases hk : j = k <;> simp [hk]
  · by_cases h46 : q = 46 <;> simp [h, h46]
abbrev pT : Type := Int × Int × Int × zS
def TapeOk (z : zS) : Prop := ∀ j, 0 ≤ j → j < 100 → 0 ≤ z (118 + j) ∧ z (118 + j) ≤ 127
/-- the parser's state is sound -/
def PIn (en ac : Int) (t : pT) : Prop := (0 ≤ t.1 ∧ t.1 ≤ en) ∧ (t.2.1 = 0 ∨ t.2.1 = 1) ∧ (0 ≤ t.2.2.1 ∧ t.2.2.1 ≤ 6 ∧ (t.2.1 = 0 → t.2.2.1 ≤ 5)) ∧ (0 ≤ t.2.2.2 (228 + ac) ∧ t.2.2.2 (228 + ac) ≤ t.1) ∧ TapeOk t.2.2.2
theorem here_in {z : zS} {sp en : Int} (h : TapeOk z) (h0 : 0 ≤ sp) (he : en ≤ 100) : -1 ≤ hereF z sp en ∧ hereF z sp en ≤ 127 ∧ (hereF z sp en = -1 ∨ sp < en) := by
  unfold hereF
  split
  · have := h sp h0 (by omega); omega
  · omega
def mustF (en c : Int) (t : pT) : pT := if t.2.1 = 0 ∧ hereF t.2.2.2 t.1 en = c then (t.1 + 1, 0, t.2.2.1, t.2.2.2) else (t.1, 1, t.2.2.1, t.2.2.2)
theorem must_in {en ac c : Int} {t : pT} (h : PIn en ac t) (he : en ≤ 100) (hc : 0 ≤ c) : PIn en ac (mustF en c t) := by
  obtain ⟨h1, h2, h3, h4, h5⟩ := h
  have hh := here_in h5 h1.1 he
  unfold mustF
  split
  · next hw => exact ⟨by simp only; omega, Or.inl rfl, ⟨h3.1, h3.2.1, fun _ => h3.2.2 hw.1⟩, by simp only; omega, h5⟩
  · exact ⟨h1, Or.inr rfl, ⟨h3.1, h3.2.1, fun h => absurd h (by simp)⟩, h4, h5⟩
def spellF (en : Int) (u : Nat) (t : pT) : Nat → pT
  | 0 => t
  | k + 1 => mustF en (sB u k) (spellF en u t k)
theorem spell_in {en ac : Int} {u : Nat} {t : pT} (hu : u < 6) (h : PIn en ac t) (he : en ≤ 100) : ∀ k : Nat, (k : Int) ≤ sLn u → PIn en ac (spellF en u t k)
  | 0, _ => h
  | k + 1, hk => must_in (spell_in hu h he k (by omega)) he (by have := (sB_k (k := k) hu (by omega)).2.1; omega)
def isDg (c : Int) : Prop := 48 ≤ c ∧ c ≤ 57
def figF (en : Int) (t : pT) : pT × Int :=
  if ¬ (t.2.1 = 0 ∧ 48 ≤ hereF t.2.2.2 t.1 en ∧ hereF t.2.2.2 t.1 en ≤ 57) then ((t.1, 1, t.2.2.1, t.2.2.2), 0)
  else if (48 ≤ hereF t.2.2.2 (t.1 + 1) en ∧ hereF t.2.2.2 (t.1 + 1) en ≤ 57) ∧ 48 < hereF t.2.2.2 t.1 en then ((t.1 + 2, 0, t.2.2.1, t.2.2.2), 10 * (hereF t.2.2.2 t.1 en - 48) + hereF t.2.2.2 (t.1 + 1) en - 48)
  else ((t.1 + 1, 0, t.2.2.1, t.2.2.2), hereF t.2.2.2 t.1 en - 48)
theorem fig_in {en ac : Int} {t : pT} (h : PIn en ac t) (he : en ≤ 100) : PIn en ac (figF en t).1 ∧ 0 ≤ (figF en t).2 ∧ (figF en t).2 ≤ 99 := by
  obtain ⟨h1, h2, h3, h4, h5⟩ := h
  have hh := here_in h5 h1.1 he
  have hh2 := here_in (sp := t.1 + 1) h5 (by omega) he
  unfold figF
  split
  · exact ⟨⟨h1, Or.inr rfl, ⟨h3.1, h3.2.1, fun h => absurd h (by simp)⟩, h4, h5⟩, by simp, by simp⟩
  · next hw =>
    have h6 : (0 : Int) = 0 → t.2.2.1 ≤ 5 := fun _ => h3.2.2 (by omega)
    split
    · exact ⟨⟨by simp only; omega, Or.inl rfl, ⟨h3.1, h3.2.1, h6⟩, by simp only; omega, h5⟩, by simp only; omega, by simp only; omega⟩
    · exact ⟨⟨by simp only; omega, Or.inl rfl, ⟨h3.1, h3.2.1, h6⟩, by simp only; omega, h5⟩, by simp only; omega, by simp only; omega⟩
def amI (c : Int) (u : Nat) : Nat → Int → Int
  | 0, _ => -1
  | n + 1, k => if c = sB u k then k else amI c u n (k + 1)
theorem amI_in (c : Int) (u : Nat) : ∀ (n : Nat) (k : Int), 0 ≤ k → -1 ≤ amI c u n k ∧ (amI c u n k < k + n ∨ amI c u n k = -1)
  | 0, k, _ => by simp [amI]
  | n + 1, k, h => by
    have := amI_in c u n (k + 1) (by omega)
    unfold amI; split <;> omega
def amF (en : Int) (u : Nat) (t : pT) : Int := amI (hereF t.2.2.2 t.1 en) u (sLn u).toNat 0
def amT (en : Int) (u : Nat) (t : pT) : pT := if amF en u t = -1 then t else (t.1 + 1, t.2)
def emF (ac v : Int) (t : pT) : pT := if t.2.1 = 0 then (t.1, 0, t.2.2.1, up (up t.2.2.2 (243 + 140 * ac + t.2.2.2 (228 + ac)) v) (228 + ac) (t.2.2.2 (228 + ac) + 1)) else t
theorem s_hereP (E : xE) {σ : xM} {ρ : xR} {ks : xKs} (hk : MK ks) (hw : MW ρ) {sp wg op : Int} {z : zS} (hen : 0 ≤ σ 46 7 ∧ σ 46 7 ≤ 100) (hsp : 0 ≤ sp ∧ sp ≤ σ 46 7) : Sp E yX12_here kX12_here 1 0 0 [.ref 46] (pu σ sp wg op z) ρ ks (Fn (some (.int (iI (hereF z sp (σ 46 7))))) (pu σ sp wg op z) ρ ks) := s_here E hk hw (σ := (pu σ sp wg op z)) hsp.1 (show sp ≤ 100 by omega) hen
set_option maxHeartbeats 4000000 in
set_option maxRecDepth 100000 in
theorem s_must (E : xE) {σ : xM} {ρ : xR} {ks : xKs} (hk : MK ks) (hw : MW ρ) {sp wg op : Int} {z : zS} (hac : 0 ≤ σ 46 5 ∧ σ 46 5 ≤ 4) (hen : 0 ≤ σ 46 7 ∧ σ 46 7 ≤ 100) (hpi : PIn (σ 46 7) (σ 46 5) (sp, wg, op, z)) {c0 : Int} (hc : 0 ≤ c0 ∧ c0 ≤ 127) : Sp E yX12_must kX12_must 2 0 0 [.ref 46, .int (iI c0)] (pu σ sp wg op z) ρ ks (Fn none (pu σ (mustF (σ 46 7) c0 (sp, wg, op, z)).1 (mustF (σ 46 7) c0 (sp, wg, op, z)).2.1 (mustF (σ 46 7) c0 (sp, wg, op, z)).2.2.1 (mustF (σ 46 7) c0 (sp, wg, op, z)).2.2.2) ρ ks) := by
  obtain ⟨k46, k47, k48, k49, k50, k51, k52, k53, k54⟩ := id hk
  obtain ⟨w1, w2, w3, w10, w11, w14, w15, w16⟩ := id hw
  obtain ⟨hsp, hwg, hop, hct, htp⟩ := id hpi
  simp only at hsp hwg hop hct htp
  refine x_enter (own := RX12) (L := [_, _]) (by decide +kernel) rfl (by exact Nat.le_of_ble_eq_true rfl) rfl (fun p e R s m args below meth c Z hZ hC hR hin => ?_)
  refine x_aload_n (pc := 0) hC dX12_must_0 rfl ?_
  refine x_aload_n (pc := 1) hC dX12_must_1 rfl ?_
  refine x_geti (K := 8) (pc := 2) hC fX12_51_12 (by assumption) dX12_must_2 rfl rfl ?_
  rw [pu_8]
  refine x_if_ne (tgt := 16) (pc := 5) hC (by omega) dX12_must_5 (by decide) (fun c5 => ?_) (fun c5 => ?_)
  · refine x_iconst (pc := 16) hC dX12_must_16 ?_
    refine x_goto (tgt := 21) (pc := 17) hC dX12_must_17 (by decide) ?_
    refine x_putz (K := 8) (pc := 21) hC rfl fX12_51_12 rfl (by assumption) dX12_must_21 rfl (by omega) ?_
    refine X.mem (pu_w8 _ _ _ _ _ _) ?_
    refine x_aload_n (pc := 24) hC dX12_must_24 rfl ?_
    refine x_dup (pc := 25) hC dX12_must_25 rfl ?_
    refine x_geti (K := 6) (pc := 26) hC fX12_45_12 (by assumption) dX12_must_26 rfl rfl ?_
    rw [pu_6]
    refine x_aload_n (pc := 29) hC dX12_must_29 rfl ?_
    refine x_geti (K := 8) (pc := 30) hC fX12_51_12 (by assumption) dX12_must_30 rfl rfl ?_
    rw [pu_8]
    refine x_if_eq (tgt := 40) (pc := 33) hC (by omega) dX12_must_33 (by decide) (fun c33 => by (exfalso; omega)) (fun c33 => ?_)
    refine x_iconst (pc := 36) hC dX12_must_36 ?_
    refine x_goto (tgt := 41) (pc := 37) hC dX12_must_37 (by decide) ?_
    refine x_iadd (pc := 41) hC dX12_must_41 ?_
    refine x_puti (K := 6) (pc := 42) hC rfl fX12_45_12 rfl (by assumption) dX12_must_42 rfl ?_
    refine X.mem (pu_w6 _ _ _ _ _ _) ?_
    refine x_return hC hZ dX12_must_45 (by decide) (by decide) ?_
    refine ⟨rfl, ?_, rfl, rfl⟩
    have e : mustF (σ 46 7) c0 (sp, wg, op, z) = (sp, 1, op, z) := if_neg (fun h => c5 h.1)
    rw [e, Int.add_zero]
  · have hh := here_in (sp := sp) (en := σ 46 7) htp hsp.1 hen.2
    refine x_aload_n (pc := 8) hC dX12_must_8 rfl ?_
    refine x_callV1 (As := []) (Bs := []) (pc := 9) hC (s_hereP E hk hw hen (by omega)) wX12_55_12 pX12_here (by assumption) rfl rfl (by exact Nat.le_of_ble_eq_true rfl) hR (by decide) (by decide) (by decide) rfl dX12_must_9 ?_
    refine x_iload_n (pc := 12) hC dX12_must_12 rfl ?_
    refine x_icmp_eq (tgt := 20) (pc := 13) hC (by omega) (by omega) dX12_must_13 (by decide) (fun c13 => ?_) (fun c13 => ?_)
    · refine x_iconst (pc := 20) hC dX12_must_20 ?_
      refine x_putz (K := 8) (pc := 21) hC rfl fX12_51_12 rfl (by assumption) dX12_must_21 rfl (by omega) ?_
      refine X.mem (pu_w8 _ _ _ _ _ _) ?_
      refine x_aload_n (pc := 24) hC dX12_must_24 rfl ?_
      refine x_dup (pc := 25) hC dX12_must_25 rfl ?_
      refine x_geti (K := 6) (pc := 26) hC fX12_45_12 (by assumption) dX12_must_26 rfl rfl ?_
      rw [pu_6]
      refine x_aload_n (pc := 29) hC dX12_must_29 rfl ?_
      refine x_geti (K := 8) (pc := 30) hC fX12_51_12 (by assumption) dX12_must_30 rfl rfl ?_
      rw [pu_8]
      refine x_if_eq (tgt := 40) (pc := 33) hC (by omega) dX12_must_33 (by decide) (fun c33 => ?_) (fun c33 => by (exfalso; omega))
      refine x_iconst (pc := 40) hC dX12_must_40 ?_
      refine x_iadd (pc := 41) hC dX12_must_41 ?_
      refine x_puti (K := 6) (pc := 42) hC rfl fX12_45_12 rfl (by assumption) dX12_must_42 rfl ?_
      refine X.mem (pu_w6 _ _ _ _ _ _) ?_
      refine x_return hC hZ dX12_must_45 (by decide) (by decide) ?_
      refine ⟨rfl, ?_, rfl, rfl⟩
      have e : mustF (σ 46 7) c0 (sp, wg, op, z) = (sp + 1, 0, op, z) := if_pos ⟨by simp only; omega, c13⟩
      rw [e]
    · refine x_iconst (pc := 16) hC dX12_must_16 ?_
      refine x_goto (tgt := 21) (pc := 17) hC dX12_must_17 (by decide) ?_
      refine x_putz (K := 8) (pc := 21) hC rfl fX12_51_12 rfl (by assumption) dX12_must_21 rfl (by omega) ?_
      refine X.mem (pu_w8 _ _ _ _ _ _) ?_
      refine x_aload_n (pc := 24) hC dX12_must_24 rfl ?_
      refine x_dup (pc := 25) hC dX12_must_25 rfl ?_
      refine x_geti (K := 6) (pc := 26) hC fX12_45_12 (by assumption) dX12_must_26 rfl rfl ?_
      rw [pu_6]
      refine x_aload_n (pc := 29) hC dX12_must_29 rfl ?_
      refine x_geti (K := 8) (pc := 30) hC fX12_51_12 (by assumption) dX12_must_30 rfl rfl ?_
      rw [pu_8]
      refine x_if_eq (tgt := 40) (pc := 33) hC (by omega) dX12_must_33 (by decide) (fun c33 => by (exfalso; omega)) (fun c33 => ?_)
      refine x_iconst (pc := 36) hC dX12_must_36 ?_
      refine x_goto (tgt := 41) (pc := 37) hC dX12_must_37 (by decide) ?_
      refine x_iadd (pc := 41) hC dX12_must_41 ?_
      refine x_puti (K := 6) (pc := 42) hC rfl fX12_45_12 rfl (by assumption) dX12_must_42 rfl ?_
      refine X.mem (pu_w6 _ _ _ _ _ _) ?_
      refine x_return hC hZ dX12_must_45 (by decide) (by decide) ?_
      refine ⟨rfl, ?_, rfl, rfl⟩
      have e : mustF (σ 46 7) c0 (sp, wg, op, z) = (sp, 1, op, z) := if_neg (fun h => c13 h.2)
      rw [e, Int.add_zero]

set_option maxHeartbeats 4000000 in
set_option maxRecDepth 100000 in
theorem s_spells (E : xE) {σ : xM} {ρ : xR} {ks : xKs} (hk : MK ks) (hw : MW ρ) {sp wg op : Int} {z : zS} (hac : 0 ≤ σ 46 5 ∧ σ 46 5 ≤ 4) (hen : 0 ≤ σ 46 7 ∧ σ 46 7 ≤ 100) (hpi : PIn (σ 46 7) (σ 46 5) (sp, wg, op, z)) {u : Nat} (hu : u < 6) : Sp E yX12_spells kX12_spells 4 0 0 [.ref 46, .float (UInt32.ofNat u)] (pu σ sp wg op z) ρ ks (Fn none (pu σ (spellF (σ 46 7) u (sp, wg, op, z) (sLn u).toNat).1 (spellF (σ 46 7) u (sp, wg, op, z) (sLn u).toNat).2.1 (spellF (σ 46 7) u (sp, wg, op, z) (sLn u).toNat).2.2.1 (spellF (σ 46 7) u (sp, wg, op, z) (sLn u).toNat).2.2.2) ρ ks) := by
  obtain ⟨k46, k47, k48, k49, k50, k51, k52, k53, k54⟩ := id hk
  obtain ⟨w1, w2, w3, w10, w11, w14, w15, w16⟩ := id hw
  obtain ⟨hsp, hwg, hop, hct, htp⟩ := id hpi
  simp only at hsp hwg hop hct htp
  refine x_enter (own := RX12) (L := [_, _, _]) (by decide +kernel) rfl (by exact Nat.le_of_ble_eq_true rfl) rfl (fun p e R s m args below meth c Z hZ hC hR hin => ?_)
  have hln := sLn_in hu
  have loop : ∀ (i k : Nat) (j : Int), j = k → (k : Int) + i = sLn u → X E p e R s m args below meth c Z 0 0 (pu σ (spellF (σ 46 7) u (sp, wg, op, z) k).1 (spellF (σ 46 7) u (sp, wg, op, z) k).2.1 (spellF (σ 46 7) u (sp, wg, op, z) k).2.2.1 (spellF (σ 46 7) u (sp, wg, op, z) k).2.2.2) ρ ks 2 [some (.ref 46), some (.float (UInt32.ofNat u)), some (.int (iI j))] [] := by
    intro i
    induction i with
    | zero =>
      intro k j hj hi
      refine x_iload_n (pc := 2) hC dX12_spells_2 rfl ?_
      refine x_aloadS_n (pc := 3) hC dX12_spells_3 rfl ?_
      refine x_callK1 (As := []) (Bs := []) (pc := 4) hC (s_length E hu) wX12_59 pJ0_length_8abf5 hu rfl rfl (by exact Nat.le_of_ble_eq_true rfl) hR (by decide) (by decide) (by decide) rfl dX12_spells_4 ?_
      refine x_icmp_ge (tgt := 25) (pc := 7) hC (by omega) (by omega) dX12_spells_7 (by decide) (fun c7 => ?_) (fun c7 => by (exfalso; omega))
      refine x_return hC hZ dX12_spells_25 (by decide) (by decide) ?_
      refine ⟨rfl, ?_, rfl, rfl⟩
      rw [show (sLn u).toNat = k by omega]
    | succ i ih =>
      intro k j hj hi
      have hik := spell_in (k := k) hu hpi hen.2 (by omega)
      have hin := ih (k + 1) (j + 1) (by omega) (by omega)
      have hch := (sB_k (k := j) hu (by omega)).2.1
      have hch2 := (sB_k (k := j) hu (by omega)).2.2.1
      have hst : spellF (σ 46 7) u (sp, wg, op, z) (k + 1) = mustF (σ 46 7) (sB u k) (spellF (σ 46 7) u (sp, wg, op, z) k) := rfl
      rw [hst] at hin
      generalize spellF (σ 46 7) u (sp, wg, op, z) k = tt at *
      obtain ⟨sp1, wg1, op1, z1⟩ := tt
      refine x_iload_n (pc := 2) hC dX12_spells_2 rfl ?_
      refine x_aloadS_n (pc := 3) hC dX12_spells_3 rfl ?_
      refine x_callK1 (As := []) (Bs := []) (pc := 4) hC (s_length E hu) wX12_59 pJ0_length_8abf5 hu rfl rfl (by exact Nat.le_of_ble_eq_true rfl) hR (by decide) (by decide) (by decide) rfl dX12_spells_4 ?_
      refine x_icmp_ge (tgt := 25) (pc := 7) hC (by omega) (by omega) dX12_spells_7 (by decide) (fun c7 => by (exfalso; omega)) (fun c7 => ?_)
      refine x_aload_n (pc := 10) hC dX12_spells_10 rfl ?_
      refine x_aloadS_n (pc := 11) hC dX12_spells_11 rfl ?_
      refine x_iload_n (pc := 12) hC dX12_spells_12 rfl ?_
      refine x_callK1 (As := [_]) (Bs := [_]) (pc := 13) hC (s_charAt E hu (by omega)) wX12_64 pJ0_charAt_5068e hu rfl rfl (by exact Nat.le_of_ble_eq_true rfl) hR (by decide) (by decide) (by decide) rfl dX12_spells_13 ?_
      refine x_callV0 (As := [_]) (Bs := [_]) (pc := 16) hC (s_must E hk hw hac hen hik (by omega)) wX12_68_12 pX12_must (by assumption) rfl rfl (by exact Nat.le_of_ble_eq_true rfl) hR (by decide) (by decide) (by decide) rfl dX12_spells_16 ?_
      refine x_iinc (L' := [_, _, _]) (pc := 19) hC dX12_spells_19 rfl rfl rfl ?_
      refine x_goto (tgt := 2) (pc := 22) hC dX12_spells_22 (by decide) ?_
      rw [← hj] at hin
      exact hin
  refine x_iconst (pc := 0) hC dX12_spells_0 ?_
  refine x_istore_n (L' := [_, _, _]) (pc := 1) hC dX12_spells_1 rfl rfl ?_
  exact loop (sLn u).toNat 0 0 rfl (by omega)

set_option maxHeartbeats 4000000 in
set_option maxRecDepth 100000 in
theorem s_figures (E : xE) {σ : xM} {ρ : xR} {ks : xKs} (hk : MK ks) (hw : MW ρ) {sp wg op : Int} {z : zS} (hac : 0 ≤ σ 46 5 ∧ σ 46 5 ≤ 4) (hen : 0 ≤ σ 46 7 ∧ σ 46 7 ≤ 100) (hpi : PIn (σ 46 7) (σ 46 5) (sp, wg, op, z)) : Sp E yX12_figures kX12_figures 2 0 0 [.ref 46] (pu σ sp wg op z) ρ ks (Fn (some (.int (iI (figF (σ 46 7) (sp, wg, op, z)).2))) (pu σ (figF (σ 46 7) (sp, wg, op, z)).1.1 (figF (σ 46 7) (sp, wg, op, z)).1.2.1 (figF (σ 46 7) (sp, wg, op, z)).1.2.2.1 (figF (σ 46 7) (sp, wg, op, z)).1.2.2.2) ρ ks) := by
  obtain ⟨k46, k47, k48, k49, k50, k51, k52, k53, k54⟩ := id hk
  obtain ⟨w1, w2, w3, w10, w11, w14, w15, w16⟩ := id hw
  obtain ⟨hsp, hwg, hop, hct, htp⟩ := id hpi
  simp only at hsp hwg hop hct htp
  refine x_enter (own := RX12) (L := [_, _, _]) (by decide +kernel) rfl (by exact Nat.le_of_ble_eq_true rfl) rfl (fun p e R s m args below meth c Z hZ hC hR hin => ?_)
  have hh := here_in (sp := sp) (en := σ 46 7) htp hsp.1 hen.2
  have hh2 := here_in (sp := sp + 1) (en := σ 46 7) htp (by omega) hen.2
  refine x_aload_n (pc := 0) hC dX12_figures_0 rfl ?_
  refine x_aload_n (pc := 1) hC dX12_figures_1 rfl ?_
  refine x_geti (K := 8) (pc := 2) hC fX12_51_12 (by assumption) dX12_figures_2 rfl rfl ?_
  rw [pu_8]
  refine x_if_ne (tgt := 22) (pc := 5) hC (by omega) dX12_figures_5 (by decide) (fun c5 => ?_) (fun c5 => ?_)
  · refine x_iconst (pc := 22) hC dX12_figures_22 ?_
    refine x_goto (tgt := 27) (pc := 23) hC dX12_figures_23 (by decide) ?_
    refine x_putz (K := 8) (pc := 27) hC rfl fX12_51_12 rfl (by assumption) dX12_figures_27 rfl (by omega) ?_
    refine X.mem (pu_w8 _ _ _ _ _ _) ?_
    refine x_iconst (pc := 30) hC dX12_figures_30 ?_
    refine x_istore_n (L' := [_, _, _]) (pc := 31) hC dX12_figures_31 rfl rfl ?_
    refine x_iconst (pc := 32) hC dX12_figures_32 ?_
    refine x_istore_n (L' := [_, _, _]) (pc := 33) hC dX12_figures_33 rfl rfl ?_
    refine x_iload_n (pc := 34) hC dX12_figures_34 rfl ?_
    refine x_iconst (pc := 35) hC dX12_figures_35 ?_
    refine x_icmp_ge (tgt := 97) (pc := 36) hC (by omega) (by omega) dX12_figures_36 (by decide) (fun c36 => by (exfalso; omega)) (fun c36 => ?_)
    refine x_aload_n (pc := 39) hC dX12_figures_39 rfl ?_
    refine x_geti (K := 8) (pc := 40) hC fX12_51_12 (by assumption) dX12_figures_40 rfl rfl ?_
    rw [pu_8]
    refine x_if_ne (tgt := 97) (pc := 43) hC (by omega) dX12_figures_43 (by decide) (fun c43 => ?_) (fun c43 => by (exfalso; omega))
    refine x_iload_n (pc := 97) hC dX12_figures_97 rfl ?_
    refine x_ireturn hC hZ dX12_figures_98 (by decide) (by decide) ?_
    have e : figF (σ 46 7) (sp, wg, op, z) = ((sp, 1, op, z), 0) := by unfold figF; simp only; rw [if_pos (by omega)]
    rw [e]
    exact ⟨congrArg (fun z => some (Value.int (iI z))) (by first | (simp only; done) | (simp only; omega)), rfl, rfl, rfl⟩
  · refine x_aload_n (pc := 8) hC dX12_figures_8 rfl ?_
    refine x_callV1 (As := []) (Bs := []) (pc := 9) hC (s_hereP E hk hw hen (by omega)) wX12_55_12 pX12_here (by assumption) rfl rfl (by exact Nat.le_of_ble_eq_true rfl) hR (by decide) (by decide) (by decide) rfl dX12_figures_9 ?_
    refine x_bipush (pc := 12) hC dX12_figures_12 (by decide +kernel) ?_
    refine x_bipush (pc := 14) hC dX12_figures_14 (by decide +kernel) ?_
    refine x_callS1 (As := [_, _, _]) (Bs := [_, _, _]) (pc := 16) hC (s_in E (by omega) (by omega) (by omega)) wX12_41 pX12_in rfl rfl (by exact Nat.le_of_ble_eq_true rfl) hR (by decide) (by decide) (by decide) rfl dX12_figures_16 ?_
    refine x_ifB_ne (tgt := 26) (pc := 19) hC  dX12_figures_19 (by decide) (fun c19 => ?_) (fun c19 => ?_)
    · refine x_iconst (pc := 26) hC dX12_figures_26 ?_
      refine x_putz (K := 8) (pc := 27) hC rfl fX12_51_12 rfl (by assumption) dX12_figures_27 rfl (by omega) ?_
      refine X.mem (pu_w8 _ _ _ _ _ _) ?_
      refine x_iconst (pc := 30) hC dX12_figures_30 ?_
      refine x_istore_n (L' := [_, _, _]) (pc := 31) hC dX12_figures_31 rfl rfl ?_
      refine x_iconst (pc := 32) hC dX12_figures_32 ?_
      refine x_istore_n (L' := [_, _, _]) (pc := 33) hC dX12_figures_33 rfl rfl ?_
      refine x_iload_n (pc := 34) hC dX12_figures_34 rfl ?_
      refine x_iconst (pc := 35) hC dX12_figures_35 ?_
      refine x_icmp_ge (tgt := 97) (pc := 36) hC (by omega) (by omega) dX12_figures_36 (by decide) (fun c36 => by (exfalso; omega)) (fun c36 => ?_)
      refine x_aload_n (pc := 39) hC dX12_figures_39 rfl ?_
      refine x_geti (K := 8) (pc := 40) hC fX12_51_12 (by assumption) dX12_figures_40 rfl rfl ?_
      rw [pu_8]
      refine x_if_ne (tgt := 97) (pc := 43) hC (by omega) dX12_figures_43 (by decide) (fun c43 => by (exfalso; omega)) (fun c43 => ?_)
      refine x_aload_n (pc := 46) hC dX12_figures_46 rfl ?_
      refine x_callV1 (As := []) (Bs := []) (pc := 47) hC (s_hereP E hk hw hen (by omega)) wX12_55_12 pX12_here (by assumption) rfl rfl (by exact Nat.le_of_ble_eq_true rfl) hR (by decide) (by decide) (by decide) rfl dX12_figures_47 ?_
      refine x_bipush (pc := 50) hC dX12_figures_50 (by decide +kernel) ?_
      refine x_bipush (pc := 52) hC dX12_figures_52 (by decide +kernel) ?_
      refine x_callS1 (As := [_, _, _]) (Bs := [_, _, _]) (pc := 54) hC (s_in E (by omega) (by omega) (by omega)) wX12_41 pX12_in rfl rfl (by exact Nat.le_of_ble_eq_true rfl) hR (by decide) (by decide) (by decide) rfl dX12_figures_54 ?_
      refine x_ifB_eq (tgt := 97) (pc := 57) hC  dX12_figures_57 (by decide) (fun c57 => ?_) (fun c57 => ?_)
      · refine x_iload_n (pc := 97) hC dX12_figures_97 rfl ?_
        refine x_ireturn hC hZ dX12_figures_98 (by decide) (by decide) ?_
        exfalso
        omega
      · refine x_iload_n (pc := 60) hC dX12_figures_60 rfl ?_
        refine x_if_eq (tgt := 68) (pc := 61) hC (by omega) dX12_figures_61 (by decide) (fun c61 => ?_) (fun c61 => by (exfalso; omega))
        refine x_bipush (pc := 68) hC dX12_figures_68 (by decide +kernel) ?_
        refine x_iload_n (pc := 70) hC dX12_figures_70 rfl ?_
        refine x_imul (pc := 71) hC dX12_figures_71 ?_
        refine x_aload_n (pc := 72) hC dX12_figures_72 rfl ?_
        refine x_callV1 (As := []) (Bs := []) (pc := 73) hC (s_hereP E hk hw hen (by omega)) wX12_55_12 pX12_here (by assumption) rfl rfl (by exact Nat.le_of_ble_eq_true rfl) hR (by decide) (by decide) (by decide) rfl dX12_figures_73 ?_
        refine x_iadd (pc := 76) hC dX12_figures_76 ?_
        refine x_bipush (pc := 77) hC dX12_figures_77 (by decide +kernel) ?_
        refine x_isub (pc := 79) hC dX12_figures_79 ?_
        refine x_istore_n (L' := [_, _, _]) (pc := 80) hC dX12_figures_80 rfl rfl ?_
        refine x_aload_n (pc := 81) hC dX12_figures_81 rfl ?_
        refine x_dup (pc := 82) hC dX12_figures_82 rfl ?_
        refine x_geti (K := 6) (pc := 83) hC fX12_45_12 (by assumption) dX12_figures_83 rfl rfl ?_
        rw [pu_6]
        refine x_iconst (pc := 86) hC dX12_figures_86 ?_
        refine x_iadd (pc := 87) hC dX12_figures_87 ?_
        refine x_puti (K := 6) (pc := 88) hC rfl fX12_45_12 rfl (by assumption) dX12_figures_88 rfl ?_
        refine X.mem (pu_w6 _ _ _ _ _ _) ?_
        refine x_iinc (L' := [_, _, _]) (pc := 91) hC dX12_figures_91 rfl rfl rfl ?_
        refine x_goto (tgt := 34) (pc := 94) hC dX12_figures_94 (by decide) ?_
        refine x_iload_n (pc := 34) hC dX12_figures_34 rfl ?_
        refine x_iconst (pc := 35) hC dX12_figures_35 ?_
        refine x_icmp_ge (tgt := 97) (pc := 36) hC (by omega) (by omega) dX12_figures_36 (by decide) (fun c36 => by (exfalso; omega)) (fun c36 => ?_)
        refine x_aload_n (pc := 39) hC dX12_figures_39 rfl ?_
        refine x_geti (K := 8) (pc := 40) hC fX12_51_12 (by assumption) dX12_figures_40 rfl rfl ?_
        rw [pu_8]
        refine x_if_ne (tgt := 97) (pc := 43) hC (by omega) dX12_figures_43 (by decide) (fun c43 => by (exfalso; omega)) (fun c43 => ?_)
        refine x_aload_n (pc := 46) hC dX12_figures_46 rfl ?_
        refine x_callV1 (As := []) (Bs := []) (pc := 47) hC (s_hereP E hk hw hen (by omega)) wX12_55_12 pX12_here (by assumption) rfl rfl (by exact Nat.le_of_ble_eq_true rfl) hR (by decide) (by decide) (by decide) rfl dX12_figures_47 ?_
        refine x_bipush (pc := 50) hC dX12_figures_50 (by decide +kernel) ?_
        refine x_bipush (pc := 52) hC dX12_figures_52 (by decide +kernel) ?_
        refine x_callS1 (As := [_, _, _]) (Bs := [_, _, _]) (pc := 54) hC (s_in E (by omega) (by omega) (by omega)) wX12_41 pX12_in rfl rfl (by exact Nat.le_of_ble_eq_true rfl) hR (by decide) (by decide) (by decide) rfl dX12_figures_54 ?_
        refine x_ifB_eq (tgt := 97) (pc := 57) hC  dX12_figures_57 (by decide) (fun c57 => ?_) (fun c57 => ?_)
        · refine x_iload_n (pc := 97) hC dX12_figures_97 rfl ?_
          refine x_ireturn hC hZ dX12_figures_98 (by decide) (by decide) ?_
          have e : figF (σ 46 7) (sp, wg, op, z) = ((sp + 1, 0, op, z), hereF z sp (σ 46 7) - 48) := by unfold figF; simp only; rw [if_neg (by omega), if_neg (by omega)]
          rw [e]
          exact ⟨congrArg (fun z => some (Value.int (iI z))) (by first | (simp only; done) | (simp only; omega)), rfl, rfl, rfl⟩
        · refine x_iload_n (pc := 60) hC dX12_figures_60 rfl ?_
          refine x_if_eq (tgt := 68) (pc := 61) hC (by omega) dX12_figures_61 (by decide) (fun c61 => by (exfalso; omega)) (fun c61 => ?_)
          refine x_iload_n (pc := 64) hC dX12_figures_64 rfl ?_
          refine x_if_le (tgt := 97) (pc := 65) hC (by omega) dX12_figures_65 (by decide) (fun c65 => ?_) (fun c65 => ?_)
          · refine x_iload_n (pc := 97) hC dX12_figures_97 rfl ?_
            refine x_ireturn hC hZ dX12_figures_98 (by decide) (by decide) ?_
            have e : figF (σ 46 7) (sp, wg, op, z) = ((sp + 1, 0, op, z), hereF z sp (σ 46 7) - 48) := by unfold figF; simp only; rw [if_neg (by omega), if_neg (by omega)]
            rw [e]
            exact ⟨congrArg (fun z => some (Value.int (iI z))) (by first | (simp only; done) | (simp only; omega)), rfl, rfl, rfl⟩
          · refine x_bipush (pc := 68) hC dX12_figures_68 (by decide +kernel) ?_
            refine x_iload_n (pc := 70) hC dX12_figures_70 rfl ?_
            refine x_imul (pc := 71) hC dX12_figures_71 ?_
            refine x_aload_n (pc := 72) hC dX12_figures_72 rfl ?_
            refine x_callV1 (As := []) (Bs := []) (pc := 73) hC (s_hereP E hk hw hen (by omega)) wX12_55_12 pX12_here (by assumption) rfl rfl (by exact Nat.le_of_ble_eq_true rfl) hR (by decide) (by decide) (by decide) rfl dX12_figures_73 ?_
            refine x_iadd (pc := 76) hC dX12_figures_76 ?_
            refine x_bipush (pc := 77) hC dX12_figures_77 (by decide +kernel) ?_
            refine x_isub (pc := 79) hC dX12_figures_79 ?_
            refine x_istore_n (L' := [_, _, _]) (pc := 80) hC dX12_figures_80 rfl rfl ?_
            refine x_aload_n (pc := 81) hC dX12_figures_81 rfl ?_
            refine x_dup (pc := 82) hC dX12_figures_82 rfl ?_
            refine x_geti (K := 6) (pc := 83) hC fX12_45_12 (by assumption) dX12_figures_83 rfl rfl ?_
            rw [pu_6]
            refine x_iconst (pc := 86) hC dX12_figures_86 ?_
            refine x_iadd (pc := 87) hC dX12_figures_87 ?_
            refine x_puti (K := 6) (pc := 88) hC rfl fX12_45_12 rfl (by assumption) dX12_figures_88 rfl ?_
            refine X.mem (pu_w6 _ _ _ _ _ _) ?_
            refine x_iinc (L' := [_, _, _]) (pc := 91) hC dX12_figures_91 rfl rfl rfl ?_
            refine x_goto (tgt := 34) (pc := 94) hC dX12_figures_94 (by decide) ?_
            refine x_iload_n (pc := 34) hC dX12_figures_34 rfl ?_
            refine x_iconst (pc := 35) hC dX12_figures_35 ?_
            refine x_icmp_ge (tgt := 97) (pc := 36) hC (by omega) (by omega) dX12_figures_36 (by decide) (fun c36 => ?_) (fun c36 => by (exfalso; omega))
            refine x_iload_n (pc := 97) hC dX12_figures_97 rfl ?_
            refine x_ireturn hC hZ dX12_figures_98 (by decide) (by decide) ?_
            have e : figF (σ 46 7) (sp, wg, op, z) = ((sp + 2, 0, op, z), 10 * (hereF z sp (σ 46 7) - 48) + hereF z (sp + 1) (σ 46 7) - 48) := by unfold figF; simp only; rw [if_neg (by omega), if_pos (by omega)]
            rw [e]
            exact ⟨congrArg (fun z => some (Value.int (iI z))) (by first | (simp only; done) | (simp only; omega)), by rw [show sp + 1 + 1 = sp + 2 by omega], rfl, rfl⟩
    · refine x_iconst (pc := 22) hC dX12_figures_22 ?_
      refine x_goto (tgt := 27) (pc := 23) hC dX12_figures_23 (by decide) ?_
      refine x_putz (K := 8) (pc := 27) hC rfl fX12_51_12 rfl (by assumption) dX12_figures_27 rfl (by omega) ?_
      refine X.mem (pu_w8 _ _ _ _ _ _) ?_
      refine x_iconst (pc := 30) hC dX12_figures_30 ?_
      refine x_istore_n (L' := [_, _, _]) (pc := 31) hC dX12_figures_31 rfl rfl ?_
      refine x_iconst (pc := 32) hC dX12_figures_32 ?_
      refine x_istore_n (L' := [_, _, _]) (pc := 33) hC dX12_figures_33 rfl rfl ?_
      refine x_iload_n (pc := 34) hC dX12_figures_34 rfl ?_
      refine x_iconst (pc := 35) hC dX12_figures_35 ?_
      refine x_icmp_ge (tgt := 97) (pc := 36) hC (by omega) (by omega) dX12_figures_36 (by decide) (fun c36 => by (exfalso; omega)) (fun c36 => ?_)
      refine x_aload_n (pc := 39) hC dX12_figures_39 rfl ?_
      refine x_geti (K := 8) (pc := 40) hC fX12_51_12 (by assumption) dX12_figures_40 rfl rfl ?_
      rw [pu_8]
      refine x_if_ne (tgt := 97) (pc := 43) hC (by omega) dX12_figures_43 (by decide) (fun c43 => ?_) (fun c43 => by (exfalso; omega))
      refine x_iload_n (pc := 97) hC dX12_figures_97 rfl ?_
      refine x_ireturn hC hZ dX12_figures_98 (by decide) (by decide) ?_
      have e : figF (σ 46 7) (sp, wg, op, z) = ((sp, 1, op, z), 0) := by unfold figF; simp only; rw [if_pos (by omega)]
      rw [e]
      exact ⟨congrArg (fun z => some (Value.int (iI z))) (by first | (simp only; done) | (simp only; omega)), rfl, rfl, rfl⟩

set_option maxHeartbeats 4000000 in
set_option maxRecDepth 100000 in
theorem s_among (E : xE) {σ : xM} {ρ : xR} {ks : xKs} (hk : MK ks) (hw : MW ρ) {sp wg op : Int} {z : zS} (hac : 0 ≤ σ 46 5 ∧ σ 46 5 ≤ 4) (hen : 0 ≤ σ 46 7 ∧ σ 46 7 ≤ 100) (hpi : PIn (σ 46 7) (σ 46 5) (sp, wg, op, z)) {u : Nat} (hu : u < 6) : Sp E yX12_among kX12_among 4 0 0 [.ref 46, .float (UInt32.ofNat u)] (pu σ sp wg op z) ρ ks (Fn (some (.int (iI (amF (σ 46 7) u (sp, wg, op, z))))) (pu σ (amT (σ 46 7) u (sp, wg, op, z)).1 (amT (σ 46 7) u (sp, wg, op, z)).2.1 (amT (σ 46 7) u (sp, wg, op, z)).2.2.1 (amT (σ 46 7) u (sp, wg, op, z)).2.2.2) ρ ks) := by
  obtain ⟨k46, k47, k48, k49, k50, k51, k52, k53, k54⟩ := id hk
  obtain ⟨w1, w2, w3, w10, w11, w14, w15, w16⟩ := id hw
  obtain ⟨hsp, hwg, hop, hct, htp⟩ := id hpi
  simp only at hsp hwg hop hct htp
  refine x_enter (own := RX12) (L := [_, _, _]) (by decide +kernel) rfl (by exact Nat.le_of_ble_eq_true rfl) rfl (fun p e R s m args below meth c Z hZ hC hR hin => ?_)
  have hln := sLn_in hu
  have hh := here_in (sp := sp) (en := σ 46 7) htp hsp.1 hen.2
  have loop : ∀ (i k : Nat) (j : Int), j = k → (k : Int) + i = sLn u → amI (hereF z sp (σ 46 7)) u i j = amF (σ 46 7) u (sp, wg, op, z) → X E p e R s m args below meth c Z 0 0 (pu σ sp wg op z) ρ ks 2 [some (.ref 46), some (.float (UInt32.ofNat u)), some (.int (iI j))] [] := by
    intro i
    induction i with
    | zero =>
      intro k j hj hi ha
      have hr : amF (σ 46 7) u (sp, wg, op, z) = -1 := ha.symm
      refine x_iload_n (pc := 2) hC dX12_among_2 rfl ?_
      refine x_aloadS_n (pc := 3) hC dX12_among_3 rfl ?_
      refine x_callK1 (As := []) (Bs := []) (pc := 4) hC (s_length E hu) wX12_59 pJ0_length_8abf5 hu rfl rfl (by exact Nat.le_of_ble_eq_true rfl) hR (by decide) (by decide) (by decide) rfl dX12_among_4 ?_
      refine x_icmp_ge (tgt := 40) (pc := 7) hC (by omega) (by omega) dX12_among_7 (by decide) (fun c7 => ?_) (fun c7 => by (exfalso; omega))
      refine x_iconst (pc := 40) hC dX12_among_40 ?_
      refine x_ireturn hC hZ dX12_among_41 (by decide) (by decide) ?_
      refine ⟨congrArg (fun z => some (Value.int (iI z))) hr.symm, ?_, rfl, rfl⟩
      rw [show amT (σ 46 7) u (sp, wg, op, z) = (sp, wg, op, z) from if_pos hr]
    | succ i ih =>
      intro k j hj hi ha
      have hch := (sB_k (k := j) hu (by omega)).2.1
      have hch2 := (sB_k (k := j) hu (by omega)).2.2.1
      have ha' : (if hereF z sp (σ 46 7) = sB u j then j else amI (hereF z sp (σ 46 7)) u i (j + 1)) = amF (σ 46 7) u (sp, wg, op, z) := ha
      refine x_iload_n (pc := 2) hC dX12_among_2 rfl ?_
      refine x_aloadS_n (pc := 3) hC dX12_among_3 rfl ?_
      refine x_callK1 (As := []) (Bs := []) (pc := 4) hC (s_length E hu) wX12_59 pJ0_length_8abf5 hu rfl rfl (by exact Nat.le_of_ble_eq_true rfl) hR (by decide) (by decide) (by decide) rfl dX12_among_4 ?_
      refine x_icmp_ge (tgt := 40) (pc := 7) hC (by omega) (by omega) dX12_among_7 (by decide) (fun c7 => by (exfalso; omega)) (fun c7 => ?_)
      refine x_aload_n (pc := 10) hC dX12_among_10 rfl ?_
      refine x_callV1 (As := []) (Bs := []) (pc := 11) hC (s_hereP E hk hw hen (by omega)) wX12_55_12 pX12_here (by assumption) rfl rfl (by exact Nat.le_of_ble_eq_true rfl) hR (by decide) (by decide) (by decide) rfl dX12_among_11 ?_
      refine x_aloadS_n (pc := 14) hC dX12_among_14 rfl ?_
      refine x_iload_n (pc := 15) hC dX12_among_15 rfl ?_
      refine x_callK1 (As := [_]) (Bs := [_]) (pc := 16) hC (s_charAt E hu (by omega)) wX12_64 pJ0_charAt_5068e hu rfl rfl (by exact Nat.le_of_ble_eq_true rfl) hR (by decide) (by decide) (by decide) rfl dX12_among_16 ?_
      refine x_icmp_ne (tgt := 34) (pc := 19) hC (by omega) (by omega) dX12_among_19 (by decide) (fun c19 => ?_) (fun c19 => ?_)
      · refine x_iinc (L' := [_, _, _]) (pc := 34) hC dX12_among_34 rfl rfl rfl ?_
        refine x_goto (tgt := 2) (pc := 37) hC dX12_among_37 (by decide) ?_
        rw [if_neg c19] at ha'
        exact ih (k + 1) (j + 1) (by omega) (by omega) ha'
      · refine x_aload_n (pc := 22) hC dX12_among_22 rfl ?_
        refine x_dup (pc := 23) hC dX12_among_23 rfl ?_
        refine x_geti (K := 6) (pc := 24) hC fX12_45_12 (by assumption) dX12_among_24 rfl rfl ?_
        rw [pu_6]
        refine x_iconst (pc := 27) hC dX12_among_27 ?_
        refine x_iadd (pc := 28) hC dX12_among_28 ?_
        refine x_puti (K := 6) (pc := 29) hC rfl fX12_45_12 rfl (by assumption) dX12_among_29 rfl ?_
        refine X.mem (pu_w6 _ _ _ _ _ _) ?_
        refine x_iload_n (pc := 32) hC dX12_among_32 rfl ?_
        refine x_ireturn hC hZ dX12_among_33 (by decide) (by decide) ?_
        rw [if_pos c19] at ha'
        refine ⟨congrArg (fun z => some (Value.int (iI z))) ha', ?_, rfl, rfl⟩
        rw [show amT (σ 46 7) u (sp, wg, op, z) = (sp + 1, wg, op, z) from if_neg (by omega)]
  refine x_iconst (pc := 0) hC dX12_among_0 ?_
  refine x_istore_n (L' := [_, _, _]) (pc := 1) hC dX12_among_1 rfl rfl ?_
  exact loop (sLn u).toNat 0 0 rfl (by omega) rfl

theorem em_in {en ac v : Int} {t : pT} (h : PIn en ac t) (hlt : t.2.1 = 0 → t.2.2.2 (228 + ac) < t.1) (ha : 0 ≤ ac ∧ ac ≤ 4) : PIn en ac (emF ac v t) := by
  obtain ⟨h1, h2, h3, h4, h5⟩ := h
  unfold emF
  split
  · next hw =>
    have := hlt hw
    refine ⟨h1, Or.inl rfl, ⟨h3.1, h3.2.1, fun _ => h3.2.2 hw⟩, ?_, fun j j0 j1 => ?_⟩
    · simp only; rw [up_eq]; omega
    · simp only; rw [up_ne _ (by omega), up_ne _ (by omega)]; exact h5 j j0 j1
  · exact ⟨h1, h2, h3, h4, h5⟩
set_option maxHeartbeats 4000000 in
set_option maxRecDepth 100000 in
theorem s_emits (E : xE) {σ : xM} {ρ : xR} {ks : xKs} (hk : MK ks) (hw : MW ρ) {sp wg op : Int} {z : zS} (hac : 0 ≤ σ 46 5 ∧ σ 46 5 ≤ 4) (hen : 0 ≤ σ 46 7 ∧ σ 46 7 ≤ 100) (hpi : PIn (σ 46 7) (σ 46 5) (sp, wg, op, z)) {v : Int} : Sp E yX12_emits kX12_emits 0 0 0 [.ref 46, .int (iI v)] (pu σ sp wg op z) ρ ks (Fn none (pu σ (emF (σ 46 5) v (sp, wg, op, z)).1 (emF (σ 46 5) v (sp, wg, op, z)).2.1 (emF (σ 46 5) v (sp, wg, op, z)).2.2.1 (emF (σ 46 5) v (sp, wg, op, z)).2.2.2) ρ ks) := by
  obtain ⟨k46, k47, k48, k49, k50, k51, k52, k53, k54⟩ := id hk
  obtain ⟨w1, w2, w3, w10, w11, w14, w15, w16⟩ := id hw
  obtain ⟨hsp, hwg, hop, hct, htp⟩ := id hpi
  simp only at hsp hwg hop hct htp
  refine x_enter (own := RX12) (L := [_, _]) (by decide +kernel) rfl (by exact Nat.le_of_ble_eq_true rfl) rfl (fun p e R s m args below meth c Z hZ hC hR hin => ?_)
  refine x_aload_n (pc := 0) hC dX12_emits_0 rfl ?_
  refine x_geti (K := 8) (pc := 1) hC fX12_51_12 (by assumption) dX12_emits_1 rfl rfl ?_
  rw [pu_8]
  refine x_if_ne (tgt := 56) (pc := 4) hC (by omega) dX12_emits_4 (by decide) (fun c4 => ?_) (fun c4 => ?_)
  · refine x_return hC hZ dX12_emits_56 (by decide) (by decide) ?_
    refine ⟨rfl, ?_, rfl, rfl⟩
    rw [show emF (σ 46 5) v (sp, wg, op, z) = (sp, wg, op, z) from if_neg c4]
  · refine x_aload_n (pc := 7) hC dX12_emits_7 rfl ?_
    refine x_getr (K := 1) (pc := 8) hC fX12_9_12 (by assumption) dX12_emits_8 rfl rfl (by assumption) ?_
    refine x_sipush (pc := 11) hC dX12_emits_11 (by decide +kernel) ?_
    refine x_sipush (pc := 14) hC dX12_emits_14 (by decide +kernel) ?_
    refine x_aload_n (pc := 17) hC dX12_emits_17 rfl ?_
    refine x_geti (K := 5) (pc := 18) hC fX12_72_12 (by assumption) dX12_emits_18 rfl rfl ?_
    rw [pu_5]
    refine x_imul (pc := 21) hC dX12_emits_21 ?_
    refine x_iadd (pc := 22) hC dX12_emits_22 ?_
    refine x_aload_n (pc := 23) hC dX12_emits_23 rfl ?_
    refine x_getr (K := 1) (pc := 24) hC fX12_9_12 (by assumption) dX12_emits_24 rfl rfl (by assumption) ?_
    refine x_sipush (pc := 27) hC dX12_emits_27 (by decide +kernel) ?_
    refine x_aload_n (pc := 30) hC dX12_emits_30 rfl ?_
    refine x_geti (K := 5) (pc := 31) hC fX12_72_12 (by assumption) dX12_emits_31 rfl rfl ?_
    rw [pu_5]
    refine x_iadd (pc := 34) hC dX12_emits_34 ?_
    refine x_iald (pc := 35) hC (by assumption) (by omega) dX12_emits_35 ?_
    rw [pu_z]
    refine x_iadd (pc := 36) hC dX12_emits_36 ?_
    refine x_iload_n (pc := 37) hC dX12_emits_37 rfl ?_
    refine x_iast (pc := 38) hC (by assumption) (by omega) dX12_emits_38 ?_
    refine X.mem (pu_ws _ _ _ _ _ _ _) ?_
    refine x_aload_n (pc := 39) hC dX12_emits_39 rfl ?_
    refine x_getr (K := 1) (pc := 40) hC fX12_9_12 (by assumption) dX12_emits_40 rfl rfl (by assumption) ?_
    refine x_sipush (pc := 43) hC dX12_emits_43 (by decide +kernel) ?_
    refine x_aload_n (pc := 46) hC dX12_emits_46 rfl ?_
    refine x_geti (K := 5) (pc := 47) hC fX12_72_12 (by assumption) dX12_emits_47 rfl rfl ?_
    rw [pu_5]
    refine x_iadd (pc := 50) hC dX12_emits_50 ?_
    refine x_dup2 (pc := 51) hC dX12_emits_51 rfl rfl ?_
    refine x_iald (pc := 52) hC (by assumption) (by omega) dX12_emits_52 ?_
    rw [pu_z]
    refine x_iconst (pc := 53) hC dX12_emits_53 ?_
    refine x_iadd (pc := 54) hC dX12_emits_54 ?_
    refine x_iast (pc := 55) hC (by assumption) (by omega) dX12_emits_55 ?_
    refine X.mem (pu_ws _ _ _ _ _ _ _) ?_
    refine x_return hC hZ dX12_emits_56 (by decide) (by decide) ?_
    refine ⟨rfl, ?_, rfl, rfl⟩
    rw [show emF (σ 46 5) v (sp, wg, op, z) = (sp, 0, op, up (up z (243 + 140 * σ 46 5 + z (228 + σ 46 5)) v) (228 + σ 46 5) (z (228 + σ 46 5) + 1)) from if_pos (show wg = 0 by omega), show wg = 0 by omega, up_ne _ (by omega)]
