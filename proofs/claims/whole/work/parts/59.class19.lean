/-! masks of fans; seconds by a mask -/
theorem bOr_z {a : Int} (h : rg a) : bOr a 0 = a := by
  unfold bOr
  rw [iI_0, Int32.or_zero, iI_toInt h]
theorem mask_bits (z : zS) : ∀ n : Nat, n ≤ 4 → ∃ m : Nat, maskF z n = m ∧ m < 2 ^ n ∧ ∀ f : Nat, f < n → (m.testBit f = true ↔ z (42 + f) ≠ 0)
  | 0, _ => ⟨0, rfl, by decide, fun f h => by omega⟩
  | n + 1, hn => by
    obtain ⟨m, h1, h2, h3⟩ := mask_bits z n (by omega)
    have hp : 2 ^ n ≤ 2 ^ 4 := Nat.pow_le_pow_right (by decide) (by omega)
    have hpp : 2 ^ (n + 1) = 2 ^ n * 2 := Nat.pow_succ _ _
    have e : maskF z (n + 1) = if z (42 + n) ≠ 0 then bOr (maskF z n) (bShl 1 n) else maskF z n := rfl
    by_cases hz : z (42 + n) ≠ 0
    · refine ⟨m ||| 2 ^ n, ?_, Nat.or_lt_two_pow (by omega) (by omega), fun f hf => ?_⟩
      · have e2 : bShl 1 n = ((2 ^ n : Nat) : Int) := by
          have := bShl_n (a := 1) (k := n) (by omega) (by omega)
          rw [Nat.one_mul] at this
          exact this
        rw [e, if_pos hz, h1, e2, bOr_n (by omega) (by omega)]
      · rw [Nat.testBit_or, Nat.testBit_two_pow]
        by_cases hfn : f = n
        · subst hfn; simp [hz]
        · have := h3 f (by omega)
          simp [show ¬ n = f by omega, this]
    · refine ⟨m, by rw [e, if_neg hz, h1], by omega, fun f hf => ?_⟩
      by_cases hfn : f = n
      · subst hfn
        rw [Nat.testBit_lt_two_pow h2]
        simp at hz
        simp [hz]
      · exact h3 f (by omega)
theorem mask_in {z : zS} {n : Nat} (hn : n ≤ 4) : 0 ≤ maskF z n ∧ maskF z n ≤ 15 := by
  obtain ⟨m, h1, h2, -⟩ := mask_bits z n hn
  have hp : 2 ^ n ≤ 2 ^ 4 := Nat.pow_le_pow_right (by decide) hn
  omega
theorem mask_bit {z : zS} {n f : Nat} (hn : n ≤ 4) (hf : f < n) : bAnd (bShr (maskF z n) f) 1 = 1 ↔ z (42 + f) ≠ 0 := by
  obtain ⟨m, h1, h2, h3⟩ := mask_bits z n hn
  have hp : 2 ^ n ≤ 2 ^ 4 := Nat.pow_le_pow_right (by decide) hn
  rw [h1, bit_n (by omega) (by omega)]
  exact h3 f hf
theorem rch_reached {z : zS} {t : Int} {N : Nat} (hN : N ≤ 4) (h01 : ∀ f : Nat, f < N → z (42 + f) = 0 ∨ z (42 + f) = 1) : ∀ n : Nat, n ≤ N → rchF z (maskF z N) t n = reachedF z t n
  | 0, _ => rfl
  | n + 1, hn => by
    have ih := rch_reached hN h01 n (by omega) (t := t)
    have hb := mask_bit (z := z) hN (f := n) (by omega)
    have h0 := h01 n (by omega)
    show (if bAnd (bShr (maskF z N) n) 1 = 1 then bOr (rchF z (maskF z N) t n) (reachF z n t) else rchF z (maskF z N) t n) = bOr (chain _ n) (if z (42 + (n : Int)) = 1 then reachF z n t else 0)
    by_cases h : z (42 + n) = 1
    · rw [if_pos (hb.mpr (by omega)), if_pos h, ih]; rfl
    · rw [if_neg (fun q => hb.mp q (by omega)), if_neg h, bOr_z (chain_rg _ _), ih]; rfl
theorem mtr_met {z : zS} {p t : Int} {N : Nat} (h01 : ∀ f : Nat, f < N → z (42 + f) = 0 ∨ z (42 + f) = 1) : ∀ n : Nat, n ≤ N → mtrF z p t n = metByF z p t n
  | 0, _ => rfl
  | n + 1, hn => by
    have ih := mtr_met h01 n (by omega) (t := t) (p := p)
    have h0 := h01 n (by omega)
    show (if z (42 + (n : Int)) ≠ 0 ∧ bAnd (bShr (reachF z n t) (z (62 + p))) 1 = 1 then bOr (mtrF z p t n) (bShl 1 n) else mtrF z p t n) = bOr (chain _ n) (if z (42 + (n : Int)) = 1 ∧ bAnd (bShr (reachF z n t) (z (62 + p))) 1 = 1 then bShl 1 n else 0)
    by_cases h : z (42 + n) = 1 ∧ bAnd (bShr (reachF z n t) (z (62 + p))) 1 = 1
    · rw [if_pos ⟨by omega, h.2⟩, if_pos h, ih]; rfl
    · rw [if_neg (fun q => h ⟨by omega, q.2⟩), if_neg h, bOr_z (chain_rg _ _), ih]; rfl
def mq1 (a : Int) : Int := if a ≠ 0 then bOr 0 (bShl 1 0) else 0
def mq2 (a b : Int) : Int := if b ≠ 0 then bOr (mq1 a) (bShl 1 1) else mq1 a
def mq3 (a b c : Int) : Int := if c ≠ 0 then bOr (mq2 a b) (bShl 1 2) else mq2 a b
def mq4 (a b c d : Int) : Int := if d ≠ 0 then bOr (mq3 a b c) (bShl 1 3) else mq3 a b c
theorem mq_bc : ∀ a, (a = 0 ∨ a = 1) → ∀ b, (b = 0 ∨ b = 1) → ∀ c, (c = 0 ∨ c = 1) → ∀ d, (d = 0 ∨ d = 1) → bcF (mq1 a) = a ∧ bcF (mq2 a b) = a + b ∧ bcF (mq3 a b c) = a + b + c ∧ bcF (mq4 a b c d) = a + b + c + d := by
  intro a ha b hb c hc d hd
  rcases ha with rfl | rfl <;> rcases hb with rfl | rfl <;> rcases hc with rfl | rfl <;> rcases hd with rfl | rfl <;> decide +kernel
theorem bc_mask {z : zS} {N : Nat} (hN : N ≤ 4) (h01 : ∀ f : Nat, f < N → z (42 + f) = 0 ∨ z (42 + f) = 1) : bcF (maskF z N) = onManyF z N := by
  rcases (show N = 0 ∨ N = 1 ∨ N = 2 ∨ N = 3 ∨ N = 4 by omega) with rfl | rfl | rfl | rfl | rfl
  · exact bc_all.1
  · refine ((mq_bc (z 42) (h01 0 (by omega)) 0 (Or.inl rfl) 0 (Or.inl rfl) 0 (Or.inl rfl)).1).trans ?_
    show z 42 = 0 + z (42 + ((0 : Nat) : Int))
    rw [Int.zero_add]; rfl
  · refine ((mq_bc (z 42) (h01 0 (by omega)) (z 43) (h01 1 (by omega)) 0 (Or.inl rfl) 0 (Or.inl rfl)).2.1).trans ?_
    show z 42 + z 43 = 0 + z (42 + ((0 : Nat) : Int)) + z (42 + ((1 : Nat) : Int))
    rw [Int.zero_add]; rfl
  · refine ((mq_bc (z 42) (h01 0 (by omega)) (z 43) (h01 1 (by omega)) (z 44) (h01 2 (by omega)) 0 (Or.inl rfl)).2.2.1).trans ?_
    show z 42 + z 43 + z 44 = 0 + z (42 + ((0 : Nat) : Int)) + z (42 + ((1 : Nat) : Int)) + z (42 + ((2 : Nat) : Int))
    rw [Int.zero_add]; rfl
  · refine ((mq_bc (z 42) (h01 0 (by omega)) (z 43) (h01 1 (by omega)) (z 44) (h01 2 (by omega)) (z 45) (h01 3 (by omega))).2.2.2).trans ?_
    show z 42 + z 43 + z 44 + z 45 = 0 + z (42 + ((0 : Nat) : Int)) + z (42 + ((1 : Nat) : Int)) + z (42 + ((2 : Nat) : Int)) + z (42 + ((3 : Nat) : Int))
    rw [Int.zero_add]; rfl
theorem bc_in : ∀ m : Int, 0 ≤ m → m ≤ 15 → 0 ≤ bcF m ∧ bcF m ≤ 4 := by
  intro m h0 h1
  obtain ⟨a0, a1, a2, a3, a4, a5, a6, a7, a8, a9, a10, a11, a12, a13, a14, a15⟩ := bc_all
  rcases (show m = 0 ∨ m = 1 ∨ m = 2 ∨ m = 3 ∨ m = 4 ∨ m = 5 ∨ m = 6 ∨ m = 7 ∨ m = 8 ∨ m = 9 ∨ m = 10 ∨ m = 11 ∨ m = 12 ∨ m = 13 ∨ m = 14 ∨ m = 15 by omega) with h | h | h | h | h | h | h | h | h | h | h | h | h | h | h | h <;> rw [h] <;> omega
/-! seconds by a mask -/
def secM (m : Int) (z : zS) : zS := secF z (rchF z m (z 0) (z 13).toNat) (bcF m)
def passF (m : Int) (z : zS) : Nat → zS
  | 0 => z
  | n + 1 => secM m (passF m z n)
def passM (m : Int) (z w : zS) : Nat → zS
  | 0 => w
  | n + 1 => metsF (passF m z n) (rchF (passF m z n) m (passF m z n 0) (passF m z n 13).toNat) (passM m z w n) (passF m z n 14).toNat
theorem pass_pl {m : Int} {z : zS} (h : PlOk z) : ∀ n : Nat, z 0 + n < 900000 → PlOk (passF m z n) ∧ passF m z n 0 = z 0 + n ∧ ∀ j, (13 ≤ j ∨ j < 0) → passF m z n j = z j
  | 0, _ => ⟨h, by simp [passF], fun _ _ => rfl⟩
  | n + 1, hn => by
    obtain ⟨a, b, c⟩ := pass_pl h n (by omega) (m := m)
    refine ⟨sec_pl a _ _ (by rw [b]; omega), ?_, fun j hj => ?_⟩
    · show secF _ _ _ 0 = _
      rw [sec_0 _ a.2.1, b]; omega
    · show secF _ _ _ j = _
      rw [sec_out _ a.2.1 _ _ hj, c j hj]
theorem fans_01 {z : zS} (h : FansOk z) : ∀ f : Nat, f < (z 13).toNat → z (42 + f) = 0 ∨ z (42 + f) = 1 := fun f hf => (h.2 f (by omega) (by have := h.1; omega)).2.2.2.2.1
theorem maskF_congr {z z' : zS} (h : ∀ j, 42 ≤ j → j < 46 → z' j = z j) : ∀ n : Nat, n ≤ 4 → maskF z' n = maskF z n
  | 0, _ => rfl
  | n + 1, hn => by
    show (if z' (42 + (n : Int)) ≠ 0 then bOr (maskF z' n) (bShl 1 n) else maskF z' n) = (if z (42 + (n : Int)) ≠ 0 then bOr (maskF z n) (bShl 1 n) else maskF z n)
    rw [h _ (by omega) (by omega), maskF_congr h n (by omega)]
theorem secM_sec1 {z : zS} (h : FansOk z) : secM (maskF z (z 13).toNat) z = sec1 z := by
  have h13 := h.1
  unfold secM sec1
  rw [rch_reached (by omega) (fans_01 h) _ (Nat.le_refl _), bc_mask (by omega) (fans_01 h)]
theorem pass_play {z : zS} (h : PlOk z) {m : Int} (hm : m = maskF z (z 13).toNat) (w : zS) : ∀ n : Nat, z 0 + n < 900000 → passF m z n = playF z n ∧ passM m z w n = playM z w n
  | 0, _ => ⟨rfl, rfl⟩
  | n + 1, hn => by
    obtain ⟨e1, e2⟩ := pass_play h hm w n (by omega)
    obtain ⟨a, b, c⟩ := play_pl h n (by omega)
    have h13 := h.1.1
    have hmm : m = maskF (playF z n) (playF z n 13).toNat := by rw [c 13 (by decide), hm]; exact (maskF_congr (fun j h0 h1 => c j (Or.inl (by omega))) _ (by omega)).symm
    have h13' : (playF z n 13).toNat ≤ 4 := by rw [c 13 (by decide)]; omega
    refine ⟨?_, ?_⟩
    · show secM m (passF m z n) = sec1 (playF z n)
      rw [e1, hmm]; exact secM_sec1 a.1
    · show metsF (passF m z n) (rchF (passF m z n) m (passF m z n 0) (passF m z n 13).toNat) (passM m z w n) (passF m z n 14).toNat = metsF (playF z n) (reachedF (playF z n) (playF z n 0) (playF z n 13).toNat) (playM z w n) (playF z n 14).toNat
      rw [e1, e2, hmm, rch_reached h13' (fans_01 a.1) _ (Nat.le_refl _)]
theorem SZ.sec {σ : xM} {q b : Nat} {z : zS} {r on : Int} (h : SZ σ q b (goesF z r on (z 14).toNat)) (hs : SitOk z) : SZ σ q b (secF z r on) := by
  have h14 := hs.1
  have e14 : goesF z r on (z 14).toNat 14 = z 14 := goesF_hi _ _ _ (Or.inl (by decide)) _ (by omega)
  obtain ⟨a, g⟩ := h
  rw [e14] at a g
  refine ⟨by rw [sec_out z hs r on (Or.inl (by decide))]; exact a, fun i i0 i1 => ?_⟩
  rw [sec_out z hs r on (Or.inl (by decide))] at i1
  unfold secF
  rw [up_ne _ (by omega), up_ne _ (by omega), up_ne _ (by omega)]
  exact g i i0 i1
/-! what does not touch rows of six keeps -/
def Kp (ks : xKs) (σ σ' : xM) : Prop := ∀ p, ks[p]? ≠ some (1, 6) → σ' p = σ p
theorem Kp.rf (ks : xKs) (σ : xM) : Kp ks σ σ := fun _ _ => rfl
theorem Kp.tr {ks : xKs} {a b c : xM} (h : Kp ks a b) (h2 : Kp ks b c) : Kp ks a c := fun p hp => (h2 p hp).trans (h p hp)
theorem FanAt.mem {σ σ' : xM} {ρ ρ' : xR} {ks ks' : xKs} {q : Nat} {f : Int} {z : zS} (h : FanAt σ ρ ks q f z) (h1 : σ' q = σ q) (h2 : z (22 + f) = 6 → σ' (q + 1) = σ (q + 1)) (hρ : ρ' q = ρ q) (hk : ks'[q]? = ks[q]?) (hk2 : z (22 + f) = 6 → ks'[q + 1]? = ks[q + 1]?) : FanAt σ' ρ' ks' q f z := by
  obtain ⟨a, b, c⟩ := h
  refine ⟨by rw [hk]; exact a, by unfold FZ; rw [h1]; exact b, fun h6 => ?_⟩
  obtain ⟨c1, c2, c3⟩ := c h6
  exact ⟨by rw [hk2 h6]; exact c1, by rw [hρ]; exact c2, by rw [h2 h6]; exact c3⟩
theorem FansAt.kp {σ σ' : xM} {ρ : xR} {ks : xKs} {z : zS} (h : FansAt σ ρ ks z) (hk : HK ks ρ) (h2 : Kp ks σ σ') : FansAt σ' ρ ks z := by
  refine ⟨by rw [h2 1 (by rw [hk.1]; intro h; simp at h)]; exact h.1, fun f h0 h1 => ?_⟩
  obtain ⟨q, hq, hf⟩ := h.2 f h0 h1
  refine ⟨q, hq, hf.mem (h2 q (by rw [hf.1]; intro h; simp at h)) (fun h6 => h2 _ (by rw [(hf.2.2 h6).1]; intro h; simp at h)) rfl rfl (fun _ => rfl)⟩
theorem FanAt.row {σ : xM} {ρ : xR} {ks : xKs} {q : Nat} {f : Int} {z z' : zS} (h : FanAt σ ρ ks q f z) (hf : 0 ≤ f ∧ f < 4) (hz : ∀ j, 22 ≤ j → j < 62 → z' j = z j) : FanAt σ ρ ks q f z' := by
  obtain ⟨a, b, c⟩ := h
  unfold FanAt FZ TZ
  rw [hz _ (by omega) (by omega), hz _ (by omega) (by omega), hz _ (by omega) (by omega), hz _ (by omega) (by omega), hz _ (by omega) (by omega), hz _ (by omega) (by omega)]
  refine ⟨a, b, fun h6 => ?_⟩
  obtain ⟨c1, c2, c3⟩ := c h6
  exact ⟨c1, c2, fun k h0 h1 => by rw [hz _ (by omega) (by omega)]; exact c3 k h0 h1⟩
theorem FansAt.row {σ : xM} {ρ : xR} {ks : xKs} {z z' : zS} (h : FansAt σ ρ ks z) (h4 : z 13 ≤ 4) (h13 : z' 13 = z 13) (hz : ∀ j, 22 ≤ j → j < 62 → z' j = z j) : FansAt σ ρ ks z' := by
  refine ⟨by rw [h13]; exact h.1, fun f h0 h1 => ?_⟩
  rw [h13] at h1
  obtain ⟨q, hq, hf⟩ := h.2 f h0 h1
  exact ⟨q, hq, hf.row ⟨h0, by omega⟩ hz⟩
theorem RmP.kp {σ σ' : xM} {ρ : xR} {ks : xKs} {q : Nat} {z : zS} (hr : RmP σ ρ ks q z) (h2 : Kp ks σ σ') : RmP σ' ρ ks q z := by
  obtain ⟨a0, ⟨a1, a2, a3, a4, a5⟩, -⟩ := hr.1
  refine hr.mem (fun p h1 h3 => h2 p ?_) rfl (fun _ _ _ => rfl)
  rcases (show p = q ∨ p = q + 1 ∨ p = q + 2 ∨ p = q + 3 ∨ p = q + 4 ∨ p = q + 5 by omega) with rfl | rfl | rfl | rfl | rfl | rfl
  · rw [a0]; intro h; simp at h
  · rw [a1]; intro h; simp at h
  · rw [a2]; intro h; simp at h
  · rw [a3]; intro h; simp at h
  · rw [a4]; intro h; simp at h
  · rw [a5]; intro h; simp at h
theorem Sit.kp {σ σ' : xM} {ρ : xR} {ks : xKs} {q b : Nat} (hk : SK ks ρ q b) (h : Sit σ σ' b) : Kp ks σ σ' := by
  obtain ⟨-, ⟨-, b1, b2, b3, b4⟩, -⟩ := hk
  intro p hp
  exact h p (fun e => hp (e ▸ b1)) (fun e => hp (e ▸ b2)) (fun e => hp (e ▸ b3)) (fun e => hp (e ▸ b4))
set_option maxHeartbeats 4000000 in
set_option maxRecDepth 100000 in
theorem c_pass (E : xE) {σ : xM} {ρ : xR} {ks : xKs} (hk : HK ks ρ) {z : zS} (hfs : FansAt σ ρ ks z) (hpl : PlOk z) {rq : Nat} (hrq : ρ 1 3 = some rq) (hrm : RmP σ ρ ks rq z) {q b : Nat} (hsk : SK ks ρ q b) (hsz : SZ σ q b z) {mask t n : Int} (hm : 0 ≤ mask ∧ mask ≤ 15) (hz0 : z 0 = t) (htn : t + 60 < 900000) (hn : 0 ≤ n ∧ n ≤ 60) : Sp E yX1_pass kX1_pass 4 0 0 [.ref 1, .ref q, .int (iI mask), .int (iI t), .int (iI n)] σ ρ ks (fun r σ' ρ' ks' => r = none ∧ ρ' = ρ ∧ ks' = ks ∧ Sit σ σ' b ∧ SZ σ' q b (passF mask z n.toNat) ∧ σ' (b + 3) = passM mask z (σ (b + 3)) n.toNat) := by
  obtain ⟨k1, k2, r0, r2, hs3⟩ := id hk
  obtain ⟨ko, -⟩ := id hsk
  have hz00 := hpl.2.2.2
  refine x_enter (own := RX1) (L := [_, _, _, _, _, _]) (by decide +kernel) rfl (by exact Nat.le_of_ble_eq_true rfl) rfl (fun p e R s m args below meth c Z hZ hC hR hin => ?_)
  have h13 := hpl.1.1
  have hbc := bc_in mask hm.1 hm.2
  have loop : ∀ (i k : Nat) (j : Int) (σ' : xM), j = t + k → k + i = n.toNat → Sit σ σ' b → SZ σ' q b (passF mask z k) → σ' (b + 3) = passM mask z (σ (b + 3)) k → X E p e R s m args below meth c Z 0 0 σ' ρ ks 3 [some (.ref 1), some (.ref q), some (.int (iI mask)), some (.int (iI t)), some (.int (iI n)), some (.int (iI j))] [] := by
    intro i
    induction i with
    | zero =>
      intro k j σ' hj hi hfr hszk hmm
      refine x_iload (pc := 3) hC dX1_pass_3 rfl ?_
      refine x_iload_n (pc := 5) hC dX1_pass_5 rfl ?_
      refine x_iload (pc := 6) hC dX1_pass_6 rfl ?_
      refine x_iadd (pc := 8) hC dX1_pass_8 ?_
      refine x_icmp_ge (tgt := 40) (pc := 9) hC (by omega) (by omega) dX1_pass_9 (by decide) (fun c9 => ?_) (fun c9 => by (exfalso; omega))
      refine x_return hC hZ dX1_pass_40 (by decide) (by decide) ?_
      refine ⟨rfl, rfl, rfl, hfr, ?_, ?_⟩
      · rw [show n.toNat = k by omega]; exact hszk
      · rw [show n.toNat = k by omega]; exact hmm
    | succ i ih =>
      intro k j σ' hj hi hfr hszk hmm
      obtain ⟨zk, hzk⟩ : ∃ zk, zk = passF mask z k := ⟨_, rfl⟩
      obtain ⟨hplk, h0k, hhi⟩ := pass_pl (m := mask) hpl k (by omega)
      rw [← hzk] at hplk h0k hhi hszk
      have hkp := hfr.kp hsk
      have hs14 := hplk.2.1.1
      have ht : j = zk 0 := by omega
      have e13 : zk 13 = z 13 := hhi 13 (Or.inl (by decide))
      have hfsk : FansAt σ' ρ ks zk := (hfs.kp hk hkp).row h13.2 (hhi _ (Or.inl (by decide))) (fun i h0 _ => hhi i (Or.inl (by omega)))
      have hrmk : RmP σ' ρ ks rq zk := (hrm.kp hkp).row (hhi _ (Or.inl (by decide))) (fun i h0 => hhi i (Or.inl (by omega))) hpl.2.2.1.1.1
      refine x_iload (pc := 3) hC dX1_pass_3 rfl ?_
      refine x_iload_n (pc := 5) hC dX1_pass_5 rfl ?_
      refine x_iload (pc := 6) hC dX1_pass_6 rfl ?_
      refine x_iadd (pc := 8) hC dX1_pass_8 ?_
      refine x_icmp_ge (tgt := 40) (pc := 9) hC (by omega) (by omega) dX1_pass_9 (by decide) (fun c9 => by (exfalso; omega)) (fun c9 => ?_)
      refine x_aload_n (pc := 12) hC dX1_pass_12 rfl ?_
      refine x_aload_n (pc := 13) hC dX1_pass_13 rfl ?_
      refine x_getr (K := 3) (pc := 14) hC fX1_31_1 (by assumption) dX1_pass_14 rfl rfl (by assumption) ?_
      refine x_aload_n (pc := 17) hC dX1_pass_17 rfl ?_
      refine x_iload_n (pc := 18) hC dX1_pass_18 rfl ?_
      refine x_iload (pc := 19) hC dX1_pass_19 rfl ?_
      refine x_aload_n (pc := 21) hC dX1_pass_21 rfl ?_
      refine x_callV1 (As := [_, _, _]) (Bs := [_, _, _]) (pc := 22) hC (c_reached E hk hfsk hplk.1 (by omega) ⟨by omega, by omega⟩ hsk hszk hplk.2.1) wX1_119_1 pX1_reached (by assumption) rfl rfl (by exact Nat.le_of_ble_eq_true rfl) hR (by decide) (by decide) (by decide) rfl dX1_pass_22 ?_
      refine x_iload_n (pc := 25) hC dX1_pass_25 rfl ?_
      refine x_callS1 (As := [_]) (Bs := [_]) (pc := 26) hC (s_bitCount E) wX1_123 pJ6_bitCount_0f7a4 rfl rfl (by exact Nat.le_of_ble_eq_true rfl) hR (by decide) (by decide) (by decide) rfl dX1_pass_26 ?_
      refine x_iload (pc := 29) hC dX1_pass_29 rfl ?_
      refine x_callV (As := [_, _, _, _]) (Bs := [_, _, _, _]) (pc := 31) hC (c_sit E hsk hszk hplk.2.1 hrmk hplk.2.2.1 hbc ht.symm ⟨by omega, by omega⟩) wX1_129_5 pX5_sit (by assumption) rfl rfl (by exact Nat.le_of_ble_eq_true rfl) hR (by decide) (by decide) (by decide) rfl dX1_pass_31 (fun r31 σ31 ρ31 ks31 q31 => ?_)
      obtain ⟨rfl, rfl, rfl, f1, f2, f3⟩ := q31
      have hps : passF mask z (k + 1) = secF zk (rchF zk mask (zk 0) (zk 13).toNat) (bcF mask) := by rw [hzk]; rfl
      refine x_iinc (L' := [_, _, _, _, _, _]) (pc := 34) hC dX1_pass_34 rfl rfl rfl ?_
      refine x_goto (tgt := 3) (pc := 37) hC dX1_pass_37 (by decide) ?_
      refine ih (k + 1) (j + 1) _ (by omega) (by omega) (fun p h1 h2 h3 h4 => (f1 p h1 h2 h3 h4).trans (hfr p h1 h2 h3 h4)) ?_ ?_
      · rw [hps, ← ht]
        exact f2.sec hplk.2.1
      · rw [f3, hmm]
        show _ = metsF (passF mask z k) (rchF (passF mask z k) mask (passF mask z k 0) (passF mask z k 13).toNat) (passM mask z (σ (b + 3)) k) (passF mask z k 14).toNat
        rw [← hzk, ← ht]
  refine x_iload_n (pc := 0) hC dX1_pass_0 rfl ?_
  refine x_istore (L' := [_, _, _, _, _, _]) (pc := 1) hC dX1_pass_1 rfl rfl ?_
  exact loop n.toNat 0 t σ (by omega) (by omega) (fun _ _ _ _ _ => rfl) hsz rfl
