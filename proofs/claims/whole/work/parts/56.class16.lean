/-! bits of numbers that are not below 0 -/
theorem bs_l : ∀ n, n < 32 → ((nI n &&& 31).toBitVec.smod 32).toNat = n := by decide +kernel
theorem iI_nI (n : Nat) : iI (n : Int) = nI n := (iI_nat n).symm
theorem nI_and (a b : Nat) : nI a &&& nI b = nI (a &&& b) := by
  apply Int32.toBitVec_inj.1
  show BitVec.ofNat 32 a &&& BitVec.ofNat 32 b = BitVec.ofNat 32 (a &&& b)
  apply BitVec.eq_of_getLsbD_eq
  intro i hi
  simp [hi]
theorem nI_or (a b : Nat) : nI a ||| nI b = nI (a ||| b) := by
  apply Int32.toBitVec_inj.1
  show BitVec.ofNat 32 a ||| BitVec.ofNat 32 b = BitVec.ofNat 32 (a ||| b)
  apply BitVec.eq_of_getLsbD_eq
  intro i hi
  simp [hi]
theorem nI_xor (a b : Nat) : nI a ^^^ nI b = nI (a ^^^ b) := by
  apply Int32.toBitVec_inj.1
  show BitVec.ofNat 32 a ^^^ BitVec.ofNat 32 b = BitVec.ofNat 32 (a ^^^ b)
  apply BitVec.eq_of_getLsbD_eq
  intro i hi
  simp [hi]
theorem bAnd_n {a : Nat} (b : Nat) (ha : a < 2147483648) : bAnd a b = ((a &&& b : Nat) : Int) := by
  have h : a &&& b ≤ a := Nat.and_le_left
  unfold bAnd
  rw [iI_nI, iI_nI, nI_and, ← iI_nI, iI_toInt ⟨by omega, by omega⟩]
theorem bOr_n {a b : Nat} (ha : a < 2147483648) (hb : b < 2147483648) : bOr a b = ((a ||| b : Nat) : Int) := by
  have h : a ||| b < 2 ^ 31 := Nat.or_lt_two_pow ha hb
  unfold bOr
  rw [iI_nI, iI_nI, nI_or, ← iI_nI, iI_toInt ⟨by omega, by omega⟩]
theorem bXor_n {a b : Nat} (ha : a < 2147483648) (hb : b < 2147483648) : bXor a b = ((a ^^^ b : Nat) : Int) := by
  have h : a ^^^ b < 2 ^ 31 := Nat.xor_lt_two_pow ha hb
  unfold bXor
  rw [iI_nI, iI_nI, nI_xor, ← iI_nI, iI_toInt ⟨by omega, by omega⟩]
theorem bShl_n {a k : Nat} (hk : k < 32) (h : a * 2 ^ k < 2147483648) : bShl a k = ((a * 2 ^ k : Nat) : Int) := by
  unfold bShl
  rw [iI_nI, iI_nI, pk_shlN _ k (bs_l k hk) (by omega), ← iI_nI, iI_toInt ⟨by omega, by omega⟩]
theorem bShr_n {a k : Nat} (ha : a < 2147483648) (hk : k < 32) : bShr a k = ((a / 2 ^ k : Nat) : Int) := by
  have h : a / 2 ^ k ≤ a := Nat.div_le_self _ _
  unfold bShr
  rw [iI_nI, iI_nI, pk_shrN ha _ k (bs_l k hk), ← iI_nI]
  generalize a / 2 ^ k = w at h ⊢
  rw [iI_toInt ⟨by omega, by omega⟩]
theorem bit_n {a k : Nat} (ha : a < 2147483648) (hk : k < 32) : bAnd (bShr a k) 1 = 1 ↔ a.testBit k = true := by
  have h : a / 2 ^ k ≤ a := Nat.div_le_self _ _
  rw [bShr_n ha hk, show (1 : Int) = ((1 : Nat) : Int) from rfl, bAnd_n 1 (by omega), Nat.and_one_is_mod, Nat.testBit_eq_decide_div_mod_eq, decide_eq_true_eq]
  omega
theorem or1_n (m b : Nat) (hb : b ≤ 1) : 2 * m ||| b = 2 * m + b := by
  have h1 : (2 * m ||| b) / 2 = 2 * m / 2 ||| b / 2 := Nat.or_div_two
  have h2 : (2 * m ||| b) % 2 = 1 ↔ (2 * m) % 2 = 1 ∨ b % 2 = 1 := Nat.or_mod_two_eq_one
  rw [show b / 2 = 0 by omega, Nat.or_zero, show 2 * m / 2 = m by omega] at h1
  omega
/-- one truth more -/
theorem bv_push {T b : Int} (h : 0 ≤ T ∧ T < 1000000) (hb : b = 0 ∨ b = 1) : bOr (bShl T 1) b = 2 * T + b := by
  obtain ⟨m, rfl⟩ : ∃ m : Nat, T = m := ⟨T.toNat, by omega⟩
  obtain ⟨c, rfl⟩ : ∃ c : Nat, b = c := ⟨b.toNat, by omega⟩
  rw [show (1 : Int) = ((1 : Nat) : Int) from rfl, bShl_n (by omega) (by omega), bOr_n (by omega) (by omega), show m * 2 ^ 1 = 2 * m by omega, or1_n m c (by omega)]
  omega
theorem bv_lat {m b : Int} (h : 0 ≤ m ∧ m < 1000000) (hb : b = 0 ∨ b = 1) : bAnd (2 * m + b) 1 = b ∧ bShr (2 * m + b) 1 = m := by
  obtain ⟨n, rfl⟩ : ∃ n : Nat, m = n := ⟨m.toNat, by omega⟩
  obtain ⟨c, rfl⟩ : ∃ c : Nat, b = c := ⟨b.toNat, by omega⟩
  have e : (2 * (n : Int) + c) = ((2 * n + c : Nat) : Int) := by omega
  rw [e, show (1 : Int) = ((1 : Nat) : Int) from rfl, bAnd_n 1 (by omega), bShr_n (by omega) (by omega), Nat.and_one_is_mod]
  omega
theorem bv_not {m b : Int} (h : 0 ≤ m ∧ m < 1000000) (hb : b = 0 ∨ b = 1) : bXor (2 * m + b) 1 = 2 * m + (1 - b) := by
  obtain ⟨n, rfl⟩ : ∃ n : Nat, m = n := ⟨m.toNat, by omega⟩
  obtain ⟨c, rfl⟩ : ∃ c : Nat, b = c := ⟨b.toNat, by omega⟩
  have e : (2 * (n : Int) + c) = ((2 * n + c : Nat) : Int) := by omega
  rw [e, show (1 : Int) = ((1 : Nat) : Int) from rfl, bXor_n (by omega) (by omega)]
  have h1 : (2 * n + c ^^^ 1) / 2 = (2 * n + c) / 2 ^^^ 1 / 2 := Nat.xor_div_two
  have h2 : (2 * n + c ^^^ 1) % 2 = 1 ↔ ¬ ((2 * n + c) % 2 = 1 ↔ 1 % 2 = 1) := Nat.xor_mod_two_eq_one
  rw [show (1 : Nat) / 2 = 0 from rfl, Nat.xor_zero] at h1
  omega
theorem bv_and {m a b : Int} (h : 0 ≤ m ∧ m < 100000) (ha : a = 0 ∨ a = 1) (hb : b = 0 ∨ b = 1) : bAnd (bShr (2 * (2 * m + a) + b) 1) (bOr (bAnd (2 * (2 * m + a) + b) 1) (-2)) = 2 * m + (if a ≠ 0 ∧ b ≠ 0 then 1 else 0) := by
  obtain ⟨e1, e2⟩ := bv_lat (m := 2 * m + a) (b := b) (by omega) hb
  rw [e1, e2]
  rcases hb with rfl | rfl
  · have e3 : bOr 0 (-2) = -2 := by decide +kernel
    rw [e3, if_neg (fun h => h.2 rfl)]
    obtain ⟨n, rfl⟩ : ∃ n : Nat, m = n := ⟨m.toNat, by omega⟩
    obtain ⟨c, rfl⟩ : ∃ c : Nat, a = c := ⟨a.toNat, by omega⟩
    have e : (2 * (n : Int) + c) = ((2 * n + c : Nat) : Int) := by omega
    rw [e]
    unfold bAnd
    rw [iI_nI, show iI (-2) = nI 4294967294 by decide +kernel, nI_and]
    have h1 : (2 * n + c &&& 4294967294) / 2 = (2 * n + c) / 2 &&& 4294967294 / 2 := Nat.and_div_two
    have h2 : (2 * n + c &&& 4294967294) % 2 = 1 ↔ (2 * n + c) % 2 = 1 ∧ 4294967294 % 2 = 1 := Nat.and_mod_two_eq_one
    have h3 : (2 * n + c) / 2 &&& (4294967294 / 2) = (2 * n + c) / 2 := by
      rw [show 4294967294 / 2 = 2 ^ 31 - 1 from rfl, Nat.and_two_pow_sub_one_eq_mod]
      exact Nat.mod_eq_of_lt (by omega)
    rw [← iI_nI, iI_toInt ⟨by omega, by omega⟩]
    omega
  · have e3 : bOr 1 (-2) = -1 := by decide +kernel
    rw [e3]
    have e4 : bAnd (2 * m + a) (-1) = 2 * m + a := by
      obtain ⟨n, hn⟩ : ∃ n : Nat, 2 * m + a = n := ⟨(2 * m + a).toNat, by omega⟩
      rw [hn]
      unfold bAnd
      rw [iI_nI, show iI (-1) = nI (2 ^ 32 - 1) by decide +kernel, nI_and, Nat.and_two_pow_sub_one_eq_mod, Nat.mod_eq_of_lt (by omega), ← iI_nI, iI_toInt ⟨by omega, by omega⟩]
    rw [e4]
    rcases ha with rfl | rfl
    · rw [if_neg (fun h => h.1 rfl)]
    · rw [if_pos ⟨by decide, by decide⟩]
theorem bv_or {m a b : Int} (h : 0 ≤ m ∧ m < 100000) (ha : a = 0 ∨ a = 1) (hb : b = 0 ∨ b = 1) : bOr (bShr (2 * (2 * m + a) + b) 1) (bAnd (2 * (2 * m + a) + b) 1) = 2 * m + (if a ≠ 0 ∨ b ≠ 0 then 1 else 0) := by
  obtain ⟨e1, e2⟩ := bv_lat (m := 2 * m + a) (b := b) (by omega) hb
  rw [e1, e2]
  obtain ⟨n, rfl⟩ : ∃ n : Nat, m = n := ⟨m.toNat, by omega⟩
  rcases ha with rfl | rfl
  · rcases hb with rfl | rfl
    · rw [if_neg (by simp)]
      have := bOr_n (a := 2 * n) (b := 0) (by omega) (by omega)
      rw [Nat.or_zero] at this
      rw [show (2 * (n : Int) + 0) = ((2 * n : Nat) : Int) by omega]
      exact this
    · rw [if_pos (by simp)]
      have := bOr_n (a := 2 * n) (b := 1) (by omega) (by omega)
      rw [or1_n n 1 (by omega)] at this
      rw [show (2 * (n : Int) + 0) = ((2 * n : Nat) : Int) by omega]
      exact this
  · rw [if_pos (by simp)]
    rcases hb with rfl | rfl
    · have := bOr_n (a := 2 * n + 1) (b := 0) (by omega) (by omega)
      rw [Nat.or_zero] at this
      exact this
    · have := bOr_n (a := 2 * n + 1) (b := 1) (by omega) (by omega)
      have e : 2 * n + 1 ||| 1 = 2 * n + 1 := by rw [← or1_n n 1 (by omega), Nat.or_assoc, Nat.or_self]
      rw [e] at this
      exact this
/-! what the truths are as one number: the latest in the lowest bit -/
def bvF (tr : zS) : Nat → Int
  | 0 => 0
  | n + 1 => 2 * bvF tr n + tr n
theorem bvF_s (tr : zS) (n : Nat) : bvF tr (n + 1) = 2 * bvF tr n + tr n := rfl
theorem bvF_congr {t1 t2 : zS} : ∀ n : Nat, (∀ j : Int, 0 ≤ j → j < n → t1 j = t2 j) → bvF t1 n = bvF t2 n
  | 0, _ => rfl
  | n + 1, h => by rw [bvF_s, bvF_s, bvF_congr n (fun j h0 h1 => h j h0 (by omega)), h n (by omega) (by omega)]
theorem bvF_in {tr : zS} : ∀ n : Nat, n ≤ 16 → (∀ j : Int, 0 ≤ j → j < n → tr j = 0 ∨ tr j = 1) → 0 ≤ bvF tr n ∧ bvF tr n < 2 ^ n
  | 0, _, _ => by simp [bvF]
  | n + 1, hn, h => by
    have ih := bvF_in n (by omega) (fun j h0 h1 => h j h0 (by omega))
    have hl := h n (by omega) (by omega)
    rw [bvF_s, Int.pow_succ]
    omega
theorem pow_le14 : ∀ n : Nat, n ≤ 14 → (2 : Int) ^ n ≤ 16384 := by decide
def trS (s : Int) : Int := if 0 ≤ s then (s % 8 * 3 + s / 8 % 4) * 100 + s / 32 else s
def okS (s : Int) : Prop := 0 ≤ s → s % 8 ≤ 5 ∧ s / 8 % 4 ≤ 2 ∧ s / 32 ≤ 99
theorem dv3 {a b c : Int} (ha : 0 ≤ a ∧ a ≤ 5) (hb : 0 ≤ b ∧ b ≤ 2) (hc : 0 ≤ c ∧ c ≤ 99) : ((a * 3 + b) * 100 + c) / 300 = a ∧ ((a * 3 + b) * 100 + c) / 100 % 3 = b ∧ ((a * 3 + b) * 100 + c) % 100 = c := by omega
/-- is a test of the row so -/
abbrev soP (K : zS) (s : Int) : Prop := (s / 8 % 4 = 0 ∧ K (s % 8) < s / 32) ∨ (s / 8 % 4 = 1 ∧ K (s % 8) = s / 32) ∨ (s / 8 % 4 ≠ 0 ∧ s / 8 % 4 ≠ 1 ∧ s / 32 < K (s % 8))
theorem okS_in {s : Int} (h : okS s) (h0 : 0 ≤ s) : (0 ≤ s % 8 ∧ s % 8 ≤ 5) ∧ (0 ≤ s / 8 % 4 ∧ s / 8 % 4 ≤ 2) ∧ (0 ≤ s / 32 ∧ s / 32 ≤ 99) := by
  have := h h0
  have := emod_in (t := s) (d := 8) (by omega)
  have := emod_in (t := s / 8) (d := 4) (by omega)
  have := tdiv_lt (t := s) (d := 32) h0 (by omega)
  omega
/-! ROOMS: the object at q, its arrays at q + 1 .. q + 5 -/
def RmK (ks : xKs) (ρ : xR) (q : Nat) : Prop := ks[q]? = some (0, 4) ∧ (ks[q + 1]? = some (1, 10) ∧ ks[q + 2]? = some (1, 10) ∧ ks[q + 3]? = some (1, 10) ∧ ks[q + 4]? = some (1, 100) ∧ ks[q + 5]? = some (1, 4)) ∧ ρ q 0 = some (q + 1) ∧ ρ q 1 = some (q + 2) ∧ ρ q 2 = some (q + 3) ∧ ρ q 3 = some (q + 4) ∧ ρ q 4 = some (q + 5)
/-- where clause i's steps begin -/
def Ef (σ : xM) (q : Nat) (i : Nat) : Int := if i = 0 then 0 else σ (q + 3) ((i : Int) - 1)
theorem Ef_s (σ : xM) (q i : Nat) : Ef σ q (i + 1) = σ (q + 3) i := by
  unfold Ef
  rw [if_neg (by omega), show ((i + 1 : Nat) : Int) - 1 = (i : Int) by omega]
def ClP (σ : xM) (q : Nat) (z : zS) (fr : Int) (P : Nat → Nat) (i : Nat) : Prop :=
  (0 ≤ σ (q + 1) i ∧ σ (q + 1) i ≤ 3) ∧ (0 ≤ σ (q + 2) i ∧ σ (q + 2) i ≤ 99) ∧ (0 ≤ Ef σ q (i + 1) ∧ Ef σ q (i + 1) ≤ 100) ∧ (σ (q + 1) i < 2 → P (i + 1) = P i ∧ Ef σ q (i + 1) = Ef σ q i) ∧
  (2 ≤ σ (q + 1) i → ∃ len : Nat, P (i + 1) = P i + len + 1 ∧ Ef σ q (i + 1) = Ef σ q i + len ∧ z (fr + (P i + len : Nat)) = (if σ (q + 1) i = 2 then -10 else -200) - σ (q + 2) i ∧ (∀ k : Nat, k < len → σ (q + 4) (Ef σ q i + k) = trS (z (fr + (P i + k : Nat))) ∧ okS (z (fr + (P i + k : Nat))) ∧ -3 ≤ z (fr + (P i + k : Nat))) ∧ lkT z fr (P i) = 0 ∧ lkT z fr (P i + len) = 1 ∧ ∀ k : Nat, k ≤ len → lkT z fr (P i + k) ≤ 14)
def RmP (σ : xM) (ρ : xR) (ks : xKs) (q : Nat) (z : zS) : Prop := RmK ks ρ q ∧ σ q 11 = tellsF z 218 80 ∧ σ q 12 = flyF z ∧ (0 ≤ σ q 5 ∧ σ q 5 ≤ 10) ∧ ((0 ≤ σ (q + 5) 2 ∧ σ (q + 5) 2 ≤ 10) ∧ (σ (q + 5) 2 ≠ 0 ↔ tellsF z 233 0 = 1)) ∧ ((0 ≤ σ (q + 5) 3 ∧ σ (q + 5) 3 ≤ 10) ∧ (σ (q + 5) 3 ≠ 0 ↔ tellsF z 238 0 = 1)) ∧ ∃ P : Nat → Nat, P 0 = 0 ∧ (P (σ q 5).toNat : Int) = tellsF z 228 0 ∧ ∀ i : Nat, (i : Int) < σ q 5 → ClP σ q z (243 + 140 * z 20) P i
set_option maxHeartbeats 4000000 in
set_option maxRecDepth 100000 in
theorem c_isSo (E : xE) {σ : xM} {ρ : xR} {ks : xKs} {kn : Nat} (hkn : ks[kn]? = some (1, 6)) {s0 : Int} (h0 : 0 ≤ s0) (hok : okS s0) (hK : ∀ j, 0 ≤ j → j ≤ 5 → 0 ≤ σ kn j ∧ σ kn j ≤ 99) : Sp E yX4_isSo kX4_isSo 0 0 0 [.int (iI ((s0 % 8 * 3 + s0 / 8 % 4) * 100 + s0 / 32)), .ref kn] σ ρ ks (Fn (some (.int (iI (bI (soP (σ kn) s0))))) (σ) ρ ks) := by
  refine x_enter (own := RX4) (L := [_, _, _, _, _]) (by decide +kernel) rfl (by exact Nat.le_of_ble_eq_true rfl) rfl (fun p e R s m args below meth c Z hZ hC hR hin => ?_)
  obtain ⟨⟨g1, g2⟩, ⟨g3, g4⟩, g5, g6⟩ := okS_in hok h0
  obtain ⟨v1, v2, v3⟩ := dv3 (a := s0 % 8) (b := s0 / 8 % 4) (c := s0 / 32) ⟨g1, g2⟩ ⟨g3, g4⟩ ⟨g5, g6⟩
  obtain ⟨k1, k2⟩ := hK (s0 % 8) g1 g2
  refine x_iload_n (pc := 0) hC dX4_isSo_0 rfl ?_
  refine x_sipush (pc := 1) hC dX4_isSo_1 (by decide +kernel) ?_
  refine x_idiv (pc := 4) hC (by omega) dX4_isSo_4 ?_
  rw [v1]
  refine x_istore_n (L' := [_, _, _, _, _]) (pc := 5) hC dX4_isSo_5 rfl rfl ?_
  refine x_iload_n (pc := 6) hC dX4_isSo_6 rfl ?_
  refine x_if_lt (tgt := 16) (pc := 7) hC (by omega) dX4_isSo_7 (by decide) (fun c7 => by (exfalso; omega)) (fun c7 => ?_)
  refine x_iload_n (pc := 10) hC dX4_isSo_10 rfl ?_
  refine x_aload_n (pc := 11) hC dX4_isSo_11 rfl ?_
  refine x_alen1 (K := 6) (pc := 12) hC (by assumption) rfl dX4_isSo_12 ?_
  refine x_icmp_lt (tgt := 18) (pc := 13) hC (by omega) (by omega) dX4_isSo_13 (by decide) (fun c13 => ?_) (fun c13 => by (exfalso; omega))
  refine x_iload_n (pc := 18) hC dX4_isSo_18 rfl ?_
  refine x_bipush (pc := 19) hC dX4_isSo_19 (by decide +kernel) ?_
  refine x_idiv (pc := 21) hC (by omega) dX4_isSo_21 ?_
  refine x_iconst (pc := 22) hC dX4_isSo_22 ?_
  refine x_irem (pc := 23) hC (by omega) dX4_isSo_23 ?_
  rw [v2]
  refine x_istore_n (L' := [_, _, _, _, _]) (pc := 24) hC dX4_isSo_24 rfl rfl ?_
  refine x_iload_n (pc := 25) hC dX4_isSo_25 rfl ?_
  refine x_bipush (pc := 26) hC dX4_isSo_26 (by decide +kernel) ?_
  refine x_irem (pc := 28) hC (by omega) dX4_isSo_28 ?_
  rw [v3]
  refine x_istore (L' := [_, _, _, _, _]) (pc := 29) hC dX4_isSo_29 rfl rfl ?_
  refine x_iload_n (pc := 31) hC dX4_isSo_31 rfl ?_
  refine x_if_ne (tgt := 51) (pc := 32) hC (by omega) dX4_isSo_32 (by decide) (fun c32 => ?_) (fun c32 => ?_)
  · refine x_iload_n (pc := 51) hC dX4_isSo_51 rfl ?_
    refine x_iconst (pc := 52) hC dX4_isSo_52 ?_
    refine x_icmp_ne (tgt := 72) (pc := 53) hC (by omega) (by omega) dX4_isSo_53 (by decide) (fun c53 => ?_) (fun c53 => ?_)
    · refine x_aload_n (pc := 72) hC dX4_isSo_72 rfl ?_
      refine x_iload_n (pc := 73) hC dX4_isSo_73 rfl ?_
      refine x_iald (pc := 74) hC (by assumption) (by omega) dX4_isSo_74 ?_
      refine x_iload (pc := 75) hC dX4_isSo_75 rfl ?_
      refine x_icmp_le (tgt := 84) (pc := 77) hC (by omega) (by omega) dX4_isSo_77 (by decide) (fun c77 => ?_) (fun c77 => ?_)
      · refine x_iconst (pc := 84) hC dX4_isSo_84 ?_
        refine x_zreturn hC hZ (by omega) dX4_isSo_85 (by decide) (by decide) ?_
        exact ⟨congrArg (fun z => some (Value.int (iI z))) (by unfold bI; split <;> omega), rfl, rfl, rfl⟩
      · refine x_iconst (pc := 80) hC dX4_isSo_80 ?_
        refine x_goto (tgt := 85) (pc := 81) hC dX4_isSo_81 (by decide) ?_
        refine x_zreturn hC hZ (by omega) dX4_isSo_85 (by decide) (by decide) ?_
        exact ⟨congrArg (fun z => some (Value.int (iI z))) (by unfold bI; split <;> omega), rfl, rfl, rfl⟩
    · refine x_aload_n (pc := 56) hC dX4_isSo_56 rfl ?_
      refine x_iload_n (pc := 57) hC dX4_isSo_57 rfl ?_
      refine x_iald (pc := 58) hC (by assumption) (by omega) dX4_isSo_58 ?_
      refine x_iload (pc := 59) hC dX4_isSo_59 rfl ?_
      refine x_icmp_ne (tgt := 68) (pc := 61) hC (by omega) (by omega) dX4_isSo_61 (by decide) (fun c61 => ?_) (fun c61 => ?_)
      · refine x_iconst (pc := 68) hC dX4_isSo_68 ?_
        refine x_goto (tgt := 85) (pc := 69) hC dX4_isSo_69 (by decide) ?_
        refine x_zreturn hC hZ (by omega) dX4_isSo_85 (by decide) (by decide) ?_
        exact ⟨congrArg (fun z => some (Value.int (iI z))) (by unfold bI; split <;> omega), rfl, rfl, rfl⟩
      · refine x_iconst (pc := 64) hC dX4_isSo_64 ?_
        refine x_goto (tgt := 85) (pc := 65) hC dX4_isSo_65 (by decide) ?_
        refine x_zreturn hC hZ (by omega) dX4_isSo_85 (by decide) (by decide) ?_
        exact ⟨congrArg (fun z => some (Value.int (iI z))) (by unfold bI; split <;> omega), rfl, rfl, rfl⟩
  · refine x_aload_n (pc := 35) hC dX4_isSo_35 rfl ?_
    refine x_iload_n (pc := 36) hC dX4_isSo_36 rfl ?_
    refine x_iald (pc := 37) hC (by assumption) (by omega) dX4_isSo_37 ?_
    refine x_iload (pc := 38) hC dX4_isSo_38 rfl ?_
    refine x_icmp_ge (tgt := 47) (pc := 40) hC (by omega) (by omega) dX4_isSo_40 (by decide) (fun c40 => ?_) (fun c40 => ?_)
    · refine x_iconst (pc := 47) hC dX4_isSo_47 ?_
      refine x_goto (tgt := 85) (pc := 48) hC dX4_isSo_48 (by decide) ?_
      refine x_zreturn hC hZ (by omega) dX4_isSo_85 (by decide) (by decide) ?_
      exact ⟨congrArg (fun z => some (Value.int (iI z))) (by unfold bI; split <;> omega), rfl, rfl, rfl⟩
    · refine x_iconst (pc := 43) hC dX4_isSo_43 ?_
      refine x_goto (tgt := 85) (pc := 44) hC dX4_isSo_44 (by decide) ?_
      refine x_zreturn hC hZ (by omega) dX4_isSo_85 (by decide) (by decide) ?_
      exact ⟨congrArg (fun z => some (Value.int (iI z))) (by unfold bI; split <;> omega), rfl, rfl, rfl⟩

/-- the step of the row, on the truths as one number -/
theorem lkT_s (z : zS) (fr : Int) (n : Nat) : lkT z fr (n + 1) = if 0 ≤ z (fr + n) then lkT z fr n + 1 else if z (fr + n) = -1 then lkT z fr n else if -10 < z (fr + n) then lkT z fr n - 1 else 0 := rfl
theorem lkF_s (z : zS) (fr : Int) (k : zS) (u : zL) (n : Nat) : lkF z fr k u (n + 1) = lk1 k (z (fr + n)) (lkF z fr k u n) := rfl
/-- the truths at n, as one number -/
def bvA (z : zS) (fr : Int) (k : zS) (n : Nat) : Int := bvF (lkF z fr k (fun _ => 0, 0, 0, 0) n).1 (lkT z fr n).toNat
theorem bv_step {z : zS} {fr : Int} {k : zS} {n : Nat} (hok : ∀ m : Nat, m < n + 1 → stepOk (z (fr + m)) (lkT z fr m)) (hm : -10 < z (fr + n)) (h14 : lkT z fr n ≤ 14) (h14' : lkT z fr (n + 1) ≤ 14) :
    (0 ≤ bvA z fr k n ∧ bvA z fr k n < 100000) ∧ (0 ≤ z (fr + n) → bOr (bShl (bvA z fr k n) 1) (bI (soP k (z (fr + n)))) = bvA z fr k (n + 1)) ∧ (z (fr + n) = -1 → bXor (bvA z fr k n) 1 = bvA z fr k (n + 1)) ∧
    (z (fr + n) = -2 → bAnd (bShr (bvA z fr k n) 1) (bOr (bAnd (bvA z fr k n) 1) (-2)) = bvA z fr k (n + 1)) ∧ (z (fr + n) < -2 → bOr (bShr (bvA z fr k n) 1) (bAnd (bvA z fr k n) 1) = bvA z fr k (n + 1)) := by
  have hin := (lk_ok (k := k) (N := n + 1) hok (fun _ => 0) n (by omega)).1
  have etop := lkF_top z fr k (fun _ => 0, 0, 0, 0) rfl n
  obtain ⟨a1, a2, a3, a4, a5, a6⟩ := hok n (by omega)
  unfold bvA
  rw [lkF_s, lkT_s] at *
  generalize lkF z fr k (fun _ => 0, 0, 0, 0) n = u at *
  obtain ⟨u1, u2, u3⟩ := u
  simp only at hin etop ⊢
  subst etop
  generalize lkT z fr n = T at *
  generalize z (fr + n) = st at *
  obtain ⟨N, rfl⟩ : ∃ N : Nat, T = N := ⟨T.toNat, by omega⟩
  rw [show ((N : Int)).toNat = N by omega]
  have hb := bvF_in (tr := u1) N (by omega) (fun j h0 h1 => (hin j h0 h1).1)
  have hp := pow_le14 N (by omega)
  refine ⟨by omega, fun h => ?_, fun h => ?_, fun h => ?_, fun h => ?_⟩
  · rw [lk1_A h, if_pos h]
    dsimp only
    rw [show ((N : Int) + 1).toNat = N + 1 by omega, bvF_s, up_eq, bv_push (by omega) (bI_01 _), bvF_congr (t1 := up u1 N _) (t2 := u1) N (fun j h0 h1 => up_ne _ (by omega) _)]
  · rw [lk1_B h, if_neg (by omega), if_pos h]
    dsimp only
    obtain ⟨M, rfl⟩ : ∃ M : Nat, N = M + 1 := ⟨N - 1, by omega⟩
    have hM := (hin M (by omega) (by omega)).1
    have hbM := bvF_in (tr := u1) M (by omega) (fun j h0 h1 => (hin j h0 (by omega)).1)
    have hpM := pow_le14 M (by omega)
    rw [show ((M + 1 : Nat) : Int) - 1 = (M : Int) by omega, show (((M + 1 : Nat) : Int)).toNat = M + 1 by omega, bvF_s, bvF_s, up_eq, bv_not (by omega) hM, bvF_congr (t1 := up u1 M _) (t2 := u1) M (fun j h0 h1 => up_ne _ (by omega) _)]
    rcases hM with h0 | h0 <;> simp [bI, h0]
  · rw [lk1_C (by omega) (by omega), show (if 0 ≤ st then (N : Int) + 1 else if st = -1 then (N : Int) else if -10 < st then (N : Int) - 1 else 0) = (N : Int) - 1 by rw [if_neg (by omega), if_neg (by omega), if_pos (by omega)]]
    dsimp only
    obtain ⟨M, rfl⟩ : ∃ M : Nat, N = M + 1 + 1 := ⟨N - 2, by omega⟩
    have hM := (hin M (by omega) (by omega)).1
    have hM1 := (hin (M + 1 : Nat) (by omega) (by omega)).1
    have hbM := bvF_in (tr := u1) M (by omega) (fun j h0 h1 => (hin j h0 (by omega)).1)
    have hpM := pow_le14 M (by omega)
    rw [show ((M + 1 + 1 : Nat) : Int) - 2 = (M : Int) by omega, show ((M + 1 + 1 : Nat) : Int) - 1 = ((M + 1 : Nat) : Int) by omega, show (((M + 1 : Nat) : Int)).toNat = M + 1 by omega, bvF_s, bvF_s, bvF_s, up_eq, bv_and (by omega) hM hM1, bvF_congr (t1 := up u1 M _) (t2 := u1) M (fun j h0 h1 => up_ne _ (by omega) _)]
    simp [bI, h]
  · rw [lk1_C (by omega) (by omega), show (if 0 ≤ st then (N : Int) + 1 else if st = -1 then (N : Int) else if -10 < st then (N : Int) - 1 else 0) = (N : Int) - 1 by rw [if_neg (by omega), if_neg (by omega), if_pos (by omega)]]
    dsimp only
    obtain ⟨M, rfl⟩ : ∃ M : Nat, N = M + 1 + 1 := ⟨N - 2, by omega⟩
    have hM := (hin M (by omega) (by omega)).1
    have hM1 := (hin (M + 1 : Nat) (by omega) (by omega)).1
    have hbM := bvF_in (tr := u1) M (by omega) (fun j h0 h1 => (hin j h0 (by omega)).1)
    have hpM := pow_le14 M (by omega)
    rw [show ((M + 1 + 1 : Nat) : Int) - 2 = (M : Int) by omega, show ((M + 1 + 1 : Nat) : Int) - 1 = ((M + 1 : Nat) : Int) by omega, show (((M + 1 : Nat) : Int)).toNat = M + 1 by omega, bvF_s, bvF_s, bvF_s, up_eq, bv_or (by omega) hM hM1, bvF_congr (t1 := up u1 M _) (t2 := u1) M (fun j h0 h1 => up_ne _ (by omega) _)]
    simp [bI, show ¬ st = -2 by omega]
theorem bv_one {z : zS} {fr : Int} {k : zS} {n : Nat} (hok : ∀ m : Nat, m < n → stepOk (z (fr + m)) (lkT z fr m)) (h1 : lkT z fr n = 1) : (bvA z fr k n = 0 ∨ bvA z fr k n = 1) ∧ bvA z fr k n = (lkF z fr k (fun _ => 0, 0, 0, 0) n).1 0 := by
  have hin := (lk_ok (k := k) (N := n) hok (fun _ => 0) n (by omega)).1 0 (by omega) (by omega)
  have e : bvA z fr k n = (lkF z fr k (fun _ => 0, 0, 0, 0) n).1 0 := by
    unfold bvA
    rw [h1]
    show 2 * 0 + _ = _
    rw [Int.mul_zero, Int.zero_add]
    rfl
  rw [e]
  exact ⟨hin.1, rfl⟩
set_option maxHeartbeats 4000000 in
set_option maxRecDepth 100000 in
theorem c_holds (E : xE) {σ : xM} {ρ : xR} {ks : xKs} {q : Nat} (hrk : RmK ks ρ q) {kn : Nat} (hkn : ks[kn]? = some (1, 6)) {a : Int} {len n0 : Nat} {z : zS} {fr : Int} (ha : 0 ≤ a ∧ a + len ≤ 100) (hst : ∀ k : Nat, k < len → σ (q + 4) (a + k) = trS (z (fr + (n0 + k : Nat))) ∧ okS (z (fr + (n0 + k : Nat))) ∧ -3 ≤ z (fr + (n0 + k : Nat))) (hok : ∀ m : Nat, m < n0 + len → stepOk (z (fr + m)) (lkT z fr m)) (ht0 : lkT z fr n0 = 0) (ht1 : lkT z fr (n0 + len) = 1) (htm : ∀ k : Nat, k ≤ len → lkT z fr (n0 + k) ≤ 14) (hK : ∀ j, 0 ≤ j → j ≤ 5 → 0 ≤ σ kn j ∧ σ kn j ≤ 99) : Sp E yX4_holds kX4_holds 1 0 0 [.ref q, .int (iI a), .int (iI (a + len)), .ref kn] σ ρ ks (Fn (some (.int (iI (bI ((lkF z fr (σ kn) (fun _ => 0, 0, 0, 0) (n0 + len)).1 0 ≠ 0))))) (σ) ρ ks) := by
  obtain ⟨ko, ⟨kb1, kb2, kb3, kb4, kb5⟩, r0, r1, r2, r3, r4⟩ := id hrk
  refine x_enter (own := RX4) (L := [_, _, _, _, _, _, _, _]) (by decide +kernel) rfl (by exact Nat.le_of_ble_eq_true rfl) rfl (fun p e R s m args below meth c Z hZ hC hR hin => ?_)
  have loop : ∀ (i k : Nat) (j T : Int), j = a + k → k + i = len → T = bvA z fr (σ kn) (n0 + k) → X E p e R s m args below meth c Z 0 0 σ ρ ks 6 [some (.ref q), some (.int (iI a)), some (.int (iI (a + len))), some (.ref kn), some (.int (iI T)), some (.int (iI j)), none, none] [] := by
    intro i
    induction i with
    | zero =>
      intro k j T hj hi hT
      have hk : k = len := by omega
      subst hk
      obtain ⟨o1, o2⟩ := bv_one (k := σ kn) hok ht1
      rw [← hT] at o1 o2
      refine x_iload (pc := 6) hC dX4_holds_6 rfl ?_
      refine x_iload_n (pc := 8) hC dX4_holds_8 rfl ?_
      refine x_icmp_ge (tgt := 110) (pc := 9) hC (by omega) (by omega) dX4_holds_9 (by decide) (fun c9 => ?_) (fun c9 => by (exfalso; omega))
      refine x_iload (pc := 110) hC dX4_holds_110 rfl ?_
      have hT2 : bAnd T 1 = T := by rcases o1 with h | h <;> rw [h] <;> decide +kernel
      refine x_iconst (pc := 112) hC dX4_holds_112 ?_
      refine x_iand (pc := 113) hC dX4_holds_113 ?_
      rw [hT2]
      refine x_iconst (pc := 114) hC dX4_holds_114 ?_
      refine x_icmp_ne (tgt := 122) (pc := 115) hC (by omega) (by omega) dX4_holds_115 (by decide) (fun c115 => ?_) (fun c115 => ?_)
      · refine x_iconst (pc := 122) hC dX4_holds_122 ?_
        refine x_zreturn hC hZ (by omega) dX4_holds_123 (by decide) (by decide) ?_
        exact ⟨congrArg (fun z => some (Value.int (iI z))) (by unfold bI; split <;> omega), rfl, rfl, rfl⟩
      · refine x_iconst (pc := 118) hC dX4_holds_118 ?_
        refine x_goto (tgt := 123) (pc := 119) hC dX4_holds_119 (by decide) ?_
        refine x_zreturn hC hZ (by omega) dX4_holds_123 (by decide) (by decide) ?_
        exact ⟨congrArg (fun z => some (Value.int (iI z))) (by unfold bI; split <;> omega), rfl, rfl, rfl⟩
    | succ i ih =>
      intro k j T hj hi hT
      obtain ⟨g1, g2, g3⟩ := hst k (by omega)
      obtain ⟨t1, t2, t3, t4, t5⟩ := bv_step (k := σ kn) (n := n0 + k) (fun m hm => hok m (by omega)) (by omega) (htm k (by omega)) (by have := htm (k + 1) (by omega); exact this)
      obtain ⟨a1, -⟩ := hok (n0 + k) (by omega)
      have hcs : (0 ≤ z (fr + (n0 + k : Nat)) ∧ σ (q + 4) j = ((z (fr + (n0 + k : Nat)) % 8 * 3 + z (fr + (n0 + k : Nat)) / 8 % 4) * 100 + z (fr + (n0 + k : Nat)) / 32) ∧ 0 ≤ σ (q + 4) j ∧ σ (q + 4) j < 2000) ∨ (z (fr + (n0 + k : Nat)) < 0 ∧ σ (q + 4) j = z (fr + (n0 + k : Nat))) := by
        rw [hj, g1]
        unfold trS
        by_cases h0 : 0 ≤ z (fr + (n0 + k : Nat))
        · have := okS_in g2 h0
          rw [if_pos h0]
          exact Or.inl ⟨h0, rfl, by omega, by omega⟩
        · rw [if_neg h0]; exact Or.inr ⟨by omega, rfl⟩
      rcases hcs with ⟨hs0, hc, hc1, hc2⟩ | ⟨hs0, hc⟩
      · refine x_iload (pc := 6) hC dX4_holds_6 rfl ?_
        refine x_iload_n (pc := 8) hC dX4_holds_8 rfl ?_
        refine x_icmp_ge (tgt := 110) (pc := 9) hC (by omega) (by omega) dX4_holds_9 (by decide) (fun c9 => by (exfalso; omega)) (fun c9 => ?_)
        refine x_aload_n (pc := 12) hC dX4_holds_12 rfl ?_
        refine x_getr (K := 3) (pc := 13) hC fX4_21_4 (by assumption) dX4_holds_13 rfl rfl (by assumption) ?_
        refine x_iload (pc := 16) hC dX4_holds_16 rfl ?_
        refine x_iald (pc := 18) hC (by assumption) (by omega) dX4_holds_18 ?_
        refine x_istore (L' := [_, _, _, _, _, _, _, _]) (pc := 19) hC dX4_holds_19 rfl rfl ?_
        refine x_iload (pc := 21) hC dX4_holds_21 rfl ?_
        refine x_iconst (pc := 23) hC dX4_holds_23 ?_
        refine x_iand (pc := 24) hC dX4_holds_24 ?_
        refine x_istore (L' := [_, _, _, _, _, _, _, _]) (pc := 25) hC dX4_holds_25 rfl rfl ?_
        refine x_iload (pc := 27) hC dX4_holds_27 rfl ?_
        refine x_iconst (pc := 29) hC dX4_holds_29 ?_
        refine x_icmp_ne (tgt := 42) (pc := 30) hC (by omega) (by omega) dX4_holds_30 (by decide) (fun c30 => ?_) (fun c30 => by (exfalso; omega))
        refine x_iload (pc := 42) hC dX4_holds_42 rfl ?_
        refine x_bipush (pc := 44) hC dX4_holds_44 (by decide +kernel) ?_
        refine x_icmp_ne (tgt := 64) (pc := 46) hC (by omega) (by omega) dX4_holds_46 (by decide) (fun c46 => ?_) (fun c46 => by (exfalso; omega))
        refine x_iload (pc := 64) hC dX4_holds_64 rfl ?_
        refine x_bipush (pc := 66) hC dX4_holds_66 (by decide +kernel) ?_
        refine x_icmp_ne (tgt := 83) (pc := 68) hC (by omega) (by omega) dX4_holds_68 (by decide) (fun c68 => ?_) (fun c68 => by (exfalso; omega))
        refine x_iload (pc := 83) hC dX4_holds_83 rfl ?_
        refine x_iconst (pc := 85) hC dX4_holds_85 ?_
        refine x_ishl (pc := 86) hC dX4_holds_86 ?_
        refine x_iload (pc := 87) hC dX4_holds_87 rfl ?_
        refine x_aload_n (pc := 89) hC dX4_holds_89 rfl ?_
        rw [hc]
        refine x_callS1 (As := [_, _]) (Bs := [_, _]) (pc := 90) hC (c_isSo E hkn hs0 g2 hK) wX4_127 pX4_isSo rfl rfl (by exact Nat.le_of_ble_eq_true rfl) hR (by decide) (by decide) (by decide) rfl dX4_holds_90 ?_
        refine x_ifB_eq (tgt := 100) (pc := 93) hC  dX4_holds_93 (by decide) (fun c93 => ?_) (fun c93 => ?_)
        · refine x_iconst (pc := 100) hC dX4_holds_100 ?_
          refine x_ior (pc := 101) hC dX4_holds_101 ?_
          refine x_istore (L' := [_, _, _, _, _, _, _, _]) (pc := 102) hC dX4_holds_102 rfl rfl ?_
          refine x_iinc (L' := [_, _, _, _, _, _, _, _]) (pc := 104) hC dX4_holds_104 rfl rfl rfl ?_
          refine x_goto (tgt := 6) (pc := 107) hC dX4_holds_107 (by decide) ?_
          refine X.drop (xLe_s (xLe_s (xLe_s (xLe_s (xLe_s (xLe_s (xLe_n (xLe_n xLe_0)))))))) (ih (k + 1) (j + 1) _ (by omega) (by omega) ?_)
          have hx := t2 hs0
          rw [bI_f c93, ← hT] at hx
          exact hx
        · refine x_iconst (pc := 96) hC dX4_holds_96 ?_
          refine x_goto (tgt := 101) (pc := 97) hC dX4_holds_97 (by decide) ?_
          refine x_ior (pc := 101) hC dX4_holds_101 ?_
          refine x_istore (L' := [_, _, _, _, _, _, _, _]) (pc := 102) hC dX4_holds_102 rfl rfl ?_
          refine x_iinc (L' := [_, _, _, _, _, _, _, _]) (pc := 104) hC dX4_holds_104 rfl rfl rfl ?_
          refine x_goto (tgt := 6) (pc := 107) hC dX4_holds_107 (by decide) ?_
          refine X.drop (xLe_s (xLe_s (xLe_s (xLe_s (xLe_s (xLe_s (xLe_n (xLe_n xLe_0)))))))) (ih (k + 1) (j + 1) _ (by omega) (by omega) ?_)
          have hx := t2 hs0
          rw [bI_t c93, ← hT] at hx
          exact hx
      · refine x_iload (pc := 6) hC dX4_holds_6 rfl ?_
        refine x_iload_n (pc := 8) hC dX4_holds_8 rfl ?_
        refine x_icmp_ge (tgt := 110) (pc := 9) hC (by omega) (by omega) dX4_holds_9 (by decide) (fun c9 => by (exfalso; omega)) (fun c9 => ?_)
        refine x_aload_n (pc := 12) hC dX4_holds_12 rfl ?_
        refine x_getr (K := 3) (pc := 13) hC fX4_21_4 (by assumption) dX4_holds_13 rfl rfl (by assumption) ?_
        refine x_iload (pc := 16) hC dX4_holds_16 rfl ?_
        refine x_iald (pc := 18) hC (by assumption) (by omega) dX4_holds_18 ?_
        refine x_istore (L' := [_, _, _, _, _, _, _, _]) (pc := 19) hC dX4_holds_19 rfl rfl ?_
        refine x_iload (pc := 21) hC dX4_holds_21 rfl ?_
        refine x_iconst (pc := 23) hC dX4_holds_23 ?_
        refine x_iand (pc := 24) hC dX4_holds_24 ?_
        refine x_istore (L' := [_, _, _, _, _, _, _, _]) (pc := 25) hC dX4_holds_25 rfl rfl ?_
        refine x_iload (pc := 27) hC dX4_holds_27 rfl ?_
        refine x_iconst (pc := 29) hC dX4_holds_29 ?_
        refine x_icmp_ne (tgt := 42) (pc := 30) hC (by omega) (by omega) dX4_holds_30 (by decide) (fun c30 => ?_) (fun c30 => ?_)
        · refine x_iload (pc := 42) hC dX4_holds_42 rfl ?_
          refine x_bipush (pc := 44) hC dX4_holds_44 (by decide +kernel) ?_
          refine x_icmp_ne (tgt := 64) (pc := 46) hC (by omega) (by omega) dX4_holds_46 (by decide) (fun c46 => ?_) (fun c46 => ?_)
          · refine x_iload (pc := 64) hC dX4_holds_64 rfl ?_
            refine x_bipush (pc := 66) hC dX4_holds_66 (by decide +kernel) ?_
            refine x_icmp_ne (tgt := 83) (pc := 68) hC (by omega) (by omega) dX4_holds_68 (by decide) (fun c68 => ?_) (fun c68 => ?_)
            · exfalso; omega
            · refine x_iload (pc := 71) hC dX4_holds_71 rfl ?_
              refine x_iconst (pc := 73) hC dX4_holds_73 ?_
              refine x_ishr (pc := 74) hC dX4_holds_74 ?_
              refine x_iload (pc := 75) hC dX4_holds_75 rfl ?_
              refine x_ior (pc := 77) hC dX4_holds_77 ?_
              refine x_istore (L' := [_, _, _, _, _, _, _, _]) (pc := 78) hC dX4_holds_78 rfl rfl ?_
              refine x_goto (tgt := 104) (pc := 80) hC dX4_holds_80 (by decide) ?_
              refine x_iinc (L' := [_, _, _, _, _, _, _, _]) (pc := 104) hC dX4_holds_104 rfl rfl rfl ?_
              refine x_goto (tgt := 6) (pc := 107) hC dX4_holds_107 (by decide) ?_
              refine X.drop (xLe_s (xLe_s (xLe_s (xLe_s (xLe_s (xLe_s (xLe_n (xLe_n xLe_0)))))))) (ih (k + 1) (j + 1) _ (by omega) (by omega) ?_)
              rw [hT]; exact t5 (by omega)
          · refine x_iload (pc := 49) hC dX4_holds_49 rfl ?_
            refine x_iconst (pc := 51) hC dX4_holds_51 ?_
            refine x_ishr (pc := 52) hC dX4_holds_52 ?_
            refine x_iload (pc := 53) hC dX4_holds_53 rfl ?_
            refine x_bipush (pc := 55) hC dX4_holds_55 (by decide +kernel) ?_
            refine x_ior (pc := 57) hC dX4_holds_57 ?_
            refine x_iand (pc := 58) hC dX4_holds_58 ?_
            refine x_istore (L' := [_, _, _, _, _, _, _, _]) (pc := 59) hC dX4_holds_59 rfl rfl ?_
            refine x_goto (tgt := 104) (pc := 61) hC dX4_holds_61 (by decide) ?_
            refine x_iinc (L' := [_, _, _, _, _, _, _, _]) (pc := 104) hC dX4_holds_104 rfl rfl rfl ?_
            refine x_goto (tgt := 6) (pc := 107) hC dX4_holds_107 (by decide) ?_
            refine X.drop (xLe_s (xLe_s (xLe_s (xLe_s (xLe_s (xLe_s (xLe_n (xLe_n xLe_0)))))))) (ih (k + 1) (j + 1) _ (by omega) (by omega) ?_)
            rw [hT]; exact t4 (by omega)
        · refine x_iload (pc := 33) hC dX4_holds_33 rfl ?_
          refine x_iconst (pc := 35) hC dX4_holds_35 ?_
          refine x_ixor (pc := 36) hC dX4_holds_36 ?_
          refine x_istore (L' := [_, _, _, _, _, _, _, _]) (pc := 37) hC dX4_holds_37 rfl rfl ?_
          refine x_goto (tgt := 104) (pc := 39) hC dX4_holds_39 (by decide) ?_
          refine x_iinc (L' := [_, _, _, _, _, _, _, _]) (pc := 104) hC dX4_holds_104 rfl rfl rfl ?_
          refine x_goto (tgt := 6) (pc := 107) hC dX4_holds_107 (by decide) ?_
          refine X.drop (xLe_s (xLe_s (xLe_s (xLe_s (xLe_s (xLe_s (xLe_n (xLe_n xLe_0)))))))) (ih (k + 1) (j + 1) _ (by omega) (by omega) ?_)
          rw [hT]; exact t3 (by omega)
  refine x_iconst (pc := 0) hC dX4_holds_0 ?_
  refine x_istore (L' := [_, _, _, _, _, _, _, _]) (pc := 1) hC dX4_holds_1 rfl rfl ?_
  refine x_iload_n (pc := 3) hC dX4_holds_3 rfl ?_
  refine x_istore (L' := [_, _, _, _, _, _, _, _]) (pc := 4) hC dX4_holds_4 rfl rfl ?_
  exact loop len 0 a 0 (by omega) (by omega) (by unfold bvA; rw [show n0 + 0 = n0 from rfl, ht0]; rfl)
