/-! papers: streaks by place, second by second; the reference's by bits -/
theorem bit_or {a b p : Int} (ha : 0 ≤ a ∧ a < 2147483648) (hb : 0 ≤ b ∧ b < 2147483648) (hp : 0 ≤ p ∧ p < 32) : (0 ≤ bOr a b ∧ bOr a b < 2147483648) ∧ (bAnd (bShr (bOr a b) p) 1 = 1 ↔ bAnd (bShr a p) 1 = 1 ∨ bAnd (bShr b p) 1 = 1) := by
  obtain ⟨x, rfl⟩ : ∃ x : Nat, a = x := ⟨a.toNat, by omega⟩
  obtain ⟨y, rfl⟩ : ∃ y : Nat, b = y := ⟨b.toNat, by omega⟩
  obtain ⟨k, rfl⟩ : ∃ k : Nat, p = k := ⟨p.toNat, by omega⟩
  have h : x ||| y < 2 ^ 31 := Nat.or_lt_two_pow (by omega) (by omega)
  rw [bOr_n (by omega) (by omega)]
  refine ⟨by omega, ?_⟩
  rw [bit_n (by omega) (by omega), bit_n (by omega) (by omega), bit_n (by omega) (by omega), Nat.testBit_or]
  simp
theorem shl_in {k : Int} (h : 0 ≤ k ∧ k ≤ 9) : 0 ≤ bShl 1 k ∧ bShl 1 k ≤ 512 := by
  rcases (show k = 0 ∨ k = 1 ∨ k = 2 ∨ k = 3 ∨ k = 4 ∨ k = 5 ∨ k = 6 ∨ k = 7 ∨ k = 8 ∨ k = 9 by omega) with rfl | rfl | rfl | rfl | rfl | rfl | rfl | rfl | rfl | rfl <;> exact ⟨by decide +kernel, by decide +kernel⟩
theorem reach_in {z : zS} {f t : Int} (hfo : FanOk z f) (hsit : SitOk z) (ht : 0 ≤ t) : 0 ≤ reachF z f t ∧ reachF z f t < 2147483648 := by
  have h := isAt_in hfo hsit ht
  have h1 := shl_in h
  have h2 := shl_in (within_in (isAtF z f t + 1) 0 9 (by decide))
  unfold reachF
  exact (bit_or (p := 0) (by omega) (by split <;> omega) (by decide)).1
theorem rch_bits {z : zS} {m t p : Int} (hfan : FansOk z) (hsit : SitOk z) (ht : 0 ≤ t) (hp : 0 ≤ p ∧ p < 32) : ∀ n : Nat, n ≤ (z 13).toNat → (0 ≤ rchF z m t n ∧ rchF z m t n < 2147483648) ∧ (bAnd (bShr (rchF z m t n) p) 1 = 1 ↔ sawF z m p t n ≠ 0)
  | 0, _ => by
    refine ⟨⟨by show (0 : Int) ≤ 0; omega, by show (0 : Int) < 2147483648; omega⟩, ?_⟩
    have h0 : bAnd (bShr 0 p) 1 = 0 := by
      obtain ⟨k, rfl⟩ : ∃ k : Nat, p = k := ⟨p.toNat, by omega⟩
      have := bShr_n (a := 0) (k := k) (by omega) (by omega)
      rw [Nat.zero_div] at this
      rw [show bShr 0 k = 0 from this]
      decide +kernel
    show bAnd (bShr 0 p) 1 = 1 ↔ (0 : Int) ≠ 0
    rw [h0]
    decide
  | n + 1, hn => by
    have h13 := hfan.1
    obtain ⟨i1, i2⟩ := rch_bits hfan hsit ht hp n (by omega) (m := m)
    have hr := reach_in (hfan.2 n (by omega) (by omega)) hsit ht
    have hs : sawF z m p t (n + 1) = if sawF z m p t n ≠ 0 ∨ (bAnd (bShr m n) 1 = 1 ∧ bAnd (bShr (reachF z n t) p) 1 = 1) then 1 else 0 := rfl
    have hc : rchF z m t (n + 1) = if bAnd (bShr m n) 1 = 1 then bOr (rchF z m t n) (reachF z n t) else rchF z m t n := rfl
    rw [hs, hc]
    by_cases hb : bAnd (bShr m n) 1 = 1
    · obtain ⟨j1, j2⟩ := bit_or (p := p) i1 hr hp
      rw [if_pos hb, j2, i2]
      refine ⟨j1, ?_⟩
      by_cases hx : sawF z m p t n ≠ 0 ∨ bAnd (bShr (reachF z n t) p) 1 = 1
      · rw [if_pos (hx.elim Or.inl (fun h => Or.inr ⟨hb, h⟩))]
        exact ⟨fun _ => by decide, fun _ => hx⟩
      · rw [if_neg (fun h => hx (h.elim Or.inl (fun h => Or.inr h.2)))]
        exact ⟨fun h => absurd h hx, fun h => absurd rfl h⟩
    · rw [if_neg hb, i2]
      refine ⟨i1, ?_⟩
      by_cases hx : sawF z m p t n ≠ 0
      · rw [if_pos (Or.inl hx)]
        exact ⟨fun _ => by decide, fun _ => hx⟩
      · rw [if_neg (fun h => h.elim hx (fun h => hb h.1))]
        exact ⟨fun h => absurd h hx, fun h => absurd rfl h⟩
def strF (z : zS) (m p : Int) : Nat → Int
  | 0 => 0
  | i + 1 => if bAnd (bShr (rchF z m (z 0 + i) (z 13).toNat) p) 1 = 1 then strF z m p i + 1 else 0
theorem str_in (z : zS) (m p : Int) : ∀ n, 0 ≤ strF z m p n ∧ strF z m p n ≤ n
  | 0 => by simp [strF]
  | n + 1 => by
    have := str_in z m p n
    unfold strF; split <;> omega
theorem str_rnn {z : zS} {m p : Int} (hfan : FansOk z) (hsit : SitOk z) (h0 : 0 ≤ z 0) (hp : 0 ≤ p ∧ p < 32) : ∀ n : Nat, strF z m p n = rnnF z m p n
  | 0 => rfl
  | n + 1 => by
    have ih := str_rnn hfan hsit h0 hp n (m := m)
    have hb := (rch_bits (m := m) (t := z 0 + n) hfan hsit (by omega) hp (z 13).toNat (Nat.le_refl _)).2
    show (if bAnd (bShr (rchF z m (z 0 + n) (z 13).toNat) p) 1 = 1 then strF z m p n + 1 else 0) = (if sawF z m p (z 0 + n) (z 13).toNat = 0 then 0 else rnnF z m p n + 1)
    by_cases hs : sawF z m p (z 0 + n) (z 13).toNat = 0
    · rw [if_pos hs, if_neg (fun h => hb.mp h hs)]
    · rw [if_neg hs, if_pos (hb.mpr hs), ih]
/-- ten bits, by what they say -/
def PB (B : Nat) (S : Nat → Prop) : Prop := B < 1024 ∧ ∀ p : Nat, p < 10 → (B.testBit p = true ↔ S p)
theorem PB.uniq {A B : Nat} {S : Nat → Prop} (h : PB A S) (h2 : PB B S) : A = B := by
  apply Nat.eq_of_testBit_eq
  intro i
  by_cases hi : i < 10
  · have a := h.2 i hi
    have b := h2.2 i hi
    cases ha : A.testBit i <;> cases hb : B.testBit i <;> simp_all
  · have h10 : 2 ^ 10 ≤ 2 ^ i := Nat.pow_le_pow_right (by decide) (by omega)
    rw [Nat.testBit_lt_two_pow (Nat.lt_of_lt_of_le h.1 h10), Nat.testBit_lt_two_pow (Nat.lt_of_lt_of_le h2.1 h10)]
theorem PB.to {B : Nat} {S S' : Nat → Prop} (h : PB B S) (hs : ∀ p, p < 10 → (S p ↔ S' p)) : PB B S' := ⟨h.1, fun p hp => (h.2 p hp).trans (hs p hp)⟩
theorem PB.or {B k : Nat} {S : Nat → Prop} (h : PB B S) (hk : k < 10) : ∃ B' : Nat, bOr B (bShl 1 k) = B' ∧ PB B' (fun p => S p ∨ p = k) := by
  have hp : 2 ^ k ≤ 2 ^ 9 := Nat.pow_le_pow_right (by decide) (by omega)
  have e2 : bShl 1 k = ((2 ^ k : Nat) : Int) := by
    have := bShl_n (a := 1) (k := k) (by omega) (by omega)
    rw [Nat.one_mul] at this
    exact this
  refine ⟨B ||| 2 ^ k, by rw [e2, bOr_n (by have := h.1; omega) (by omega)], Nat.or_lt_two_pow (n := 10) h.1 (by omega), fun p hp10 => ?_⟩
  rw [Nat.testBit_or, Nat.testBit_two_pow, Bool.or_eq_true, h.2 p hp10, decide_eq_true_eq]
  constructor
  · rintro (h | h)
    · exact Or.inl h
    · exact Or.inr h.symm
  · rintro (h | h)
    · exact Or.inl h
    · exact Or.inr h.symm
theorem PB.zero : PB 0 (fun _ => False) := ⟨by decide, fun p _ => by simp⟩
theorem ppI_bits {z : zS} {m : Int} {k : Nat} (hk : k < 10) {acc : Int} {B0 : Nat} {S : Nat → Prop} (ha : acc = B0) (hB : PB B0 S) : ∀ n : Nat, ∃ B : Nat, ppI z m k acc n = B ∧ PB B (fun p => S p ∨ p = k ∧ ∃ x : Nat, x < n ∧ ¬ rnnF z m k (x + 1) < flyF z)
  | 0 => ⟨B0, ha, hB.to (fun p hp => ⟨Or.inl, fun h => h.elim id (fun h => by obtain ⟨-, x, hx, -⟩ := h; omega)⟩)⟩
  | n + 1 => by
    obtain ⟨B, h1, h2⟩ := ppI_bits hk ha hB n (m := m) (z := z)
    have e : ppI z m k acc (n + 1) = bOr (ppI z m k acc n) (if rnnF z m k (n + 1) < flyF z then 0 else bShl 1 k) := rfl
    rw [e, h1]
    by_cases hl : rnnF z m k (n + 1) < flyF z
    · rw [if_pos hl, bOr_z ⟨by omega, by have := h2.1; omega⟩]
      refine ⟨B, rfl, h2.to (fun p hp => ⟨fun h => h.elim Or.inl (fun h => ?_), fun h => h.elim Or.inl (fun h => ?_)⟩)⟩
      · obtain ⟨rfl, x, hx, hx2⟩ := h
        exact Or.inr ⟨rfl, x, by omega, hx2⟩
      · obtain ⟨rfl, x, hx, hx2⟩ := h
        by_cases hxn : x = n
        · subst hxn; exact absurd hl hx2
        · exact Or.inr ⟨rfl, x, by omega, hx2⟩
    · rw [if_neg hl]
      obtain ⟨B', h3, h4⟩ := h2.or hk
      refine ⟨B', h3, h4.to (fun p hp => ⟨fun h => h.elim (fun h => h.elim Or.inl (fun h => ?_)) (fun h => ?_), fun h => h.elim (fun h => Or.inl (Or.inl h)) (fun h => Or.inr h.1)⟩)⟩
      · obtain ⟨rfl, x, hx, hx2⟩ := h
        exact Or.inr ⟨rfl, x, by omega, hx2⟩
      · subst h
        exact Or.inr ⟨rfl, n, by omega, hl⟩
theorem ppO_bits {z : zS} {m : Int} {n : Nat} : ∀ k : Nat, k ≤ 10 → ∃ B : Nat, ppO z m n k = B ∧ PB B (fun p => p < k ∧ ∃ x : Nat, x < n ∧ ¬ rnnF z m p (x + 1) < flyF z)
  | 0, _ => ⟨0, rfl, PB.zero.to (fun p hp => ⟨False.elim, fun h => absurd h.1 (Nat.not_lt_zero p)⟩)⟩
  | k + 1, hk => by
    obtain ⟨B, h1, h2⟩ := ppO_bits (z := z) (m := m) (n := n) k (by omega)
    obtain ⟨B', h3, h4⟩ := ppI_bits (z := z) (m := m) (k := k) (by omega) h1 h2 n
    refine ⟨B', h3, h4.to (fun p hp => ⟨fun h => h.elim (fun h => ⟨by omega, h.2⟩) (fun h => ?_), fun h => ?_⟩)⟩
    · obtain ⟨rfl, h⟩ := h
      exact ⟨by omega, h⟩
    · by_cases hpk : p = k
      · subst hpk; exact Or.inr ⟨rfl, h.2⟩
      · exact Or.inl ⟨by omega, h.2⟩
set_option maxHeartbeats 4000000 in
set_option maxRecDepth 100000 in
theorem c_papersOf (E : xE) {σ : xM} {ρ : xR} {ks : xKs} (hw : WK ks ρ) {z : zS} (hz : HZ σ ρ ks 1 z) (hpl : PlOk z) {mask n : Int} (hm : 0 ≤ mask ∧ mask ≤ 15) (hn : 0 ≤ n ∧ n ≤ 60) (ht : z 0 + 100 < 900000) : Sp E yX11_papersOf kX11_papersOf 4 0 0 [.ref 0, .int (iI mask), .int (iI n)] σ ρ ks (fun r σ' ρ' ks' => r = some (.int (iI (ppO z mask n.toNat 10))) ∧ Nx σ σ' ∧ ρ' = ρ ∧ ks' = ks) := by
  obtain ⟨w0, w43, ⟨wr0, wr1, wr3, wr4, wr5⟩, wh, wk, wn, wt⟩ := id hw
  have hk := wh.hk
  obtain ⟨k1, k2, r0, r2, hs3⟩ := id hk
  have hfs := hz.fans
  have hsz := hz.sit
  obtain ⟨⟨hz1, -⟩, -, ⟨rq, hrq, hrq2, hrm⟩, hz4, ⟨hz6, -⟩, hz7, hz8, ⟨hz10, -⟩, ⟨hz12, -⟩, ⟨hz14, -⟩⟩ := id hz
  have hfan := hpl.1
  have hsit := hpl.2.1
  have h13 := hpl.1.1
  have h14 := hpl.2.1.1
  have hz00 := hpl.2.2.2
  obtain ⟨n0, ⟨n1, n2, n3, n4, n5⟩, m0, m1, m2, m3, m4⟩ := id wn
  refine x_enter (own := RX11) (L := [_, _, _, _, _, _, _]) (by decide +kernel) rfl (by exact Nat.le_of_ble_eq_true rfl) rfl (fun p e R s m args below meth c Z hZ hC hR hin => ?_)
  have hfly := fly_in hpl.2.2.1
  have outer : ∀ (w i : Nat) (j bits : Int) (σ' : xM), j = i → (i : Int) + w = n → Nx σ σ' → (∀ x : Int, 0 ≤ x → x < 10 → σ' 43 x = strF z mask x i) → (∃ B : Nat, bits = B ∧ PB B (fun p => ∃ x : Nat, x < i ∧ flyF z ≤ strF z mask p (x + 1))) → X E p e R s m args below meth c Z 0 0 σ' ρ ks 26 [some (.ref 0), some (.int (iI mask)), some (.int (iI n)), some (.int (iI bits)), some (.int (iI j)), none, none] [] := by
    intro w
    induction w with
    | zero =>
      intro i j bits σ' hj hi hnx hmem hbits
      refine x_iload (pc := 26) hC dX11_papersOf_26 rfl ?_
      refine x_iload_n (pc := 28) hC dX11_papersOf_28 rfl ?_
      refine x_icmp_ge (tgt := 139) (pc := 29) hC (by omega) (by omega) dX11_papersOf_29 (by decide) (fun c29 => ?_) (fun c29 => by (exfalso; omega))
      refine x_iload_n (pc := 139) hC dX11_papersOf_139 rfl ?_
      refine x_ireturn hC hZ dX11_papersOf_140 (by decide) (by decide) ?_
      obtain ⟨B, hB, hPB⟩ := hbits
      refine ⟨congrArg (fun z => some (Value.int (iI z))) ?_, hnx, rfl, rfl⟩
      obtain ⟨B', h1, h2⟩ := ppO_bits (z := z) (m := mask) (n := n.toNat) 10 (Nat.le_refl _)
      rw [h1, hB]
      congr 1
      refine (hPB.to (fun p hp => ?_)).uniq h2
      constructor
      · rintro ⟨x, hx, hx2⟩
        refine ⟨hp, x, by omega, ?_⟩
        rw [← str_rnn hfan hsit hz00.1 (by omega)]; omega
      · rintro ⟨-, x, hx, hx2⟩
        refine ⟨x, by omega, ?_⟩
        rw [← str_rnn hfan hsit hz00.1 (by omega)] at hx2; omega
    | succ w ih =>
      intro i j bits σ' hj hi hnx hmem hbits
      have hj2 : 0 ≤ j ∧ j < 60 := by omega
      have hfs1 := ((hz.nx (by decide) hnx)).fans
      have hsz1 := ((hz.nx (by decide) hnx)).sit
      have hs17 : σ' 1 7 = z 0 := by rw [hnx 1 (by omega)]; exact hz7
      obtain ⟨rv, hrv⟩ : ∃ rv, rv = rchF z mask (z 0 + j) (z 13).toNat := ⟨_, rfl⟩
      rw [hj] at hrv
      have inner : ∀ (y k : Nat) (j' bits' : Int) (σ2 : xM), j' = k → k + y = 10 → Nx σ σ2 → (∀ x : Int, 0 ≤ x → x < 10 → σ2 43 x = if x < k then strF z mask x (i + 1) else strF z mask x i) → (∃ B : Nat, bits' = B ∧ PB B (fun p => (∃ x : Nat, x < i ∧ flyF z ≤ strF z mask p (x + 1)) ∨ (p < k ∧ flyF z ≤ strF z mask p (i + 1)))) → X E p e R s m args below meth c Z 0 0 σ2 ρ ks 62 [some (.ref 0), some (.int (iI mask)), some (.int (iI n)), some (.int (iI bits')), some (.int (iI j)), some (.int (iI rv)), some (.int (iI j'))] [] := by
        intro y
        induction y with
        | zero =>
          intro k j' bits' σ2 hj' hk hnx' hmem' hbits'
          have hk10 : k = 10 := by omega
          refine x_iload (pc := 62) hC dX11_papersOf_62 rfl ?_
          refine x_bipush (pc := 64) hC dX11_papersOf_64 (by decide +kernel) ?_
          refine x_icmp_ge (tgt := 133) (pc := 66) hC (by omega) (by omega) dX11_papersOf_66 (by decide) (fun c66 => ?_) (fun c66 => by (exfalso; omega))
          refine x_iinc (L' := [_, _, _, _, _, _, _]) (pc := 133) hC dX11_papersOf_133 rfl rfl rfl ?_
          refine x_goto (tgt := 26) (pc := 136) hC dX11_papersOf_136 (by decide) ?_
          obtain ⟨B, hB, hPB⟩ := hbits'
          refine X.drop (xLe_s (xLe_s (xLe_s (xLe_s (xLe_s (xLe_n (xLe_n xLe_0))))))) (ih (i + 1) (j + 1) _ _ (by omega) (by omega) hnx' (fun x hx0 hx1 => by rw [hmem' x hx0 hx1, if_pos (by omega)]) ⟨B, hB, hPB.to (fun p hp => ⟨fun h => ?_, fun h => ?_⟩)⟩)
          · rcases h with ⟨x, hx, hx2⟩ | ⟨hx, hx2⟩
            · exact ⟨x, by omega, hx2⟩
            · exact ⟨i, by omega, hx2⟩
          · obtain ⟨x, hx, hx2⟩ := h
            by_cases hxi : x = i
            · subst hxi; exact Or.inr ⟨by omega, hx2⟩
            · exact Or.inl ⟨x, by omega, hx2⟩
        | succ y ihk =>
          intro k j' bits' σ2 hj' hk hnx' hmem' hbits'
          obtain ⟨B, hB, hPB⟩ := hbits'
          have hB1 := hPB.1
          have hm0 := hmem' j' (by omega) (by omega)
          rw [if_neg (by omega)] at hm0
          have hsin := str_in z mask j' i
          have hjk : strF z mask j' i = strF z mask k i := by rw [hj']
          have hrm1 := (hz.nx (by decide) hnx').rm hrq
          have hfl : σ2 rq 12 = flyF z := hrm1.2.2.1
          have kr0 := hrm1.1.1
          refine x_iload (pc := 62) hC dX11_papersOf_62 rfl ?_
          refine x_bipush (pc := 64) hC dX11_papersOf_64 (by decide +kernel) ?_
          refine x_icmp_ge (tgt := 133) (pc := 66) hC (by omega) (by omega) dX11_papersOf_66 (by decide) (fun c66 => by (exfalso; omega)) (fun c66 => ?_)
          refine x_aload_n (pc := 69) hC dX11_papersOf_69 rfl ?_
          refine x_getr (K := 4) (pc := 70) hC fX11_32_11 (by assumption) dX11_papersOf_70 rfl rfl (by assumption) ?_
          refine x_iload (pc := 73) hC dX11_papersOf_73 rfl ?_
          refine x_iload (pc := 75) hC dX11_papersOf_75 rfl ?_
          refine x_iload (pc := 77) hC dX11_papersOf_77 rfl ?_
          refine x_ishr (pc := 79) hC dX11_papersOf_79 ?_
          refine x_iconst (pc := 80) hC dX11_papersOf_80 ?_
          refine x_iand (pc := 81) hC dX11_papersOf_81 ?_
          refine x_iconst (pc := 82) hC dX11_papersOf_82 ?_
          refine x_icmp_ne (tgt := 98) (pc := 83) hC (by first | omega | exact rg_of _) (by first | omega | exact rg_of _) dX11_papersOf_83 (by decide) (fun c83 => ?_) (fun c83 => ?_)
          · refine x_iconst (pc := 98) hC dX11_papersOf_98 ?_
            refine x_iast (pc := 99) hC (by assumption) (by omega) dX11_papersOf_99 ?_
            refine x_aload_n (pc := 100) hC dX11_papersOf_100 rfl ?_
            refine x_getr (K := 4) (pc := 101) hC fX11_32_11 (by assumption) dX11_papersOf_101 rfl rfl (by assumption) ?_
            refine x_iload (pc := 104) hC dX11_papersOf_104 rfl ?_
            refine x_iald (pc := 106) hC (by assumption) (by omega) dX11_papersOf_106 ?_
            rw [wr_eq]
            refine x_aload_n (pc := 107) hC dX11_papersOf_107 rfl ?_
            refine x_getr (K := 0) (pc := 108) hC fX11_12_11 (by assumption) dX11_papersOf_108 rfl rfl (by assumption) ?_
            refine x_getr (K := 3) (pc := 111) hC fX11_62_1 (by assumption) dX11_papersOf_111 rfl rfl (by assumption) ?_
            refine x_geti (K := 12) (pc := 114) hC fX11_149_4 (by assumption) dX11_papersOf_114 rfl rfl ?_
            simp (disch := omega) only [wr_p]
            rw [hfl]
            refine x_icmp_lt (tgt := 127) (pc := 117) hC (by omega) (by omega) dX11_papersOf_117 (by decide) (fun c117 => ?_) (fun c117 => ?_)
            · refine x_iinc (L' := [_, _, _, _, _, _, _]) (pc := 127) hC dX11_papersOf_127 rfl rfl rfl ?_
              refine x_goto (tgt := 62) (pc := 130) hC dX11_papersOf_130 (by decide) ?_
              have hst : strF z mask k (i + 1) = 0 := by
                show (if bAnd (bShr (rchF z mask (z 0 + i) (z 13).toNat) k) 1 = 1 then strF z mask k i + 1 else 0) = _
                rw [if_neg (by rw [← hj', ← hrv]; exact c83)]
              refine ihk (k + 1) (j' + 1) _ _ (by omega) (by omega) (fun p' hp => (wr_of _ (by omega) _ _).trans (hnx' p' hp)) (fun x hx0 hx1 => ?_) ⟨B, hB, hPB.to (fun p hp => ⟨fun h => h.elim Or.inl (fun h => Or.inr ⟨by omega, h.2⟩), fun h => h.elim Or.inl (fun h => ?_)⟩)⟩
              · by_cases hxj : x = j'
                · subst hxj; rw [wr_eq, if_pos (by omega), hj', hst]
                · rw [wr_k _ _ _ hxj, hmem' x hx0 hx1]
                  by_cases hxk : x < k
                  · rw [if_pos hxk, if_pos (by omega)]
                  · rw [if_neg hxk, if_neg (by omega)]
              · by_cases hpk : p = k
                · subst hpk; rw [hst] at h; exfalso; omega
                · exact Or.inr ⟨by omega, h.2⟩
            · refine x_iload_n (pc := 120) hC dX11_papersOf_120 rfl ?_
              refine x_iconst (pc := 121) hC dX11_papersOf_121 ?_
              refine x_iload (pc := 122) hC dX11_papersOf_122 rfl ?_
              refine x_ishl (pc := 124) hC dX11_papersOf_124 ?_
              refine x_ior (pc := 125) hC dX11_papersOf_125 ?_
              refine x_istore_n (L' := [_, _, _, _, _, _, _]) (pc := 126) hC dX11_papersOf_126 rfl rfl ?_
              refine x_iinc (L' := [_, _, _, _, _, _, _]) (pc := 127) hC dX11_papersOf_127 rfl rfl rfl ?_
              refine x_goto (tgt := 62) (pc := 130) hC dX11_papersOf_130 (by decide) ?_
              have hst : strF z mask k (i + 1) = 0 := by
                show (if bAnd (bShr (rchF z mask (z 0 + i) (z 13).toNat) k) 1 = 1 then strF z mask k i + 1 else 0) = _
                rw [if_neg (by rw [← hj', ← hrv]; exact c83)]
              obtain ⟨B', hB', hPB'⟩ := hPB.or (k := k) (by omega)
              refine ihk (k + 1) (j' + 1) _ _ (by omega) (by omega) (fun p' hp => (wr_of _ (by omega) _ _).trans (hnx' p' hp)) (fun x hx0 hx1 => ?_) ⟨B', by rw [hB, hj']; exact hB', hPB'.to (fun p hp => ⟨fun h => h.elim (fun h => h.elim Or.inl (fun h => Or.inr ⟨by omega, h.2⟩)) (fun h => ?_), fun h => h.elim (fun h => Or.inl (Or.inl h)) (fun h => ?_)⟩)⟩
              · by_cases hxj : x = j'
                · subst hxj; rw [wr_eq, if_pos (by omega), hj', hst]
                · rw [wr_k _ _ _ hxj, hmem' x hx0 hx1]
                  by_cases hxk : x < k
                  · rw [if_pos hxk, if_pos (by omega)]
                  · rw [if_neg hxk, if_neg (by omega)]
              · subst h; exact Or.inr ⟨by omega, by rw [hst]; omega⟩
              · by_cases hpk : p = k
                · exact Or.inr hpk
                · exact Or.inl (Or.inr ⟨by omega, h.2⟩)
          · refine x_aload_n (pc := 86) hC dX11_papersOf_86 rfl ?_
            refine x_getr (K := 4) (pc := 87) hC fX11_32_11 (by assumption) dX11_papersOf_87 rfl rfl (by assumption) ?_
            refine x_iload (pc := 90) hC dX11_papersOf_90 rfl ?_
            refine x_iald (pc := 92) hC (by assumption) (by omega) dX11_papersOf_92 ?_
            rw [hm0]
            refine x_iconst (pc := 93) hC dX11_papersOf_93 ?_
            refine x_iadd (pc := 94) hC dX11_papersOf_94 ?_
            refine x_goto (tgt := 99) (pc := 95) hC dX11_papersOf_95 (by decide) ?_
            refine x_iast (pc := 99) hC (by assumption) (by omega) dX11_papersOf_99 ?_
            refine x_aload_n (pc := 100) hC dX11_papersOf_100 rfl ?_
            refine x_getr (K := 4) (pc := 101) hC fX11_32_11 (by assumption) dX11_papersOf_101 rfl rfl (by assumption) ?_
            refine x_iload (pc := 104) hC dX11_papersOf_104 rfl ?_
            refine x_iald (pc := 106) hC (by assumption) (by omega) dX11_papersOf_106 ?_
            rw [wr_eq]
            refine x_aload_n (pc := 107) hC dX11_papersOf_107 rfl ?_
            refine x_getr (K := 0) (pc := 108) hC fX11_12_11 (by assumption) dX11_papersOf_108 rfl rfl (by assumption) ?_
            refine x_getr (K := 3) (pc := 111) hC fX11_62_1 (by assumption) dX11_papersOf_111 rfl rfl (by assumption) ?_
            refine x_geti (K := 12) (pc := 114) hC fX11_149_4 (by assumption) dX11_papersOf_114 rfl rfl ?_
            simp (disch := omega) only [wr_p]
            rw [hfl]
            refine x_icmp_lt (tgt := 127) (pc := 117) hC (by omega) (by omega) dX11_papersOf_117 (by decide) (fun c117 => ?_) (fun c117 => ?_)
            · refine x_iinc (L' := [_, _, _, _, _, _, _]) (pc := 127) hC dX11_papersOf_127 rfl rfl rfl ?_
              refine x_goto (tgt := 62) (pc := 130) hC dX11_papersOf_130 (by decide) ?_
              have hst : strF z mask k (i + 1) = strF z mask k i + 1 := by
                show (if bAnd (bShr (rchF z mask (z 0 + i) (z 13).toNat) k) 1 = 1 then strF z mask k i + 1 else 0) = _
                rw [if_pos (by rw [← hj', ← hrv]; exact c83)]
              refine ihk (k + 1) (j' + 1) _ _ (by omega) (by omega) (fun p' hp => (wr_of _ (by omega) _ _).trans (hnx' p' hp)) (fun x hx0 hx1 => ?_) ⟨B, hB, hPB.to (fun p hp => ⟨fun h => h.elim Or.inl (fun h => Or.inr ⟨by omega, h.2⟩), fun h => h.elim Or.inl (fun h => ?_)⟩)⟩
              · by_cases hxj : x = j'
                · subst hxj; rw [wr_eq, if_pos (by omega), hj', hst]
                · rw [wr_k _ _ _ hxj, hmem' x hx0 hx1]
                  by_cases hxk : x < k
                  · rw [if_pos hxk, if_pos (by omega)]
                  · rw [if_neg hxk, if_neg (by omega)]
              · by_cases hpk : p = k
                · subst hpk; rw [hst] at h; exfalso; omega
                · exact Or.inr ⟨by omega, h.2⟩
            · refine x_iload_n (pc := 120) hC dX11_papersOf_120 rfl ?_
              refine x_iconst (pc := 121) hC dX11_papersOf_121 ?_
              refine x_iload (pc := 122) hC dX11_papersOf_122 rfl ?_
              refine x_ishl (pc := 124) hC dX11_papersOf_124 ?_
              refine x_ior (pc := 125) hC dX11_papersOf_125 ?_
              refine x_istore_n (L' := [_, _, _, _, _, _, _]) (pc := 126) hC dX11_papersOf_126 rfl rfl ?_
              refine x_iinc (L' := [_, _, _, _, _, _, _]) (pc := 127) hC dX11_papersOf_127 rfl rfl rfl ?_
              refine x_goto (tgt := 62) (pc := 130) hC dX11_papersOf_130 (by decide) ?_
              have hst : strF z mask k (i + 1) = strF z mask k i + 1 := by
                show (if bAnd (bShr (rchF z mask (z 0 + i) (z 13).toNat) k) 1 = 1 then strF z mask k i + 1 else 0) = _
                rw [if_pos (by rw [← hj', ← hrv]; exact c83)]
              obtain ⟨B', hB', hPB'⟩ := hPB.or (k := k) (by omega)
              refine ihk (k + 1) (j' + 1) _ _ (by omega) (by omega) (fun p' hp => (wr_of _ (by omega) _ _).trans (hnx' p' hp)) (fun x hx0 hx1 => ?_) ⟨B', by rw [hB, hj']; exact hB', hPB'.to (fun p hp => ⟨fun h => h.elim (fun h => h.elim Or.inl (fun h => Or.inr ⟨by omega, h.2⟩)) (fun h => ?_), fun h => h.elim (fun h => Or.inl (Or.inl h)) (fun h => ?_)⟩)⟩
              · by_cases hxj : x = j'
                · subst hxj; rw [wr_eq, if_pos (by omega), hj', hst]
                · rw [wr_k _ _ _ hxj, hmem' x hx0 hx1]
                  by_cases hxk : x < k
                  · rw [if_pos hxk, if_pos (by omega)]
                  · rw [if_neg hxk, if_neg (by omega)]
              · subst h; exact Or.inr ⟨by omega, by rw [hst]; omega⟩
              · by_cases hpk : p = k
                · exact Or.inr hpk
                · exact Or.inl (Or.inr ⟨by omega, h.2⟩)
      refine x_iload (pc := 26) hC dX11_papersOf_26 rfl ?_
      refine x_iload_n (pc := 28) hC dX11_papersOf_28 rfl ?_
      refine x_icmp_ge (tgt := 139) (pc := 29) hC (by omega) (by omega) dX11_papersOf_29 (by decide) (fun c29 => by (exfalso; omega)) (fun c29 => ?_)
      refine x_aload_n (pc := 32) hC dX11_papersOf_32 rfl ?_
      refine x_getr (K := 0) (pc := 33) hC fX11_12_11 (by assumption) dX11_papersOf_33 rfl rfl (by assumption) ?_
      refine x_iload_n (pc := 36) hC dX11_papersOf_36 rfl ?_
      refine x_aload_n (pc := 37) hC dX11_papersOf_37 rfl ?_
      refine x_getr (K := 0) (pc := 38) hC fX11_12_11 (by assumption) dX11_papersOf_38 rfl rfl (by assumption) ?_
      refine x_geti (K := 7) (pc := 41) hC fX11_105_1 (by assumption) dX11_papersOf_41 rfl rfl ?_
      rw [hs17]
      refine x_iload (pc := 44) hC dX11_papersOf_44 rfl ?_
      refine x_iadd (pc := 46) hC dX11_papersOf_46 ?_
      refine x_aload_n (pc := 47) hC dX11_papersOf_47 rfl ?_
      refine x_getr (K := 0) (pc := 48) hC fX11_12_11 (by assumption) dX11_papersOf_48 rfl rfl (by assumption) ?_
      refine x_getr (K := 2) (pc := 51) hC fX11_108_1 (by assumption) dX11_papersOf_51 rfl rfl (by assumption) ?_
      refine x_callV1 (As := [_, _, _]) (Bs := [_, _, _]) (pc := 54) hC (c_reached E hk hfs1 hfan (by omega) ⟨by omega, by omega⟩ hs3 hsz1 hsit) wX11_298_1 pX1_reached (by assumption) rfl rfl (by exact Nat.le_of_ble_eq_true rfl) hR (by decide) (by decide) (by decide) rfl dX11_papersOf_54 ?_
      rw [show rchF z mask (z 0 + j) (z 13).toNat = rv by rw [hrv, hj]]
      refine x_istore (L' := [_, _, _, _, _, _, _]) (pc := 57) hC dX11_papersOf_57 rfl rfl ?_
      refine x_iconst (pc := 59) hC dX11_papersOf_59 ?_
      refine x_istore (L' := [_, _, _, _, _, _, _]) (pc := 60) hC dX11_papersOf_60 rfl rfl ?_
      obtain ⟨B, hB, hPB⟩ := hbits
      exact inner 10 0 0 bits σ' rfl (by omega) hnx (fun x hx0 hx1 => by rw [if_neg (by omega)]; exact hmem x hx0 hx1) ⟨B, hB, hPB.to (fun p hp => ⟨Or.inl, fun h => h.elim id (fun h => absurd h.1 (Nat.not_lt_zero p))⟩)⟩
  have loop0 : ∀ (y : Nat) (k : Int), 0 ≤ k → k + y = 10 → X E p e R s m args below meth c Z 0 0 (sw σ 43 (mz0 (σ 43) k)) ρ ks 2 [some (.ref 0), some (.int (iI mask)), some (.int (iI n)), some (.int (iI k)), none, none, none] [] := by
    intro y
    induction y with
    | zero =>
      intro k h0 hk
      have hk10 : k = 10 := by omega
      subst hk10
      refine x_iload_n (pc := 2) hC dX11_papersOf_2 rfl ?_
      refine x_bipush (pc := 3) hC dX11_papersOf_3 (by decide +kernel) ?_
      refine x_icmp_ge (tgt := 21) (pc := 5) hC (by omega) (by omega) dX11_papersOf_5 (by decide) (fun c5 => ?_) (fun c5 => by (exfalso; omega))
      refine x_iconst (pc := 21) hC dX11_papersOf_21 ?_
      refine x_istore_n (L' := [_, _, _, _, _, _, _]) (pc := 22) hC dX11_papersOf_22 rfl rfl ?_
      refine x_iconst (pc := 23) hC dX11_papersOf_23 ?_
      refine x_istore (L' := [_, _, _, _, _, _, _]) (pc := 24) hC dX11_papersOf_24 rfl rfl ?_
      exact outer n.toNat 0 0 0 _ rfl (by omega) (fun p' hp => sw_ne _ (by omega) _) (fun x hx0 hx1 => by rw [sw_eq]; unfold mz0; rw [if_pos ⟨hx0, hx1⟩]; rfl) ⟨0, rfl, PB.zero.to (fun p hp => ⟨False.elim, fun h => by obtain ⟨x, hx, -⟩ := h; omega⟩)⟩
    | succ y ih =>
      intro k h0 hk
      refine x_iload_n (pc := 2) hC dX11_papersOf_2 rfl ?_
      refine x_bipush (pc := 3) hC dX11_papersOf_3 (by decide +kernel) ?_
      refine x_icmp_ge (tgt := 21) (pc := 5) hC (by omega) (by omega) dX11_papersOf_5 (by decide) (fun c5 => by (exfalso; omega)) (fun c5 => ?_)
      refine x_aload_n (pc := 8) hC dX11_papersOf_8 rfl ?_
      refine x_getr (K := 4) (pc := 9) hC fX11_32_11 (by assumption) dX11_papersOf_9 rfl rfl (by assumption) ?_
      refine x_iload_n (pc := 12) hC dX11_papersOf_12 rfl ?_
      refine x_iconst (pc := 13) hC dX11_papersOf_13 ?_
      refine x_iast (pc := 14) hC (by assumption) (by omega) dX11_papersOf_14 ?_
      refine x_iinc (L' := [_, _, _, _, _, _, _]) (pc := 15) hC dX11_papersOf_15 rfl rfl rfl ?_
      refine x_goto (tgt := 2) (pc := 18) hC dX11_papersOf_18 (by decide) ?_
      refine X.mem ?_ (ih (k + 1) (by omega) (by omega))
      rw [wr_sw, sw_eq, sw_sw, mz0_s _ _ h0]
  refine x_iconst (pc := 0) hC dX11_papersOf_0 ?_
  refine x_istore_n (L' := [_, _, _, _, _, _, _]) (pc := 1) hC dX11_papersOf_1 rfl rfl ?_
  refine X.mem ?_ (loop0 10 0 (by omega) (by omega))
  rw [mz0_0, sw_id]
