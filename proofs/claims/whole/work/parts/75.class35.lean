/-! calls that make cells -/
def FPB (B : Nat) (ρ : xR) (z : zS) (p : Nat) : Prop := ∃ (f : Int) (y : Nat), (0 ≤ f ∧ f < z 13) ∧ ρ (B + 1) f = some y ∧ (p = y ∨ (p = y + 1 ∧ z (22 + f) = 6))
theorem HZ.fpb {σ : xM} {ρ : xR} {ks : xKs} {B : Nat} {z : zS} (h : HZ σ ρ ks B z) {p : Nat} (hp : FPB B ρ z p) : 55 ≤ p ∧ p < ks.length := by
  obtain ⟨f, y, ⟨f0, f1⟩, h1, h2⟩ := hp
  obtain ⟨q, d1, d2, d3⟩ := h.1.2 f f0 f1
  cases d1.symm.trans h1
  rcases h2 with h2 | ⟨h2, h6⟩
  · rw [h2]; exact ⟨d2, at_lt d3.1⟩
  · rw [h2]; exact ⟨by omega, at_lt (d3.2.2 h6).1⟩
/-- a room's cells are no fan's -/
theorem HZ.fpr {σ : xM} {ρ : xR} {ks : xKs} {B : Nat} {z : zS} (h : HZ σ ρ ks B z) {p q : Nat} (hr : RmK ks ρ q) (h1 : q ≤ p) (h2 : p ≤ q + 5) : ¬ FPB B ρ z p := by
  rintro ⟨f, y, ⟨f0, f1⟩, h3, h4⟩
  obtain ⟨q2, d1, d2, d3⟩ := h.1.2 f f0 f1
  cases d1.symm.trans h3
  obtain ⟨k0, ⟨k1, k2, k3, k4, k5⟩, -⟩ := hr
  obtain ⟨m1, m2, m3⟩ := kci_ne (z (22 + f))
  have hy := d3.1
  have hcase : p = q ∨ p = q + 1 ∨ p = q + 2 ∨ p = q + 3 ∨ p = q + 4 ∨ p = q + 5 := by omega
  rcases h4 with h4 | ⟨h4, h6⟩
  · rw [← h4] at hy
    rcases hcase with e | e | e | e | e | e <;> rw [e] at hy
    · have := hy.symm.trans k0; simp at this; exact m2 this
    · have := hy.symm.trans k1; simp at this
    · have := hy.symm.trans k2; simp at this
    · have := hy.symm.trans k3; simp at this
    · have := hy.symm.trans k4; simp at this
    · have := hy.symm.trans k5; simp at this
  · have hy1 := (d3.2.2 h6).1
    rw [← h4] at hy1
    rcases hcase with e | e | e | e | e | e <;> rw [e] at hy1
    · have := hy1.symm.trans k0; simp at this
    · have := hy1.symm.trans k1; simp at this
    · have := hy1.symm.trans k2; simp at this
    · have := hy1.symm.trans k3; simp at this
    · have := hy1.symm.trans k4; simp at this
    · have e2 : y = q + 4 := by omega
      rw [e2] at hy
      have := hy.symm.trans k4
      simp at this
theorem HZ.kept {σ σ' : xM} {ρ ρ' : xR} {ks ks' : xKs} {B C : Nat} {z zc : zS} (hB : B = 1 ∨ B = 19) (h : HZ σ ρ ks B z) (hc : HZ σ ρ ks C zc) (hl : 55 ≤ ks.length) (hdj : ∀ p, FPB B ρ z p → ¬ FPB C ρ zc p) (hm : ∀ p, p < ks.length → (9 ≤ p ∧ p ≤ 14 ∨ 27 ≤ p ∧ p ≤ 32 ∨ B ≤ p ∧ p ≤ B + 17 ∨ 55 ≤ p) → ¬ FPB C ρ zc p → σ' p = σ p ∧ ρ' p = ρ p) (hk : ∀ p, p < ks.length → ks'[p]? = ks[p]?) : HZ σ' ρ' ks' B z := by
  have hn : ∀ p, p < 55 → ¬ FPB C ρ zc p := fun p hp hq => by have := (hc.fpb hq).1; omega
  have hb : ∀ p, B ≤ p → p ≤ B + 17 → σ' p = σ p ∧ ρ' p = ρ p := fun p p1 p2 => hm p (by omega) (by omega) (hn p (by omega))
  obtain ⟨⟨a1, a2⟩, a3, ⟨rq, b1, b2, b3⟩, a4, a5, a6, a7, a8, a9, a10⟩ := id h
  unfold HZ
  rw [(hb B (by omega) (by omega)).1, (hb (B + 14) (by omega) (by omega)).1, (hb (B + 15) (by omega) (by omega)).1, (hb (B + 16) (by omega) (by omega)).1, (hb (B + 17) (by omega) (by omega)).1]
  refine ⟨⟨a1, fun f h0 h1 => ?_⟩, a3.mem (hb _ (by omega) (by omega)).1 (hb _ (by omega) (by omega)).1 (hb _ (by omega) (by omega)).1 (hb _ (by omega) (by omega)).1, ⟨rq, ?_, b2, ?_⟩, a4, a5, a6, a7, a8, a9, a10⟩
  · obtain ⟨q, c1, c2, c3⟩ := a2 f h0 h1
    have hq := hm q (at_lt c3.1) (by omega) (hdj q ⟨f, q, ⟨h0, h1⟩, c1, Or.inl rfl⟩)
    refine ⟨q, by rw [(hb (B + 1) (by omega) (by omega)).2]; exact c1, c2, c3.mem hq.1 (fun h6 => (hm _ (at_lt (c3.2.2 h6).1) (by omega) (hdj _ ⟨f, q, ⟨h0, h1⟩, c1, Or.inr ⟨rfl, h6⟩⟩)).1) hq.2 (hk q (at_lt c3.1)) (fun h6 => hk _ (at_lt (c3.2.2 h6).1))⟩
  · rw [(hb B (by omega) (by omega)).2]; exact b1
  · have hl2 : rq + 5 < ks.length := at_lt b3.1.2.1.2.2.2.2
    exact b3.mem (fun p p1 p2 => (hm p (by omega) (by omega) (hc.fpr b3.1 p1 p2)).1) (hm rq (by omega) (by omega) (hc.fpr b3.1 (by omega) (by omega))).2 (fun p p1 p2 => hk p (by omega))
theorem WK.mem {ks ks' : xKs} {ρ ρ' : xR} (h : WK ks ρ) (hl : 55 ≤ ks.length) (hk : ∀ p, p < ks.length → ks'[p]? = ks[p]?) (hρ : ∀ (p : Nat) (j : Int), p ≤ 44 → p ≠ 2 → p ≠ 20 → (p = 1 → j ≠ 3) → (p = 19 → j ≠ 3) → ρ' p j = ρ p j) : WK ks' ρ' := by
  have hk2 : ∀ p, p < 55 → ks'[p]? = ks[p]? := fun p hp => hk p (by omega)
  unfold WK HKB SK TK at *
  simp (disch := omega) only [hk2, hρ]
  exact h
def Gx (σ σ' : xM) (ρ ρ' : xR) (ks ks' : xKs) (z : zS) : Prop := ((∀ p, p < ks.length → ks'[p]? = ks[p]?) ∧ ks.length ≤ ks'.length) ∧ ∀ p, p < ks.length → (p = 0 ∨ 9 ≤ p ∧ p ≤ 14 ∨ 19 ≤ p) → (p < 37 ∨ 43 < p) → ¬ FP ρ z p → σ' p = σ p ∧ ρ' p = ρ p
theorem Gx.rf (σ : xM) (ρ : xR) (ks : xKs) (z : zS) : Gx σ σ ρ ρ ks ks z := ⟨⟨fun _ _ => rfl, Nat.le_refl _⟩, fun _ _ _ _ _ => ⟨rfl, rfl⟩⟩
theorem row0F_o (y : zS) (f : Int) {j : Int} : ∀ n : Nat, (j < 46 + 4 * f ∨ 46 + 4 * f + n ≤ j) → row0F y f n j = y j
  | 0, _ => rfl
  | n + 1, h => by
    show up _ _ _ j = _
    rw [up_ne _ (by omega), row0F_o y f n (by omega)]
theorem row0F_i (y : zS) (f k : Int) (k0 : 0 ≤ k) : ∀ n : Nat, k < n → row0F y f n (46 + 4 * f + k) = 0
  | 0, h => absurd h (by omega)
  | n + 1, h => by
    show up _ _ _ _ = _
    by_cases hk : k = n
    · rw [hk, up_eq]
    · rw [up_ne _ (by omega), row0F_i y f k k0 n (by omega)]
theorem HZ.fanNew {σ σ2 : xM} {ρ ρ2 : xR} {ks ks2 : xKs} {z z1 : zS} (h : HZ σ ρ ks 1 z) (hl : 55 ≤ ks.length) (h13 : 0 ≤ z 13 ∧ z 13 < 4) (h14 : z 14 ≤ 6) (h20 : -1 ≤ z 20) (hσ : ∀ p, p < ks.length → p ≠ 1 → σ2 p = σ p) (hσ1 : ∀ j, j ≠ 1 → σ2 1 j = σ 1 j) (hσ11 : σ2 1 1 = z 13 + 1) (hρ : ∀ p, p < ks.length → p ≠ 2 → ρ2 p = ρ p) (hρ2 : ∀ j, j ≠ z 13 → ρ2 2 j = ρ 2 j) (hρ3 : ρ2 2 (z 13) = some ks.length) (hk : ∀ p, p < ks.length → ks2[p]? = ks[p]?) (hfa : FanAt σ2 ρ2 ks2 ks.length (z 13) z1) (e13 : z1 13 = z 13 + 1)
    (he : ∀ j, j ≠ 13 → j ≠ 22 + z 13 → j ≠ 26 + z 13 → j ≠ 30 + z 13 → j ≠ 34 + z 13 → j ≠ 38 + z 13 → j ≠ 42 + z 13 → (j < 46 + 4 * z 13 ∨ 46 + 4 * z 13 + 4 ≤ j) → z1 j = z j) : HZ σ2 ρ2 ks2 1 z1 := by
  obtain ⟨⟨a1, a2⟩, a3, ⟨rq, b1, b2, b3⟩, a4, a5, a6, a7, a8, a9, a10⟩ := h
  have hlo : ∀ j, j < 22 → j ≠ 13 → z1 j = z j := fun j h1 h2 => he j (by omega) (by omega) (by omega) (by omega) (by omega) (by omega) (by omega) (by omega)
  have hhi : ∀ j, 62 ≤ j → z1 j = z j := fun j h1 => he j (by omega) (by omega) (by omega) (by omega) (by omega) (by omega) (by omega) (by omega)
  have hrq : rq + 5 < ks.length := at_lt b3.1.2.1.2.2.2.2
  unfold HZ
  refine ⟨⟨by rw [hσ11, e13], fun f f0 f1 => ?_⟩, ?_, ⟨rq, ?_, b2, (b3.mem (fun p p1 p2 => hσ p (by omega) (by omega)) (hρ rq (by omega) (by omega)) (fun p p1 p2 => hk p (by omega))).row (hlo 20 (by decide) (by decide)) (fun j hj => hhi j (by omega)) h20⟩, ?_, ⟨?_, fun j j0 j1 => ?_⟩, ?_, ?_, ⟨?_, fun k k0 k1 => ?_⟩, ⟨?_, fun k k0 k1 => ?_⟩, ⟨?_, fun k k0 k1 => ?_⟩⟩
  · by_cases hf : f = z 13
    · rw [hf]
      exact ⟨ks.length, hρ3, hl, hfa⟩
    · obtain ⟨q, d1, d2, d3⟩ := a2 f f0 (by omega)
      have hq := at_lt d3.1
      obtain ⟨g1, g2, g3⟩ := d3.mem (hσ q hq (by omega)) (fun h6 => hσ _ (at_lt (d3.2.2 h6).1) (by omega)) (hρ q hq (by omega)) (hk q hq) (fun h6 => hk _ (at_lt (d3.2.2 h6).1))
      have ee : ∀ c : Int, (c = 22 ∨ c = 26 ∨ c = 30 ∨ c = 34 ∨ c = 38 ∨ c = 42) → z1 (c + f) = z (c + f) := fun c hc => he _ (by omega) (by omega) (by omega) (by omega) (by omega) (by omega) (by omega) (by omega)
      refine ⟨q, by rw [show (1 + 1 : Nat) = 2 from rfl, hρ2 f hf]; exact d1, d2, by rw [ee 22 (by omega)]; exact g1, ?_, fun h6 => ?_⟩
      · unfold FZ at *
        rw [ee 22 (by omega), ee 26 (by omega), ee 30 (by omega), ee 34 (by omega), ee 38 (by omega), ee 42 (by omega)]
        exact g2
      · rw [ee 22 (by omega)] at h6
        obtain ⟨t1, t2, t3⟩ := g3 h6
        exact ⟨t1, t2, fun k k0 k1 => by rw [he _ (by omega) (by omega) (by omega) (by omega) (by omega) (by omega) (by omega) (by omega)]; exact t3 k k0 k1⟩
  · have a3' := a3.mem (σ' := σ2) (hσ _ (by omega) (by omega)) (hσ _ (by omega) (by omega)) (hσ _ (by omega) (by omega)) (hσ _ (by omega) (by omega))
    obtain ⟨s1, s2⟩ := a3'
    refine ⟨by rw [hlo 14 (by decide) (by decide)]; exact s1, fun j j0 j1 => ?_⟩
    rw [hlo 14 (by decide) (by decide)] at j1
    rw [hhi _ (by omega), hlo _ (by omega) (by omega), hlo _ (by omega) (by omega)]
    exact s2 j j0 j1
  · rw [hρ 1 (by omega) (by decide)]; exact b1
  · rw [hσ1 _ (by decide), hlo 15 (by decide) (by decide)]; exact a4
  · rw [hσ1 _ (by decide), hlo 19 (by decide) (by decide)]; exact a5.1
  · rw [hlo 19 (by decide) (by decide)] at j1
    rw [hσ _ (by omega) (by decide), hhi _ (by omega)]; exact a5.2 j j0 j1
  · rw [hσ1 _ (by decide), hlo 0 (by decide) (by decide)]; exact a6
  · rw [hσ1 _ (by decide), hlo 21 (by decide) (by decide)]; exact a7
  · rw [hσ1 _ (by decide), hlo 16 (by decide) (by decide)]; exact a8.1
  · rw [hlo 16 (by decide) (by decide)] at k1
    rw [hσ _ (by omega) (by decide), hhi _ (by omega), hhi _ (by omega), hhi _ (by omega)]; exact a8.2 k k0 k1
  · rw [hσ1 _ (by decide), hlo 17 (by decide) (by decide)]; exact a9.1
  · rw [hlo 17 (by decide) (by decide)] at k1
    rw [hσ _ (by omega) (by decide), hhi _ (by omega), hhi _ (by omega)]; exact a9.2 k k0 k1
  · rw [hσ1 _ (by decide), hlo 18 (by decide) (by decide)]; exact a10.1
  · rw [hlo 18 (by decide) (by decide)] at k1
    rw [hσ _ (by omega) (by decide), hhi _ (by omega), hhi _ (by omega), hhi _ (by omega)]; exact a10.2 k k0 k1