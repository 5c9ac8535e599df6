theorem flyF_congr {z z' : zS} (h20 : z' 20 = z 20) (h : ∀ j, 118 ≤ j → z' j = z j) (h0 : -1 ≤ z 20) : flyF z' = flyF z := by
  unfold flyF tellsF
  rw [h20]
  by_cases hm : z 20 = -1
  · simp [hm]
  · simp only [hm, if_false]
    rw [h _ (by omega)]
theorem tells_c2 {z z' : zS} (h20 : z' 20 = z 20) (h : ∀ j, 118 ≤ j → z' j = z j) (h0 : -1 ≤ z 20) {a : Int} (ha : 118 ≤ a) (b : Int) : tellsF z' a b = tellsF z a b := by
  unfold tellsF
  rw [h20]
  split
  · rfl
  · next hm => exact h _ (by omega)
/-- a ROOM's object shows the same row where the ROOM's numbers are the same -/
theorem RmP.row {σ : xM} {ρ : xR} {ks : xKs} {q : Nat} {z z' : zS} (hr : RmP σ ρ ks q z) (h20 : z' 20 = z 20) (h : ∀ j, 118 ≤ j → z' j = z j) (h0 : -1 ≤ z 20) : RmP σ ρ ks q z' := by
  obtain ⟨a1, a2, a3, a4, a5, a6, P, b1, b2, b3⟩ := hr
  refine ⟨a1, ?_, ?_, a4, ?_, ?_, P, b1, ?_, ?_⟩
  · rw [tells_c2 h20 h h0 (by decide)]; exact a2
  · rw [flyF_congr h20 h h0]; exact a3
  · rw [tells_c2 h20 h h0 (by decide)]; exact a5
  · rw [tells_c2 h20 h h0 (by decide)]; exact a6
  · rw [tells_c2 h20 h h0 (by decide)]; exact b2
  · intro i hi
    rw [h20]
    by_cases hm : z 20 = -1
    · obtain ⟨c1, c2, c3, c4, c5⟩ := b3 i hi
      refine ⟨c1, c2, c3, c4, fun hw => ?_⟩
      exfalso
      have hP := P_mono b3 (i + 1) ((σ q 5).toNat - (i + 1)) (by omega)
      rw [show i + 1 + ((σ q 5).toNat - (i + 1)) = (σ q 5).toNat by omega] at hP
      obtain ⟨len, d1, -⟩ := c5 hw
      have : tellsF z 228 0 = 0 := if_pos hm
      omega
    · have hs : ∀ n : Nat, z' (243 + 140 * z 20 + n) = z (243 + 140 * z 20 + n) := fun n => h _ (by omega)
      obtain ⟨c1, c2, c3, c4, c5⟩ := b3 i hi
      refine ⟨c1, c2, c3, c4, fun hw => ?_⟩
      obtain ⟨len, d1, d2, d3, d4, d5, d6, d7⟩ := c5 hw
      refine ⟨len, d1, d2, by rw [hs]; exact d3, fun k hk => by rw [hs]; exact d4 k hk, by rw [lkT_congr hs]; exact d5, by rw [lkT_congr hs]; exact d6, fun k hk => by rw [lkT_congr hs]; exact d7 k hk⟩
theorem RmP.mem {σ σ' : xM} {ρ ρ' : xR} {ks ks' : xKs} {q : Nat} {z : zS} (hr : RmP σ ρ ks q z) (h : ∀ p, q ≤ p → p ≤ q + 5 → σ' p = σ p) (hρ : ρ' q = ρ q) (hks : ∀ p, q ≤ p → p ≤ q + 5 → ks'[p]? = ks[p]?) : RmP σ' ρ' ks' q z := by
  have e0 := h q (by omega) (by omega)
  have e1 := h (q + 1) (by omega) (by omega)
  have e2 := h (q + 2) (by omega) (by omega)
  have e3 := h (q + 3) (by omega) (by omega)
  have e4 := h (q + 4) (by omega) (by omega)
  have e5 := h (q + 5) (by omega) (by omega)
  unfold RmP RmK ClP Ef at *
  rw [hks q (by omega) (by omega), hks (q + 1) (by omega) (by omega), hks (q + 2) (by omega) (by omega), hks (q + 3) (by omega) (by omega), hks (q + 4) (by omega) (by omega), hks (q + 5) (by omega) (by omega)]
  simp only [e0, e1, e2, e3, e4, e5, hρ]
  exact hr
theorem RmP.ne {σ : xM} {ρ : xR} {ks : xKs} {q : Nat} {z : zS} (hr : RmP σ ρ ks q z) {p b : Nat} {n : Nat} (h1 : q ≤ p) (h2 : p ≤ q + 5) (hb : ks[b]? = some (1, n)) (hn : n ≠ 10 ∧ n ≠ 100 ∧ n ≠ 4) : p ≠ b := by
  obtain ⟨⟨a0, ⟨a1, a2, a3, a4, a5⟩, -⟩, -⟩ := hr
  rcases (show p = q ∨ p = q + 1 ∨ p = q + 2 ∨ p = q + 3 ∨ p = q + 4 ∨ p = q + 5 by omega) with rfl | rfl | rfl | rfl | rfl | rfl
  · exact kne a0 hb (by intro h; simp at h)
  · exact kne a1 hb (by intro h; simp at h; omega)
  · exact kne a2 hb (by intro h; simp at h; omega)
  · exact kne a3 hb (by intro h; simp at h; omega)
  · exact kne a4 hb (by intro h; simp at h; omega)
  · exact kne a5 hb (by intro h; simp at h; omega)
/-- what a second of the sitters at s leaves -/
def Sit (σ σ' : xM) (b : Nat) : Prop := ∀ p, p ≠ b + 1 → p ≠ b + 2 → p ≠ b + 3 → p ≠ b + 4 → σ' p = σ p
theorem wr_at (σ : xM) (p : Nat) (k v : Int) : wr σ p k v p = up (σ p) k v := by funext j; unfold wr up; simp
theorem wr_of (σ : xM) {p q : Nat} (h : q ≠ p) (k v : Int) : wr σ p k v q = σ q := by funext j; exact wr_p _ h _ _ _
theorem goP_1 (z : zS) (r on p : Int) (hp : 0 ≤ p ∧ p < 6) : goP z r on p (1 + p) = withinF (if bAnd (bShr r (z (62 + p))) 1 = 1 then htF z (up z (7 + p) (rnF z r p)) p on - clF (up z (7 + p) (rnF z r p)) p on else htF z (up z (7 + p) (rnF z r p)) p on) 0 99 := by unfold goP; rw [up_eq]
theorem goP_7 (z : zS) (r on p : Int) (hp : 0 ≤ p ∧ p < 6) : goP z r on p (7 + p) = rnF z r p := by unfold goP; rw [up_ne _ (by omega), up_eq]
theorem goP_o (z : zS) (r on p : Int) {j : Int} (h1 : j ≠ 1 + p) (h2 : j ≠ 7 + p) : goP z r on p j = z j := by unfold goP; rw [up_ne _ h1, up_ne _ h2]
theorem wmax {x : Int} (h : -100000 ≤ x ∧ x ≤ 100000) : mxI 0 (mnI x 99) = withinF x 0 99 := by unfold mxI mnI withinF; split <;> split <;> (try split) <;> omega
theorem cmax {x : Int} (h : 0 ≤ x ∧ x ≤ 9) : mxI 1 (6 - x) = withinF (6 - x) 1 6 := by unfold mxI withinF; split <;> (try split) <;> (try split) <;> omega
theorem mn_in {x : Int} (h : -100000 ≤ x ∧ x ≤ 100000) : -100000 ≤ mnI x 99 ∧ mnI x 99 ≤ 99 := by unfold mnI; split <;> omega
theorem mx_in {x : Int} (h : 0 ≤ x ∧ x ≤ 9) : 0 ≤ mxI 1 (6 - x) ∧ mxI 1 (6 - x) ≤ 6 := by unfold mxI; split <;> omega
set_option maxHeartbeats 4000000 in
set_option maxRecDepth 100000 in
theorem sit_tail1 {E : xE} {p : Program} {e : Env} {R : Room} {s : State} {m : MethodId} {args : Array Value} {below : List Frame} {meth : Method} {c : Code} {Z : State → Prop} {σ : xM} {ρ : xR} {ks : xKs} (hC : XC E p R s m args meth c cX5_sit RX5 none 8) (hR : xRm R 3 0 0) {q b rq : Nat} (hsk : SK ks ρ q b) {z1 K : zS} (hrm : RmP σ ρ ks rq z1) (hroom : RoomOk z1) (hK : ∀ i, 0 ≤ i → i ≤ 5 → σ (b + 4) i = K i) (hK2 : ∀ i, 0 ≤ i → i ≤ 5 → 0 ≤ K i ∧ K i ≤ 99) {j reached on t : Int} (hj : 0 ≤ j ∧ j < 6) (hh : 0 ≤ σ (b + 1) j ∧ σ (b + 1) j ≤ 99) (hr : 0 ≤ σ (b + 2) j ∧ σ (b + 2) j ≤ 9) (kk : X E p e R s m args below meth c Z 0 0 (wr σ (b + 1) j (withinF (σ (b + 1) j + (if tellsF z1 233 0 = 1 then warmF z1 K else 2) - (if tellsF z1 238 0 = 1 then coolF z1 K else withinF (6 - σ (b + 2) j) 1 6)) 0 99)) ρ ks 3 [some (.ref q), some (.ref rq), some (.int (iI reached)), some (.int (iI on)), some (.int (iI t)), some (.int (iI (j + 1))), none, none] []) : X E p e R s m args below meth c Z 0 0 σ ρ ks 148 [some (.ref q), some (.ref rq), some (.int (iI reached)), some (.int (iI on)), some (.int (iI t)), some (.int (iI j)), some (.int (iI 1)), none] [] := by
  obtain ⟨ko, ⟨kb0, kb1, kb2, kb3, kb4⟩, r0, r1, r2, r3, r4⟩ := id hsk
  have kr0 := hrm.1.1
  have hwm := (warm_in hroom K).1
  have hcm := (warm_in hroom K).2
  refine x_aload_n (pc := 148) hC dX5_sit_148 rfl ?_
  refine x_getr (K := 1) (pc := 149) hC fX5_15_5 (by assumption) dX5_sit_149 rfl rfl (by assumption) ?_
  refine x_iload (pc := 152) hC dX5_sit_152 rfl ?_
  refine x_iald (pc := 154) hC (by assumption) (by omega) dX5_sit_154 ?_
  refine x_aload_n (pc := 155) hC dX5_sit_155 rfl ?_
  refine x_iconst (pc := 156) hC dX5_sit_156 ?_
  refine x_iconst (pc := 157) hC dX5_sit_157 ?_
  refine x_aload_n (pc := 158) hC dX5_sit_158 rfl ?_
  refine x_getr (K := 4) (pc := 159) hC fX5_24_5 (by assumption) dX5_sit_159 rfl rfl (by assumption) ?_
  refine x_callV1 (As := [_, _, _]) (Bs := [_, _, _]) (pc := 162) hC (c_sumOf2 E hrm hroom kb4 hK hK2) wX5_45_4 pX4_sumOf (by assumption) rfl rfl (by exact Nat.le_of_ble_eq_true rfl) hR (by decide) (by decide) (by decide) rfl dX5_sit_162 ?_
  have hwr : 0 ≤ (if tellsF z1 233 0 = 1 then warmF z1 K else 2) ∧ (if tellsF z1 233 0 = 1 then warmF z1 K else 2) ≤ 60000 := by split <;> omega
  generalize hWV : (if tellsF z1 233 0 = 1 then warmF z1 K else 2) = wv at hwr kk ⊢
  refine x_iadd (pc := 165) hC dX5_sit_165 ?_
  refine x_istore (L' := [_, _, _, _, _, _, _, _]) (pc := 166) hC dX5_sit_166 rfl rfl ?_
  refine x_iload (pc := 168) hC dX5_sit_168 rfl ?_
  refine x_if_eq (tgt := 201) (pc := 170) hC (by omega) dX5_sit_170 (by decide) (fun c170 => by (exfalso; omega)) (fun c170 => ?_)
  refine x_iload (pc := 173) hC dX5_sit_173 rfl ?_
  refine x_aload_n (pc := 175) hC dX5_sit_175 rfl ?_
  refine x_iconst (pc := 176) hC dX5_sit_176 ?_
  refine x_iconst (pc := 177) hC dX5_sit_177 ?_
  refine x_bipush (pc := 178) hC dX5_sit_178 (by decide +kernel) ?_
  refine x_aload_n (pc := 180) hC dX5_sit_180 rfl ?_
  refine x_getr (K := 2) (pc := 181) hC fX5_18_5 (by assumption) dX5_sit_181 rfl rfl (by assumption) ?_
  refine x_iload (pc := 184) hC dX5_sit_184 rfl ?_
  refine x_iald (pc := 186) hC (by assumption) (by omega) dX5_sit_186 ?_
  refine x_isub (pc := 187) hC dX5_sit_187 ?_
  refine x_max (pc := 188) hC wX5_49 hR (by decide) (by decide) rfl (by exact Nat.le_of_ble_eq_true rfl) (by first | omega | exact ⟨by omega, by omega⟩) (by first | omega | exact ⟨by omega, by omega⟩) dX5_sit_188 ?_
  rw [cmax hr]
  refine x_aload_n (pc := 191) hC dX5_sit_191 rfl ?_
  refine x_getr (K := 4) (pc := 192) hC fX5_24_5 (by assumption) dX5_sit_192 rfl rfl (by assumption) ?_
  refine x_callV1 (As := [_, _, _]) (Bs := [_, _, _]) (pc := 195) hC (c_sumOf3 E hrm hroom kb4 hK hK2) wX5_45_4 pX4_sumOf (by assumption) rfl rfl (by exact Nat.le_of_ble_eq_true rfl) hR (by decide) (by decide) (by decide) rfl dX5_sit_195 ?_
  have hcr : 0 ≤ (if tellsF z1 238 0 = 1 then coolF z1 K else withinF (6 - σ (b + 2) j) 1 6) ∧ (if tellsF z1 238 0 = 1 then coolF z1 K else withinF (6 - σ (b + 2) j) 1 6) ≤ 60000 := by
    have := within_in (6 - σ (b + 2) j) 1 6 (by decide)
    split <;> omega
  generalize hCV : (if tellsF z1 238 0 = 1 then coolF z1 K else withinF (6 - σ (b + 2) j) 1 6) = cv at hcr kk ⊢
  refine x_isub (pc := 198) hC dX5_sit_198 ?_
  refine x_istore (L' := [_, _, _, _, _, _, _, _]) (pc := 199) hC dX5_sit_199 rfl rfl ?_
  refine x_aload_n (pc := 201) hC dX5_sit_201 rfl ?_
  refine x_getr (K := 1) (pc := 202) hC fX5_15_5 (by assumption) dX5_sit_202 rfl rfl (by assumption) ?_
  refine x_iload (pc := 205) hC dX5_sit_205 rfl ?_
  refine x_iconst (pc := 207) hC dX5_sit_207 ?_
  refine x_iload (pc := 208) hC dX5_sit_208 rfl ?_
  refine x_bipush (pc := 210) hC dX5_sit_210 (by decide +kernel) ?_
  refine x_min (pc := 212) hC wX5_37 hR (by decide) (by decide) rfl (by exact Nat.le_of_ble_eq_true rfl) (by omega) (by omega) dX5_sit_212 ?_
  have hmn := mn_in (x := σ (b + 1) j + wv - cv) (by omega)
  refine x_max (pc := 215) hC wX5_49 hR (by decide) (by decide) rfl (by exact Nat.le_of_ble_eq_true rfl) (by omega) (by omega) dX5_sit_215 ?_
  rw [wmax (by omega)]
  refine x_iast (pc := 218) hC (by assumption) (by omega) dX5_sit_218 ?_
  refine x_iinc (L' := [_, _, _, _, _, _, _, _]) (pc := 219) hC dX5_sit_219 rfl rfl rfl ?_
  refine x_goto (tgt := 3) (pc := 222) hC dX5_sit_222 (by decide) ?_
  refine X.drop (xLe_s (xLe_s (xLe_s (xLe_s (xLe_s (xLe_s (xLe_n (xLe_n xLe_0)))))))) kk

set_option maxHeartbeats 4000000 in
set_option maxRecDepth 100000 in
theorem sit_tail0 {E : xE} {p : Program} {e : Env} {R : Room} {s : State} {m : MethodId} {args : Array Value} {below : List Frame} {meth : Method} {c : Code} {Z : State → Prop} {σ : xM} {ρ : xR} {ks : xKs} (hC : XC E p R s m args meth c cX5_sit RX5 none 8) (hR : xRm R 3 0 0) {q b rq : Nat} (hsk : SK ks ρ q b) {z1 K : zS} (hrm : RmP σ ρ ks rq z1) (hroom : RoomOk z1) (hK : ∀ i, 0 ≤ i → i ≤ 5 → σ (b + 4) i = K i) (hK2 : ∀ i, 0 ≤ i → i ≤ 5 → 0 ≤ K i ∧ K i ≤ 99) {j reached on t : Int} (hj : 0 ≤ j ∧ j < 6) (hh : 0 ≤ σ (b + 1) j ∧ σ (b + 1) j ≤ 99) (hr : 0 ≤ σ (b + 2) j ∧ σ (b + 2) j ≤ 9) (kk : X E p e R s m args below meth c Z 0 0 (wr σ (b + 1) j (withinF (σ (b + 1) j + (if tellsF z1 233 0 = 1 then warmF z1 K else 2)) 0 99)) ρ ks 3 [some (.ref q), some (.ref rq), some (.int (iI reached)), some (.int (iI on)), some (.int (iI t)), some (.int (iI (j + 1))), none, none] []) : X E p e R s m args below meth c Z 0 0 σ ρ ks 148 [some (.ref q), some (.ref rq), some (.int (iI reached)), some (.int (iI on)), some (.int (iI t)), some (.int (iI j)), some (.int (iI 0)), none] [] := by
  obtain ⟨ko, ⟨kb0, kb1, kb2, kb3, kb4⟩, r0, r1, r2, r3, r4⟩ := id hsk
  have kr0 := hrm.1.1
  have hwm := (warm_in hroom K).1
  have hcm := (warm_in hroom K).2
  refine x_aload_n (pc := 148) hC dX5_sit_148 rfl ?_
  refine x_getr (K := 1) (pc := 149) hC fX5_15_5 (by assumption) dX5_sit_149 rfl rfl (by assumption) ?_
  refine x_iload (pc := 152) hC dX5_sit_152 rfl ?_
  refine x_iald (pc := 154) hC (by assumption) (by omega) dX5_sit_154 ?_
  refine x_aload_n (pc := 155) hC dX5_sit_155 rfl ?_
  refine x_iconst (pc := 156) hC dX5_sit_156 ?_
  refine x_iconst (pc := 157) hC dX5_sit_157 ?_
  refine x_aload_n (pc := 158) hC dX5_sit_158 rfl ?_
  refine x_getr (K := 4) (pc := 159) hC fX5_24_5 (by assumption) dX5_sit_159 rfl rfl (by assumption) ?_
  refine x_callV1 (As := [_, _, _]) (Bs := [_, _, _]) (pc := 162) hC (c_sumOf2 E hrm hroom kb4 hK hK2) wX5_45_4 pX4_sumOf (by assumption) rfl rfl (by exact Nat.le_of_ble_eq_true rfl) hR (by decide) (by decide) (by decide) rfl dX5_sit_162 ?_
  have hwr : 0 ≤ (if tellsF z1 233 0 = 1 then warmF z1 K else 2) ∧ (if tellsF z1 233 0 = 1 then warmF z1 K else 2) ≤ 60000 := by split <;> omega
  generalize hWV : (if tellsF z1 233 0 = 1 then warmF z1 K else 2) = wv at hwr kk ⊢
  refine x_iadd (pc := 165) hC dX5_sit_165 ?_
  refine x_istore (L' := [_, _, _, _, _, _, _, _]) (pc := 166) hC dX5_sit_166 rfl rfl ?_
  refine x_iload (pc := 168) hC dX5_sit_168 rfl ?_
  refine x_if_eq (tgt := 201) (pc := 170) hC (by omega) dX5_sit_170 (by decide) (fun c170 => ?_) (fun c170 => by (exfalso; omega))
  refine x_aload_n (pc := 201) hC dX5_sit_201 rfl ?_
  refine x_getr (K := 1) (pc := 202) hC fX5_15_5 (by assumption) dX5_sit_202 rfl rfl (by assumption) ?_
  refine x_iload (pc := 205) hC dX5_sit_205 rfl ?_
  refine x_iconst (pc := 207) hC dX5_sit_207 ?_
  refine x_iload (pc := 208) hC dX5_sit_208 rfl ?_
  refine x_bipush (pc := 210) hC dX5_sit_210 (by decide +kernel) ?_
  refine x_min (pc := 212) hC wX5_37 hR (by decide) (by decide) rfl (by exact Nat.le_of_ble_eq_true rfl) (by omega) (by omega) dX5_sit_212 ?_
  have hmn := mn_in (x := σ (b + 1) j + wv) (by omega)
  refine x_max (pc := 215) hC wX5_49 hR (by decide) (by decide) rfl (by exact Nat.le_of_ble_eq_true rfl) (by omega) (by omega) dX5_sit_215 ?_
  rw [wmax (by omega)]
  refine x_iast (pc := 218) hC (by assumption) (by omega) dX5_sit_218 ?_
  refine x_iinc (L' := [_, _, _, _, _, _, _, _]) (pc := 219) hC dX5_sit_219 rfl rfl rfl ?_
  refine x_goto (tgt := 3) (pc := 222) hC dX5_sit_222 (by decide) ?_
  refine X.drop (xLe_s (xLe_s (xLe_s (xLe_s (xLe_s (xLe_s (xLe_n (xLe_n xLe_0)))))))) kk

set_option maxHeartbeats 4000000 in
set_option maxRecDepth 100000 in
theorem c_sit (E : xE) {σ : xM} {ρ : xR} {ks : xKs} {q b : Nat} {z : zS} (hsk : SK ks ρ q b) (hsz : SZ σ q b z) (hsit : SitOk z) {rq : Nat} (hrm : RmP σ ρ ks rq z) (hroom : RoomOk z) {reached on t : Int} (hon : 0 ≤ on ∧ on ≤ 4) (ht0 : z 0 = t) (htr : 0 ≤ t ∧ t < 1000000) : Sp E yX5_sit kX5_sit 3 0 0 [.ref q, .ref rq, .int (iI reached), .int (iI on), .int (iI t)] σ ρ ks (fun r σ' ρ' ks' => r = none ∧ ρ' = ρ ∧ ks' = ks ∧ Sit σ σ' b ∧ SZ σ' q b (goesF z reached on (z 14).toNat) ∧ σ' (b + 3) = metsF z reached (σ (b + 3)) (z 14).toNat) := by
  obtain ⟨ko, ⟨kb0, kb1, kb2, kb3, kb4⟩, r0, r1, r2, r3, r4⟩ := id hsk
  obtain ⟨z5, zs⟩ := id hsz
  have hs14 := hsit.1
  have hqb : q ≠ b := kne ko kb0 (by decide)
  have hqb1 : q ≠ b + 1 := kne ko kb1 (by decide)
  have hqb2 : q ≠ b + 2 := kne ko kb2 (by decide)
  have hqb3 : q ≠ b + 3 := kne ko kb3 (by decide)
  have hqb4 : q ≠ b + 4 := kne ko kb4 (by decide)
  refine x_enter (own := RX5) (L := [_, _, _, _, _, _, _, _]) (by decide +kernel) rfl (by exact Nat.le_of_ble_eq_true rfl) rfl (fun p e R s m args below meth c Z hZ hC hR hin => ?_)
  have loop : ∀ (n k : Nat) (j : Int) (σ' : xM), j = k → (k : Int) + n = z 14 → Sit σ σ' b → SZ σ' q b (goesF z reached on k) → σ' (b + 3) = metsF z reached (σ (b + 3)) k → X E p e R s m args below meth c Z 0 0 σ' ρ ks 3 [some (.ref q), some (.ref rq), some (.int (iI reached)), some (.int (iI on)), some (.int (iI t)), some (.int (iI j)), none, none] [] := by
    intro n
    induction n with
    | zero =>
      intro k j σ' hj hn hfr hszk hmm
      have h14 := goesF_hi z reached on (j := 14) (Or.inl (by decide)) k (by omega)
      obtain ⟨z5, zs⟩ := id hszk
      refine x_iload (pc := 3) hC dX5_sit_3 rfl ?_
      refine x_aload_n (pc := 5) hC dX5_sit_5 rfl ?_
      refine x_geti (K := 5) (pc := 6) hC fX5_27_5 (by assumption) dX5_sit_6 rfl rfl ?_
      refine x_icmp_ge (tgt := 225) (pc := 9) hC (by omega) (by omega) dX5_sit_9 (by decide) (fun c9 => ?_) (fun c9 => by (exfalso; omega))
      refine x_return hC hZ dX5_sit_225 (by decide) (by decide) ?_
      refine ⟨rfl, rfl, rfl, hfr, ?_, ?_⟩
      · rw [show (z 14).toNat = k by omega]; exact hszk
      · rw [show (z 14).toNat = k by omega]; exact hmm
    | succ n ih =>
      intro k j σ' hj hn hfr hszk hmm
      have h14 := goesF_hi z reached on (j := 14) (Or.inl (by decide)) k (by omega)
      obtain ⟨zk, hzk⟩ : ∃ zk, zk = goesF z reached on k := ⟨_, rfl⟩
      have hz62 : z (62 + j) = zk (62 + j) := by rw [hzk]; exact (goesF_hi z reached on (j := 62 + j) (Or.inl (by omega)) k (by omega)).symm
      have hsitk : SitOk zk := by rw [hzk]; exact goesF_ok hsit reached on k (by omega)
      have hhi : ∀ i, 13 ≤ i → zk i = z i := fun i hi => by rw [hzk]; exact goesF_hi z reached on (Or.inl hi) k (by omega)
      have hroomk : RoomOk zk := hroom.congr hhi
      have hgk : goesF z reached on (k + 1) = goP zk reached on j := by rw [hzk, hj]; rfl
      have hj6 : 0 ≤ j ∧ j < 6 := by omega
      rw [← hzk] at hszk h14
      obtain ⟨z5, zs⟩ := id hszk
      obtain ⟨e0, e1, e2⟩ := zs j (by omega) (by omega)
      obtain ⟨hp1, hp2, hp3⟩ := hsitk.2 j (by omega) (by omega)
      have ht : zk 0 = t := by rw [hzk, goesF_hi z reached on (Or.inr (by decide)) k (by omega)]; exact ht0
      have hrmk : RmP σ' ρ ks rq zk := (hrm.mem (σ' := σ') (fun p h1 h2 => hfr p (hrm.ne h1 h2 kb1 (by decide)) (hrm.ne h1 h2 kb2 (by decide)) (hrm.ne h1 h2 kb3 (by decide)) (hrm.ne h1 h2 kb4 (by decide))) rfl (fun _ _ _ => rfl)).row (hhi _ (by decide)) (fun i hi => hhi i (by omega)) hroom.1.1
      refine x_iload (pc := 3) hC dX5_sit_3 rfl ?_
      refine x_aload_n (pc := 5) hC dX5_sit_5 rfl ?_
      refine x_geti (K := 5) (pc := 6) hC fX5_27_5 (by assumption) dX5_sit_6 rfl rfl ?_
      refine x_icmp_ge (tgt := 225) (pc := 9) hC (by omega) (by omega) dX5_sit_9 (by decide) (fun c9 => by (exfalso; omega)) (fun c9 => ?_)
      refine x_iload_n (pc := 12) hC dX5_sit_12 rfl ?_
      refine x_aload_n (pc := 13) hC dX5_sit_13 rfl ?_
      refine x_getr (K := 0) (pc := 14) hC fX5_9_5 (by assumption) dX5_sit_14 rfl rfl (by assumption) ?_
      refine x_iload (pc := 17) hC dX5_sit_17 rfl ?_
      refine x_iald (pc := 19) hC (by assumption) (by omega) dX5_sit_19 ?_
      rw [e0]
      refine x_ishr (pc := 20) hC dX5_sit_20 ?_
      refine x_iconst (pc := 21) hC dX5_sit_21 ?_
      refine x_iand (pc := 22) hC dX5_sit_22 ?_
      refine x_iconst (pc := 23) hC dX5_sit_23 ?_
      refine x_icmp_ne (tgt := 31) (pc := 24) hC (by first | omega | exact rg_of _) (by first | omega | exact rg_of _) dX5_sit_24 (by decide) (fun c24 => ?_) (fun c24 => ?_)
      · refine x_iconst (pc := 31) hC dX5_sit_31 ?_
        refine x_istore (L' := [_, _, _, _, _, _, _, _]) (pc := 32) hC dX5_sit_32 rfl rfl ?_
        have hmet : ¬ bAnd (bShr reached (zk (62 + j))) 1 = 1 := by omega
        have hrn : (0 : Int) = rnF zk reached j := by unfold rnF; rw [if_neg hmet]
        refine x_aload_n (pc := 34) hC dX5_sit_34 rfl ?_
        refine x_getr (K := 2) (pc := 35) hC fX5_18_5 (by assumption) dX5_sit_35 rfl rfl (by assumption) ?_
        refine x_iload (pc := 38) hC dX5_sit_38 rfl ?_
        refine x_iload (pc := 40) hC dX5_sit_40 rfl ?_
        refine x_if_eq (tgt := 62) (pc := 42) hC (by omega) dX5_sit_42 (by decide) (fun c42 => ?_) (fun c42 => by (exfalso; omega))
        refine x_iconst (pc := 62) hC dX5_sit_62 ?_
        refine x_iast (pc := 63) hC (by assumption) (by omega) dX5_sit_63 ?_
        refine x_iload (pc := 64) hC dX5_sit_64 rfl ?_
        refine x_if_eq (tgt := 80) (pc := 66) hC (by omega) dX5_sit_66 (by decide) (fun c66 => ?_) (fun c66 => by (exfalso; omega))
        refine x_aload_n (pc := 80) hC dX5_sit_80 rfl ?_
        refine x_getr (K := 4) (pc := 81) hC fX5_24_5 (by assumption) dX5_sit_81 rfl rfl (by assumption) ?_
        refine x_iconst (pc := 84) hC dX5_sit_84 ?_
        refine x_iload (pc := 85) hC dX5_sit_85 rfl ?_
        refine x_iast (pc := 87) hC (by assumption) (by omega) dX5_sit_87 ?_
        refine x_aload_n (pc := 88) hC dX5_sit_88 rfl ?_
        refine x_getr (K := 4) (pc := 89) hC fX5_24_5 (by assumption) dX5_sit_89 rfl rfl (by assumption) ?_
        refine x_iconst (pc := 92) hC dX5_sit_92 ?_
        refine x_aload_n (pc := 93) hC dX5_sit_93 rfl ?_
        refine x_getr (K := 0) (pc := 94) hC fX5_9_5 (by assumption) dX5_sit_94 rfl rfl (by assumption) ?_
        refine x_iload (pc := 97) hC dX5_sit_97 rfl ?_
        refine x_iald (pc := 99) hC (by assumption) (by omega) dX5_sit_99 ?_
        simp (disch := omega) only [wr_p]
        rw [e0]
        refine x_iast (pc := 100) hC (by assumption) (by omega) dX5_sit_100 ?_
        refine x_aload_n (pc := 101) hC dX5_sit_101 rfl ?_
        refine x_getr (K := 4) (pc := 102) hC fX5_24_5 (by assumption) dX5_sit_102 rfl rfl (by assumption) ?_
        refine x_iconst (pc := 105) hC dX5_sit_105 ?_
        refine x_aload_n (pc := 106) hC dX5_sit_106 rfl ?_
        refine x_getr (K := 1) (pc := 107) hC fX5_15_5 (by assumption) dX5_sit_107 rfl rfl (by assumption) ?_
        refine x_iload (pc := 110) hC dX5_sit_110 rfl ?_
        refine x_iald (pc := 112) hC (by assumption) (by omega) dX5_sit_112 ?_
        simp (disch := omega) only [wr_p]
        rw [e1]
        refine x_bipush (pc := 113) hC dX5_sit_113 (by decide +kernel) ?_
        refine x_idiv (pc := 115) hC (by omega) dX5_sit_115 ?_
        refine x_iast (pc := 116) hC (by assumption) (by omega) dX5_sit_116 ?_
        refine x_aload_n (pc := 117) hC dX5_sit_117 rfl ?_
        refine x_getr (K := 4) (pc := 118) hC fX5_24_5 (by assumption) dX5_sit_118 rfl rfl (by assumption) ?_
        refine x_iconst (pc := 121) hC dX5_sit_121 ?_
        refine x_aload_n (pc := 122) hC dX5_sit_122 rfl ?_
        refine x_getr (K := 2) (pc := 123) hC fX5_18_5 (by assumption) dX5_sit_123 rfl rfl (by assumption) ?_
        refine x_iload (pc := 126) hC dX5_sit_126 rfl ?_
        refine x_iald (pc := 128) hC (by assumption) (by omega) dX5_sit_128 ?_
        simp (disch := omega) only [wr_p, wr_eq]
        refine x_iast (pc := 129) hC (by assumption) (by omega) dX5_sit_129 ?_
        refine x_aload_n (pc := 130) hC dX5_sit_130 rfl ?_
        refine x_getr (K := 4) (pc := 131) hC fX5_24_5 (by assumption) dX5_sit_131 rfl rfl (by assumption) ?_
        refine x_iconst (pc := 134) hC dX5_sit_134 ?_
        refine x_iload (pc := 135) hC dX5_sit_135 rfl ?_
        refine x_bipush (pc := 137) hC dX5_sit_137 (by decide +kernel) ?_
        refine x_irem (pc := 139) hC (by omega) dX5_sit_139 ?_
        refine x_iast (pc := 140) hC (by assumption) (by omega) dX5_sit_140 ?_
        refine x_aload_n (pc := 141) hC dX5_sit_141 rfl ?_
        refine x_getr (K := 4) (pc := 142) hC fX5_24_5 (by assumption) dX5_sit_142 rfl rfl (by assumption) ?_
        refine x_iconst (pc := 145) hC dX5_sit_145 ?_
        refine x_iload_n (pc := 146) hC dX5_sit_146 rfl ?_
        refine x_iast (pc := 147) hC (by assumption) (by omega) dX5_sit_147 ?_
        refine X.gen (P := fun σ3 => (∀ p, p ≠ b + 2 → p ≠ b + 3 → p ≠ b + 4 → σ3 p = σ' p) ∧ σ3 (b + 2) = up (σ' (b + 2)) j (rnF zk reached j) ∧ σ3 (b + 3) = σ' (b + 3) ∧ ∀ i, 0 ≤ i → i ≤ 5 → σ3 (b + 4) i = byF (up zk (7 + j) (rnF zk reached j)) j on i) ⟨fun p h2 h3 h4 => ?_, ?_, ?_, fun i h0 h5 => ?_⟩ (fun σ3 hσ3 => ?_)
        · simp only [wr_of _ h4, wr_of _ h3, wr_of _ h2]
        · simp (disch := omega) only [wr_of, wr_at]
          rw [hrn]
        · simp (disch := omega) only [wr_of, wr_at]
        · rcases (show i = 0 ∨ i = 1 ∨ i = 2 ∨ i = 3 ∨ i = 4 ∨ i = 5 by omega) with rfl | rfl | rfl | rfl | rfl | rfl
          · simp (disch := omega) only [wr_eq, wr_k]; rfl
          · simp (disch := omega) only [wr_eq, wr_k]; unfold byF; rw [if_neg (by decide), if_pos rfl, up_ne _ (by omega)]
          · simp (disch := omega) only [wr_eq, wr_k]; unfold byF; rw [if_neg (by decide), if_neg (by decide), if_pos rfl, up_ne _ (by omega)]
          · simp (disch := omega) only [wr_eq, wr_k]; unfold byF; rw [if_neg (by decide), if_neg (by decide), if_neg (by decide), if_pos rfl, up_eq]; exact hrn
          · simp (disch := omega) only [wr_eq, wr_k]; unfold byF; rw [if_neg (by decide), if_neg (by decide), if_neg (by decide), if_neg (by decide), if_pos rfl, up_ne _ (by omega), ht]
          · simp (disch := omega) only [wr_eq]; unfold byF; rw [if_neg (by decide), if_neg (by decide), if_neg (by decide), if_neg (by decide), if_neg (by decide)]
        obtain ⟨s1, s2, s3, s4⟩ := hσ3
        have hz3 : ∀ i, i ≠ 7 + j → up zk (7 + j) (rnF zk reached j) i = zk i := fun i hi => up_ne _ hi _
        have hrm3 : RmP σ3 ρ ks rq (up zk (7 + j) (rnF zk reached j)) := (hrmk.mem (σ' := σ3) (fun p h1 h2 => s1 p (hrmk.ne h1 h2 kb2 (by decide)) (hrmk.ne h1 h2 kb3 (by decide)) (hrmk.ne h1 h2 kb4 (by decide))) rfl (fun _ _ _ => rfl)).row (hz3 _ (by omega)) (fun i hi => hz3 i (by omega)) hroomk.1.1
        have hroom3 : RoomOk (up zk (7 + j) (rnF zk reached j)) := hroomk.congr (fun i hi => hz3 i (by omega))
        have hK2 : ∀ i, 0 ≤ i → i ≤ 5 → 0 ≤ byF (up zk (7 + j) (rnF zk reached j)) j on i ∧ byF (up zk (7 + j) (rnF zk reached j)) j on i ≤ 99 := fun i _ _ => by
          have := byF_in (z := up zk (7 + j) (rnF zk reached j)) (p := j) (on := on) (by omega) (by rw [hz3 _ (by omega)]; exact hp1) (by rw [hz3 _ (by omega)]; exact hp2) (by rw [up_eq]; exact rnF_in) hon i
          omega
        have hwm := (warm_in hroom3 (byF (up zk (7 + j) (rnF zk reached j)) j on)).1
        have hcm := (warm_in hroom3 (byF (up zk (7 + j) (rnF zk reached j)) j on)).2
        have hrr := rnF_in (z := zk) (r := reached) (p := j)
        have hx1 : σ3 (b + 1) j = zk (1 + j) := by rw [s1 (b + 1) (by omega) (by omega) (by omega)]; exact e1
        refine sit_tail0 hC hR hsk hrm3 hroom3 s4 hK2 ⟨by omega, by omega⟩ (by rw [hx1]; exact hp2) (by rw [s2, up_eq]; exact hrr) ?_
        refine ih (k + 1) (j + 1) _ (by omega) (by omega) (fun p h1 h2 h3 h4 => ?_) ⟨?_, fun i i0 i1 => ?_⟩ ?_
        · rw [wr_of _ h1, s1 p h2 h3 h4]; exact hfr p h1 h2 h3 h4
        · rw [wr_of _ hqb1, s1 q hqb2 hqb3 hqb4, hgk]
          exact z5.trans (goP_hi _ _ _ hj6 (Or.inl (by decide))).symm
        · rw [hgk] at i1 ⊢
          rw [goP_hi _ _ _ hj6 (Or.inl (by decide))] at i1
          obtain ⟨y0, y1, y2⟩ := zs i i0 i1
          have hi6 : 0 ≤ i ∧ i < 6 := ⟨i0, by have := hsitk.1; omega⟩
          rw [wr_of _ (by omega), s1 b (by omega) (by omega) (by omega), wr_of _ (by omega : b + 2 ≠ b + 1), s2, wr_at]
          refine ⟨?_, ?_, ?_⟩
          · rw [goP_hi _ _ _ hj6 (Or.inl (by omega))]; exact y0
          · by_cases hij : i = j
            · subst hij
              rw [up_eq, goP_1 _ _ _ _ hj6, if_neg hmet]
              unfold htF
              rw [hx1]
            · rw [up_ne _ hij, goP_o _ _ _ _ (by omega) (by omega), s1 (b + 1) (by omega) (by omega) (by omega)]; exact y1
          · by_cases hij : i = j
            · subst hij; rw [up_eq, goP_7 _ _ _ _ hj6]
            · rw [up_ne _ hij, goP_o _ _ _ _ (by omega) (by omega)]; exact y2
        · rw [wr_of _ (by omega), s3, hmm]
          show _ = up _ _ _
          rw [← hj, hz62, bI_f hmet, Int.add_zero, up_id]
      · refine x_iconst (pc := 27) hC dX5_sit_27 ?_
        refine x_goto (tgt := 32) (pc := 28) hC dX5_sit_28 (by decide) ?_
        refine x_istore (L' := [_, _, _, _, _, _, _, _]) (pc := 32) hC dX5_sit_32 rfl rfl ?_
        have hmet : bAnd (bShr reached (zk (62 + j))) 1 = 1 := by omega
        have hrn : mnI (σ' (b + 2) j + 1) 9 = rnF zk reached j := by unfold rnF; rw [if_pos hmet, within_mn _ (by omega), e2]
        refine x_aload_n (pc := 34) hC dX5_sit_34 rfl ?_
        refine x_getr (K := 2) (pc := 35) hC fX5_18_5 (by assumption) dX5_sit_35 rfl rfl (by assumption) ?_
        refine x_iload (pc := 38) hC dX5_sit_38 rfl ?_
        refine x_iload (pc := 40) hC dX5_sit_40 rfl ?_
        refine x_if_eq (tgt := 62) (pc := 42) hC (by omega) dX5_sit_42 (by decide) (fun c42 => by (exfalso; omega)) (fun c42 => ?_)
        refine x_aload_n (pc := 45) hC dX5_sit_45 rfl ?_
        refine x_getr (K := 2) (pc := 46) hC fX5_18_5 (by assumption) dX5_sit_46 rfl rfl (by assumption) ?_
        refine x_iload (pc := 49) hC dX5_sit_49 rfl ?_
        refine x_iald (pc := 51) hC (by assumption) (by omega) dX5_sit_51 ?_
        refine x_iconst (pc := 52) hC dX5_sit_52 ?_
        refine x_iadd (pc := 53) hC dX5_sit_53 ?_
        refine x_bipush (pc := 54) hC dX5_sit_54 (by decide +kernel) ?_
        refine x_min (pc := 56) hC wX5_37 hR (by decide) (by decide) rfl (by exact Nat.le_of_ble_eq_true rfl) (by omega) (by omega) dX5_sit_56 ?_
        refine x_goto (tgt := 63) (pc := 59) hC dX5_sit_59 (by decide) ?_
        refine x_iast (pc := 63) hC (by assumption) (by omega) dX5_sit_63 ?_
        refine x_iload (pc := 64) hC dX5_sit_64 rfl ?_
        refine x_if_eq (tgt := 80) (pc := 66) hC (by omega) dX5_sit_66 (by decide) (fun c66 => by (exfalso; omega)) (fun c66 => ?_)
        refine x_aload_n (pc := 69) hC dX5_sit_69 rfl ?_
        refine x_getr (K := 3) (pc := 70) hC fX5_21_5 (by assumption) dX5_sit_70 rfl rfl (by assumption) ?_
        refine x_iload (pc := 73) hC dX5_sit_73 rfl ?_
        refine x_dup2 (pc := 75) hC dX5_sit_75 rfl rfl ?_
        refine x_iald (pc := 76) hC (by assumption) (by omega) dX5_sit_76 ?_
        simp (disch := omega) only [wr_p]
        refine x_iconst (pc := 77) hC dX5_sit_77 ?_
        refine x_iadd (pc := 78) hC dX5_sit_78 ?_
        refine x_iast (pc := 79) hC (by assumption) (by omega) dX5_sit_79 ?_
        refine x_aload_n (pc := 80) hC dX5_sit_80 rfl ?_
        refine x_getr (K := 4) (pc := 81) hC fX5_24_5 (by assumption) dX5_sit_81 rfl rfl (by assumption) ?_
        refine x_iconst (pc := 84) hC dX5_sit_84 ?_
        refine x_iload (pc := 85) hC dX5_sit_85 rfl ?_
        refine x_iast (pc := 87) hC (by assumption) (by omega) dX5_sit_87 ?_
        refine x_aload_n (pc := 88) hC dX5_sit_88 rfl ?_
        refine x_getr (K := 4) (pc := 89) hC fX5_24_5 (by assumption) dX5_sit_89 rfl rfl (by assumption) ?_
        refine x_iconst (pc := 92) hC dX5_sit_92 ?_
        refine x_aload_n (pc := 93) hC dX5_sit_93 rfl ?_
        refine x_getr (K := 0) (pc := 94) hC fX5_9_5 (by assumption) dX5_sit_94 rfl rfl (by assumption) ?_
        refine x_iload (pc := 97) hC dX5_sit_97 rfl ?_
        refine x_iald (pc := 99) hC (by assumption) (by omega) dX5_sit_99 ?_
        simp (disch := omega) only [wr_p]
        rw [e0]
        refine x_iast (pc := 100) hC (by assumption) (by omega) dX5_sit_100 ?_
        refine x_aload_n (pc := 101) hC dX5_sit_101 rfl ?_
        refine x_getr (K := 4) (pc := 102) hC fX5_24_5 (by assumption) dX5_sit_102 rfl rfl (by assumption) ?_
        refine x_iconst (pc := 105) hC dX5_sit_105 ?_
        refine x_aload_n (pc := 106) hC dX5_sit_106 rfl ?_
        refine x_getr (K := 1) (pc := 107) hC fX5_15_5 (by assumption) dX5_sit_107 rfl rfl (by assumption) ?_
        refine x_iload (pc := 110) hC dX5_sit_110 rfl ?_
        refine x_iald (pc := 112) hC (by assumption) (by omega) dX5_sit_112 ?_
        simp (disch := omega) only [wr_p]
        rw [e1]
        refine x_bipush (pc := 113) hC dX5_sit_113 (by decide +kernel) ?_
        refine x_idiv (pc := 115) hC (by omega) dX5_sit_115 ?_
        refine x_iast (pc := 116) hC (by assumption) (by omega) dX5_sit_116 ?_
        refine x_aload_n (pc := 117) hC dX5_sit_117 rfl ?_
        refine x_getr (K := 4) (pc := 118) hC fX5_24_5 (by assumption) dX5_sit_118 rfl rfl (by assumption) ?_
        refine x_iconst (pc := 121) hC dX5_sit_121 ?_
        refine x_aload_n (pc := 122) hC dX5_sit_122 rfl ?_
        refine x_getr (K := 2) (pc := 123) hC fX5_18_5 (by assumption) dX5_sit_123 rfl rfl (by assumption) ?_
        refine x_iload (pc := 126) hC dX5_sit_126 rfl ?_
        refine x_iald (pc := 128) hC (by assumption) (by omega) dX5_sit_128 ?_
        simp (disch := omega) only [wr_p, wr_eq]
        refine x_iast (pc := 129) hC (by assumption) (by omega) dX5_sit_129 ?_
        refine x_aload_n (pc := 130) hC dX5_sit_130 rfl ?_
        refine x_getr (K := 4) (pc := 131) hC fX5_24_5 (by assumption) dX5_sit_131 rfl rfl (by assumption) ?_
        refine x_iconst (pc := 134) hC dX5_sit_134 ?_
        refine x_iload (pc := 135) hC dX5_sit_135 rfl ?_
        refine x_bipush (pc := 137) hC dX5_sit_137 (by decide +kernel) ?_
        refine x_irem (pc := 139) hC (by omega) dX5_sit_139 ?_
        refine x_iast (pc := 140) hC (by assumption) (by omega) dX5_sit_140 ?_
        refine x_aload_n (pc := 141) hC dX5_sit_141 rfl ?_
        refine x_getr (K := 4) (pc := 142) hC fX5_24_5 (by assumption) dX5_sit_142 rfl rfl (by assumption) ?_
        refine x_iconst (pc := 145) hC dX5_sit_145 ?_
        refine x_iload_n (pc := 146) hC dX5_sit_146 rfl ?_
        refine x_iast (pc := 147) hC (by assumption) (by omega) dX5_sit_147 ?_
        refine X.gen (P := fun σ3 => (∀ p, p ≠ b + 2 → p ≠ b + 3 → p ≠ b + 4 → σ3 p = σ' p) ∧ σ3 (b + 2) = up (σ' (b + 2)) j (rnF zk reached j) ∧ σ3 (b + 3) = up (σ' (b + 3)) j (σ' (b + 3) j + 1) ∧ ∀ i, 0 ≤ i → i ≤ 5 → σ3 (b + 4) i = byF (up zk (7 + j) (rnF zk reached j)) j on i) ⟨fun p h2 h3 h4 => ?_, ?_, ?_, fun i h0 h5 => ?_⟩ (fun σ3 hσ3 => ?_)
        · simp only [wr_of _ h4, wr_of _ h3, wr_of _ h2]
        · simp (disch := omega) only [wr_of, wr_at]
          rw [hrn]
        · simp (disch := omega) only [wr_of, wr_at]
        · rcases (show i = 0 ∨ i = 1 ∨ i = 2 ∨ i = 3 ∨ i = 4 ∨ i = 5 by omega) with rfl | rfl | rfl | rfl | rfl | rfl
          · simp (disch := omega) only [wr_eq, wr_k]; rfl
          · simp (disch := omega) only [wr_eq, wr_k]; unfold byF; rw [if_neg (by decide), if_pos rfl, up_ne _ (by omega)]
          · simp (disch := omega) only [wr_eq, wr_k]; unfold byF; rw [if_neg (by decide), if_neg (by decide), if_pos rfl, up_ne _ (by omega)]
          · simp (disch := omega) only [wr_eq, wr_k]; unfold byF; rw [if_neg (by decide), if_neg (by decide), if_neg (by decide), if_pos rfl, up_eq]; exact hrn
          · simp (disch := omega) only [wr_eq, wr_k]; unfold byF; rw [if_neg (by decide), if_neg (by decide), if_neg (by decide), if_neg (by decide), if_pos rfl, up_ne _ (by omega), ht]
          · simp (disch := omega) only [wr_eq]; unfold byF; rw [if_neg (by decide), if_neg (by decide), if_neg (by decide), if_neg (by decide), if_neg (by decide)]
        obtain ⟨s1, s2, s3, s4⟩ := hσ3
        have hz3 : ∀ i, i ≠ 7 + j → up zk (7 + j) (rnF zk reached j) i = zk i := fun i hi => up_ne _ hi _
        have hrm3 : RmP σ3 ρ ks rq (up zk (7 + j) (rnF zk reached j)) := (hrmk.mem (σ' := σ3) (fun p h1 h2 => s1 p (hrmk.ne h1 h2 kb2 (by decide)) (hrmk.ne h1 h2 kb3 (by decide)) (hrmk.ne h1 h2 kb4 (by decide))) rfl (fun _ _ _ => rfl)).row (hz3 _ (by omega)) (fun i hi => hz3 i (by omega)) hroomk.1.1
        have hroom3 : RoomOk (up zk (7 + j) (rnF zk reached j)) := hroomk.congr (fun i hi => hz3 i (by omega))
        have hK2 : ∀ i, 0 ≤ i → i ≤ 5 → 0 ≤ byF (up zk (7 + j) (rnF zk reached j)) j on i ∧ byF (up zk (7 + j) (rnF zk reached j)) j on i ≤ 99 := fun i _ _ => by
          have := byF_in (z := up zk (7 + j) (rnF zk reached j)) (p := j) (on := on) (by omega) (by rw [hz3 _ (by omega)]; exact hp1) (by rw [hz3 _ (by omega)]; exact hp2) (by rw [up_eq]; exact rnF_in) hon i
          omega
        have hwm := (warm_in hroom3 (byF (up zk (7 + j) (rnF zk reached j)) j on)).1
        have hcm := (warm_in hroom3 (byF (up zk (7 + j) (rnF zk reached j)) j on)).2
        have hrr := rnF_in (z := zk) (r := reached) (p := j)
        have hx1 : σ3 (b + 1) j = zk (1 + j) := by rw [s1 (b + 1) (by omega) (by omega) (by omega)]; exact e1
        refine sit_tail1 hC hR hsk hrm3 hroom3 s4 hK2 ⟨by omega, by omega⟩ (by rw [hx1]; exact hp2) (by rw [s2, up_eq]; exact hrr) ?_
        refine ih (k + 1) (j + 1) _ (by omega) (by omega) (fun p h1 h2 h3 h4 => ?_) ⟨?_, fun i i0 i1 => ?_⟩ ?_
        · rw [wr_of _ h1, s1 p h2 h3 h4]; exact hfr p h1 h2 h3 h4
        · rw [wr_of _ hqb1, s1 q hqb2 hqb3 hqb4, hgk]
          exact z5.trans (goP_hi _ _ _ hj6 (Or.inl (by decide))).symm
        · rw [hgk] at i1 ⊢
          rw [goP_hi _ _ _ hj6 (Or.inl (by decide))] at i1
          obtain ⟨y0, y1, y2⟩ := zs i i0 i1
          have hi6 : 0 ≤ i ∧ i < 6 := ⟨i0, by have := hsitk.1; omega⟩
          rw [wr_of _ (by omega), s1 b (by omega) (by omega) (by omega), wr_of _ (by omega : b + 2 ≠ b + 1), s2, wr_at]
          refine ⟨?_, ?_, ?_⟩
          · rw [goP_hi _ _ _ hj6 (Or.inl (by omega))]; exact y0
          · by_cases hij : i = j
            · subst hij
              rw [up_eq, goP_1 _ _ _ _ hj6, if_pos hmet]
              unfold htF clF
              rw [hx1, up_eq, up_eq]
            · rw [up_ne _ hij, goP_o _ _ _ _ (by omega) (by omega), s1 (b + 1) (by omega) (by omega) (by omega)]; exact y1
          · by_cases hij : i = j
            · subst hij; rw [up_eq, goP_7 _ _ _ _ hj6]
            · rw [up_ne _ hij, goP_o _ _ _ _ (by omega) (by omega)]; exact y2
        · rw [wr_of _ (by omega), s3, hmm]
          show _ = up _ _ _
          rw [← hj, hz62, bI_t hmet]
  refine x_iconst (pc := 0) hC dX5_sit_0 ?_
  refine x_istore (L' := [_, _, _, _, _, _, _, _]) (pc := 1) hC dX5_sit_1 rfl rfl ?_
  exact loop (z 14).toNat 0 0 σ rfl (by omega) (fun _ _ _ _ _ => rfl) hsz rfl
