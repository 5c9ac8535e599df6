/-! THE LAW'S START -/
theorem z0R_v : z0R 20 = -1 ∧ ∀ j, j ≠ 20 → z0R j = 0 := ⟨up_eq _ _ _, fun j hj => up_ne _ hj _⟩
theorem z0R_inv : Inv z0R := by
  obtain ⟨e20, e⟩ := z0R_v
  have ht : ∀ a b, tellsF z0R a b = b := fun a b => if_pos e20
  have e0 := e 0 (by decide)
  have e13 := e 13 (by decide)
  have e14 := e 14 (by decide)
  have e15 := e 15 (by decide)
  have e16 := e 16 (by decide)
  have e17 := e 17 (by decide)
  have e18 := e 18 (by decide)
  have e19 := e 19 (by decide)
  have e21 := e 21 (by decide)
  refine ⟨⟨⟨by omega, fun f f0 f1 => by omega⟩, ⟨by omega, fun q q0 q1 => ?_⟩, ?_, by omega⟩, ⟨by omega, by omega, by omega, by omega, by omega⟩, ⟨by omega, fun k k0 k1 => by omega⟩, ⟨by omega, fun k k0 k1 => by omega⟩, ⟨by omega, fun k k0 k1 => by omega⟩, fun j j0 j1 => ?_, by omega, by omega, by omega, fun j hj => e j (by omega)⟩
  · rw [e (62 + q) (by omega), e (1 + q) (by omega), e (7 + q) (by omega)]; decide
  · unfold RoomOk
    rw [ht, ht, ht, ht, ht, e20]
    refine ⟨by decide, by decide, fun n hn => by omega, by decide, by decide, by decide, by decide⟩
  · rw [e (118 + j) (by omega)]; decide
theorem WK.ext {ks ks' : xKs} {ρ ρ' : xR} (h : WK ks ρ) (hk : ∀ p, p < 46 → ks'[p]? = ks[p]?) (hρ : ∀ (p : Nat), p < 46 → ρ' p = ρ p) : WK ks' ρ' := by
  unfold WK HKB SK TK at *
  simp (disch := omega) only [hk, hρ]
  exact h
def lwKs : xKs := onKs ++ [(0, 12)] ++ [(1, 943), (1, 943), (1, 13), (1, 6), (2, 64), (1, 6), (1, 400), (1, 20)]
theorem lwKs_1 : onKs ++ [(0, 12)] ++ [(1, 943), (1, 943), (1, 13), (1, 6), (2, 64), (1, 6), (1, 400), (1, 20)] = lwKs := rfl
theorem lwKs_o : ∀ p, p < 46 → lwKs[p]? = onKs[p]? := by decide
theorem lwKs_l : lwKs.length = 55 := by decide
theorem lwKs_m : MK lwKs := by unfold MK; decide
theorem lw_ml : (onKs ++ [((0 : Nat), (12 : Nat))]).length = 47 := by decide
theorem lw_mq : (onKs ++ [((0 : Nat), (12 : Nat))])[46]? = some (0, 12) := by decide
set_option maxHeartbeats 4000000 in
set_option maxRecDepth 100000 in
theorem lw_first {E : xE} {p : Program} {e : Env} {R : Room} {s : State} {m : MethodId} {below : List Frame} {meth : Method} {c : Code} {b L : Nat} (hC : XC E p R s m #[Value.ref b] meth c cL_law RL ret 4) (hR : xRm R 1312 600000 7302250) {xs : Nat → Int32} (hX : va_X b L xs s s.heap) (hbl : b < s.heap.size) (h62 : E.2.2.2.2.2 62 = b) (h0 : E.2.2.2.1 = s.heap.size) (hL : L ≤ 3072) (σ : xM) (ρ : xR) : X E p e R s m #[Value.ref b] below meth c (lw_Z below #[Value.ref b] s) 0 0 σ ρ [] 0 [some (.float 126), none, none, none] [] := by
  refine x_new (pc := 0) hC (by decide) uwX11 nL_7 hR (by decide) dL_law_0 ?_
  simp only [List.length_nil, List.nil_append]
  refine x_dup (pc := 3) hC dL_law_3 rfl ?_
  refine x_callI (As := []) (Bs := []) (pc := 4) hC (c_initO E) wL_9 pX11_init rfl rfl (by exact Nat.le_of_ble_eq_true rfl) hR (by omega) (by decide) (by decide) rfl dL_law_4 (fun r4 σ4 ρ4 ks4 q4 => ?_)
  obtain ⟨rfl, e4, hw4, hz4, h02, h44, h45⟩ := q4
  subst e4
  refine x_astore_n (L' := [_, _, _, _]) (pc := 7) hC dL_law_7 rfl rfl ?_
  refine x_new (pc := 8) hC (by decide) uwX12 nL_10 hR (by decide) dL_law_8 ?_
  rw [onKs_l]
  refine x_dup (pc := 11) hC dL_law_11 rfl ?_
  refine x_callI (As := []) (Bs := []) (pc := 12) hC (s_initM E lw_ml lw_mq) wL_12 pX12_init rfl rfl (by exact Nat.le_of_ble_eq_true rfl) hR (by omega) (by decide) (by decide) rfl dL_law_12 (fun r12 σ12 ρ12 ks12 q12 => ?_)
  obtain ⟨rfl, e12, f12, mw12, z12, o12⟩ := q12
  rw [lwKs_1] at e12
  subst e12
  refine x_astore_n (L' := [_, _, _, _]) (pc := 15) hC dL_law_15 rfl rfl ?_
  refine x_iconst (pc := 16) hC dL_law_16 ?_
  refine x_istore_n (L' := [_, _, _, _]) (pc := 17) hC dL_law_17 rfl rfl ?_
  have hs : ∀ p, p < 46 → σ12 p = σ4 p ∧ ρ12 p = ρ4 p := fun p hp => by
    obtain ⟨g1, g2⟩ := f12 p (by omega)
    refine ⟨g1.trans ?_, (g2 (by omega)).trans ?_⟩
    · funext j; exact zr_p _ (by omega) _
    · funext j; exact nr_o _ (by omega)
  have h46 : ∀ j, σ12 46 j = 0 := fun j => by rw [(f12 46 (by decide)).1]; exact zr_eq _ _ _
  refine lw_loop hC hR hX hbl h62 h0 hL 513 0 0 _ _ _ _ _ z0R (by decide) (by decide) (by decide) (by decide) z12 ⟨by rw [lwKs_l]; decide, lwKs_m, mw12, hw4.ext lwKs_o (fun p hp => (hs p hp).2), z0R_inv, ?_, Or.inl ⟨?_, h46 4⟩, ⟨?_, ?_, ?_⟩, fun j _ => ?_⟩
  · refine hz4.ext (by decide) (by rw [onKs_l]; decide) (fun p hp h00 => ?_)
    rw [onKs_l] at hp
    exact ⟨(hs p hp).1, (hs p hp).2, lwKs_o p hp⟩
  · rw [(hs 0 (by decide)).1]; exact h02
  · rw [(hs 44 (by decide)).1, h44, h46]
  · rw [h46]; decide
  · intro j j0 j1; rw [h46] at j1; omega
  · rw [o12 48 (by decide) (by decide)]
