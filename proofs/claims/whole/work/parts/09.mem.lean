/-! rows of the memory -/
theorem xTy_ok : ∀ ci, ci < 13 → ∀ k, k < xN ci → parseFieldDescriptor (xT ci k).2.2.1 = some (xTy ci k) := by decide +kernel
theorem xT_nm : ∀ ci, ci < 13 → ∀ a, a < xN ci → ∀ b, b < xN ci → a ≠ b → (xT ci a).2.1 ≠ (xT ci b).2.1 := by decide +kernel
theorem t_OB.at {o : Nat} {cC : ClassId} {N : Nat} {iS : Nat → Nat} {H : Heap} {V : Nat → Value} (h : t_OB o cC N iS H V) : ∃ cell : Cell, H[o]? = some cell ∧ cell.cls = cC ∧ cell.vm = .none ∧ ∀ k, k < N → cell.slots[iS k]? = some (V k) := h
theorem xH.obj {E : xE} {σ : xM} {ρ : xR} {ks : xKs} {H : Heap} {q ci : Nat} (h : xH E σ ρ ks H) (hq : ks[q]? = some (0, ci)) : ci < 13 ∧ t_OB (E.2.2.2.1 + q) (E.2.1.1 ci) (xN ci) (E.2.1.2 ci) H (fun k => xfv E ci k (σ q k) (ρ q k)) := h.2 q _ hq
theorem xH.ints {E : xE} {σ : xM} {ρ : xR} {ks : xKs} {H : Heap} {q n : Nat} (h : xH E σ ρ ks H) (hq : ks[q]? = some (1, n)) : H[E.2.2.2.1 + q]? = some (arrV (E.2.2.1 0) n (fun j => .int (iI (σ q j)))) ∧ n < 2147483648 := h.2 q _ hq
theorem xH.bools {E : xE} {σ : xM} {ρ : xR} {ks : xKs} {H : Heap} {q n : Nat} (h : xH E σ ρ ks H) (hq : ks[q]? = some (2, n)) : H[E.2.2.2.1 + q]? = some (arrV (E.2.2.1 1) n (fun j => .int (iI (σ q j)))) ∧ n < 2147483648 := h.2 q _ hq
theorem xH.refs {E : xE} {σ : xM} {ρ : xR} {ks : xKs} {H : Heap} {q n : Nat} (h : xH E σ ρ ks H) (hq : ks[q]? = some (3, n)) : H[E.2.2.2.1 + q]? = some (arrV (E.2.2.1 2) n (fun j => xrv E.2.2.2.1 (ρ q j))) ∧ n < 2147483648 := h.2 q _ hq
theorem x_arrset {cA : ClassId} {n : Nat} {f g : Nat → Value} {j : Nat} {v : Value} (hj : g j = v) (ho : ∀ q, q ≠ j → g q = f q) : (arrV cA n f).setSlot j v = arrV cA n g := by
  rw [arrV_store]
  congr 1
  funext q
  by_cases hq : q = j
  · subst hq; simp [updV, hj]
  · simp [updV, hq, ho q hq]
section XMEM
variable {E : xE} {p : Program} {e : Env} {R : Room} {s : State} {m : MethodId} {args : Array Value} {below : List Frame} {meth : Method} {c : Code} {Z : State → Prop} {kc ns : Nat} {σ : xM} {ρ : xR} {ks : xKs} {pc : Nat} {L : List (Option Value)} {st : List Value} {cc : ByteArray} {own : String} {ret : Option FieldType} {nL : Nat}
theorem x_get (C : XC E p R s m args meth c cc own ret nL) {i q ci k : Nat} {v : Value} (hF : xFd own i ci k) (hq : ks[q]? = some (0, ci)) (hd : decode cc pc = .ok (.getfield i, 3)) (hv : xfv E ci k (σ q k) (ρ q k) = rn E v) (kk : X E p e R s m args below meth c Z kc ns σ ρ ks (pc + 3) L (v :: st)) : X E p e R s m args below meth c Z kc ns σ ρ ks pc L (.ref q :: st) := by
  intro H locs ls h1 h2 h3
  obtain ⟨hci, hk, ⟨ref, hl, hs⟩, hin⟩ := hF
  obtain ⟨-, cell, q1, q2, q3, q4⟩ := h1.obj hq
  obtain ⟨hS, hfc, kC, hkC, hkind⟩ := C.2.2.2.2.2.1.1 ci _ (xCl hci)
  obtain ⟨cf, kf, fi, f, hi, hsl⟩ := hS k hk
  refine W.getf C.1 C.2.1 C.2.2.2.1 (C.2.2.2.2.1 _ hl) (hs.elim (fun e => by rw [e]; exact hi) (fun h => u_same (C.2.2.2.2.1 _ h) _ hi)) (u_facts hfc hkC (u_lays C.2.2.2.2.1 hin hk) hi).1 q1 (by rw [q3]; exact fun h => by cases h) (v := rn E v) ?_ rfl rfl hd (kk H locs ls h1 h2 h3)
  rw [hsl, q4 k hk]
  exact congrArg some hv
/-- an int field -/
theorem x_geti (C : XC E p R s m args meth c cc own ret nL) {i q ci k : Nat} {K : Int} (hF : xFd own i ci k) (hq : ks[q]? = some (0, ci)) (hd : decode cc pc = .ok (.getfield i, 3)) (ht : xIsR (xTy ci k) = false) (hK : (k : Int) = K) (kk : X E p e R s m args below meth c Z kc ns σ ρ ks (pc + 3) L (.int (iI (σ q K)) :: st)) : X E p e R s m args below meth c Z kc ns σ ρ ks pc L (.ref q :: st) :=
  x_get C hF hq hd (by subst hK; unfold xfv; rw [ht]; rfl) kk
/-- a field that refers -/
theorem x_getr (C : XC E p R s m args meth c cc own ret nL) {i q ci k : Nat} {K : Int} {r : Nat} (hF : xFd own i ci k) (hq : ks[q]? = some (0, ci)) (hd : decode cc pc = .ok (.getfield i, 3)) (ht : xIsR (xTy ci k) = true) (hK : (k : Int) = K) (hr : ρ q K = some r) (kk : X E p e R s m args below meth c Z kc ns σ ρ ks (pc + 3) L (.ref r :: st)) : X E p e R s m args below meth c Z kc ns σ ρ ks pc L (.ref q :: st) :=
  x_get C hF hq hd (by subst hK; unfold xfv; rw [ht, hr]; rfl) kk
theorem x_put0 (C : XC E p R s m args meth c cc own ret nL) {i q ci k : Nat} {v : Value} {σ' : xM} {ρ' : xR} (hF : xFd own i ci k) (hfin : (xT ci k).2.2.2 = false ∨ (meth.name = "<init>" ∧ (xT ci k).1 = own)) (hq : ks[q]? = some (0, ci)) (hd : decode cc pc = .ok (.putfield i, 3)) (hn : narrow (xTy ci k) (rn E v) = rn E v) (hfit : fits (xTy ci k) (rn E v) = true)
    (hσ : ∀ p, p ≠ q → σ' p = σ p) (hρ : ∀ p, p ≠ q → ρ' p = ρ p) (hσk : ∀ j : Int, j ≠ k → σ' q j = σ q j) (hρk : ∀ j : Int, j ≠ k → ρ' q j = ρ q j) (hv : xfv E ci k (σ' q k) (ρ' q k) = rn E v) (kk : X E p e R s m args below meth c Z kc ns σ' ρ' ks (pc + 3) L st) : X E p e R s m args below meth c Z kc ns σ ρ ks pc L (v :: .ref q :: st) := by
  intro H locs ls h1 h2 h3
  obtain ⟨hci, hk, ⟨ref, hl, hs⟩, hin⟩ := hF
  have hap := va_apart (own := own) C.2.2.2.2.1 hin (xTy ci) (xTy_ok ci hci) (xT_nm ci hci) C.2.2.2.2.2.1 (xCl hci)
  obtain ⟨-, cell, q1, q2, q3, q4⟩ := h1.obj hq
  obtain ⟨hS, hfc, kC, hkC, hkind⟩ := C.2.2.2.2.2.1.1 ci _ (xCl hci)
  obtain ⟨cf, kf, fi, f, hi, hsl⟩ := hS k hk
  have hlay := C.2.2.2.2.1 _ (hin _ (u_in_lay hk))
  have hst := (u_facts hfc hkC (u_lays C.2.2.2.2.1 hin hk) hi).1
  have hsame := hs.elim (fun e => by rw [e]; exact hi) (fun h => u_same (C.2.2.2.2.1 _ h) _ hi)
  have hnew : ∀ (H' : Heap), H'[E.2.2.2.1 + q]? = some (cell.setSlot (E.2.1.2 ci k) (rn E v)) → xAt E H' q (0, ci) (σ' q) (ρ' q) := by
    intro H' e1
    refine ⟨hci, t_OB.to (V := updV (fun k => xfv E ci k (σ q k) (ρ q k)) k (rn E v)) ⟨_, e1, q2, q3, t_set q4 hap hk (rn E v)⟩ (fun j _ => ?_)⟩
    by_cases hj : j = k
    · subst hj; simp [updV, hv]
    · have hj' : (j : Int) ≠ (k : Int) := by omega
      simp only [updV, hj, if_false]
      rw [hσk _ hj', hρk _ hj']
  have hgo : ∀ (H' : Heap), H'[E.2.2.2.1 + q]? = some (cell.setSlot f.slot (rn E v)) → H'.size = H.size → (∀ x, x ≠ E.2.2.2.1 + q → H'[x]? = H[x]?) → W p E.1 e R s m args below meth c H' (locs ++ [⟨E.2.2.2.1 + q, f.slot⟩]) kc ns Z (F0 m (pc + 3) ls (st.map (rn E))) := by
    intro H' e1 e2 e3
    rw [hsl] at e1 ⊢
    exact kk H' _ ls (h1.put hq e2 e3 hσ hρ (hnew H' e1)) (h2.put e2 e3 (Nat.le_add_right _ _)) h3
  rcases hfin with hfin | ⟨hin2, hdecl⟩
  · unfold u_lay at hlay
    rw [if_neg (by rw [hfin]; decide)] at hlay
    have h6 := u_store hfc hkC hkind hlay hi (xTy_ok ci hci k hk) hn hfit
    exact W.putK C.1 C.2.1 (f := f) ⟨C.2.2.2.1, C.2.2.2.2.1 _ hl, ⟨_, _, _, hsame⟩, hst⟩ (by rw [q2]; exact h6) q1 q3 (by rw [hsl]; exact k2_hasslot (q4 k hk)) rfl rfl hd hgo
  · by_cases hfin : (xT ci k).2.2.2 = true
    · unfold u_lay at hlay
      rw [if_pos hfin] at hlay
      have hcf : m.cls = cf := by
        obtain ⟨_, _, c', _, _, _, -, -, hf', -, -, -, hown2, -⟩ := Cond.laysFinal_spec hlay
        have e1 : c' = cf := by have := hi.symm.trans hf'; simp at this; exact this.1.symm
        rw [hdecl] at hown2
        rw [← e1]; exact Option.some.inj (C.2.2.2.1.symm.trans hown2)
      have h6 := u_fits hfc hkC hkind (Or.inr hlay) hi (xTy_ok ci hci k hk) hn hfit
      exact W.putFinK C.1 C.2.1 C.2.2.2.1 (C.2.2.2.2.1 _ hl) hsame hst hcf hin2 (by rw [q2]; exact h6) q1 q3 (by rw [hsl]; exact k2_hasslot (q4 k hk)) rfl rfl hd hgo
    · unfold u_lay at hlay
      rw [if_neg hfin] at hlay
      have h6 := u_store hfc hkC hkind hlay hi (xTy_ok ci hci k hk) hn hfit
      exact W.putK C.1 C.2.1 (f := f) ⟨C.2.2.2.1, C.2.2.2.2.1 _ hl, ⟨_, _, _, hsame⟩, hst⟩ (by rw [q2]; exact h6) q1 q3 (by rw [hsl]; exact k2_hasslot (q4 k hk)) rfl rfl hd hgo
/-- an int field is written -/
theorem x_puti (C : XC E p R s m args meth c cc own ret nL) {i q ci k : Nat} {z K : Int} (hK : (k : Int) = K) (hF : xFd own i ci k) (hfin : (xT ci k).2.2.2 = false) (hq : ks[q]? = some (0, ci)) (hd : decode cc pc = .ok (.putfield i, 3)) (ht : xTy ci k = .int) (kk : X E p e R s m args below meth c Z kc ns (wr σ q K z) ρ ks (pc + 3) L st) : X E p e R s m args below meth c Z kc ns σ ρ ks pc L (.int (iI z) :: .ref q :: st) := by
  subst hK
  exact x_put0 C hF (Or.inl hfin) hq hd (by rw [ht]; rfl) (by rw [ht]; rfl) (fun p h => by funext j; exact wr_p _ h _ _ _) (fun _ _ => rfl) (fun j h => wr_k _ _ _ h _) (fun _ _ => rfl) (by unfold xfv; rw [ht, wr_eq]; rfl) kk
theorem x_putiF (C : XC E p R s m args meth c cc own ret nL) {i q ci k : Nat} {z K : Int} (hK : (k : Int) = K) (hF : xFd own i ci k) (hfin : meth.name = "<init>" ∧ (xT ci k).1 = own) (hq : ks[q]? = some (0, ci)) (hd : decode cc pc = .ok (.putfield i, 3)) (ht : xTy ci k = .int) (kk : X E p e R s m args below meth c Z kc ns (wr σ q K z) ρ ks (pc + 3) L st) : X E p e R s m args below meth c Z kc ns σ ρ ks pc L (.int (iI z) :: .ref q :: st) := by
  subst hK
  exact x_put0 C hF (Or.inr hfin) hq hd (by rw [ht]; rfl) (by rw [ht]; rfl) (fun p h => by funext j; exact wr_p _ h _ _ _) (fun _ _ => rfl) (fun j h => wr_k _ _ _ h _) (fun _ _ => rfl) (by unfold xfv; rw [ht, wr_eq]; rfl) kk
theorem nar_b {z : Int} (h : z = 0 ∨ z = 1) : narrow .boolean (.int (iI z)) = .int (iI z) ∧ fits .boolean (.int (iI z)) = true := by rcases h with rfl | rfl <;> exact ⟨by decide +kernel, by decide +kernel⟩
/-- a boolean field is written -/
theorem x_putz (C : XC E p R s m args meth c cc own ret nL) {i q ci k : Nat} {z K : Int} (hK : (k : Int) = K) (hF : xFd own i ci k) (hfin : (xT ci k).2.2.2 = false) (hq : ks[q]? = some (0, ci)) (hd : decode cc pc = .ok (.putfield i, 3)) (ht : xTy ci k = .boolean) (hz : z = 0 ∨ z = 1) (kk : X E p e R s m args below meth c Z kc ns (wr σ q K z) ρ ks (pc + 3) L st) : X E p e R s m args below meth c Z kc ns σ ρ ks pc L (.int (iI z) :: .ref q :: st) := by
  subst hK
  exact x_put0 C hF (Or.inl hfin) hq hd (by rw [ht]; exact (nar_b hz).1) (by rw [ht]; exact (nar_b hz).2) (fun p h => by funext j; exact wr_p _ h _ _ _) (fun _ _ => rfl) (fun j h => wr_k _ _ _ h _) (fun _ _ => rfl) (by unfold xfv; rw [ht, wr_eq]; rfl) kk
theorem nar_r {ty : FieldType} (h : xIsR ty = true) (r : Option Nat) (E : xE) : narrow ty (rn E (rv r)) = rn E (rv r) ∧ fits ty (rn E (rv r)) = true := by cases ty <;> cases r <;> first | exact ⟨rfl, rfl⟩ | cases h
/-- a field that refers is written -/
theorem x_putr (C : XC E p R s m args meth c cc own ret nL) {i q ci k : Nat} {K : Int} (hK : (k : Int) = K) (r : Option Nat) {v : Value} (hF : xFd own i ci k) (hfin : (xT ci k).2.2.2 = false ∨ (meth.name = "<init>" ∧ (xT ci k).1 = own)) (hq : ks[q]? = some (0, ci)) (hd : decode cc pc = .ok (.putfield i, 3)) (ht : xIsR (xTy ci k) = true) (hv : v = rv r) (kk : X E p e R s m args below meth c Z kc ns σ (wq ρ q K r) ks (pc + 3) L st) : X E p e R s m args below meth c Z kc ns σ ρ ks pc L (v :: .ref q :: st) := by
  subst hv
  subst hK
  exact x_put0 C hF hfin hq hd (nar_r ht r E).1 (nar_r ht r E).2 (fun _ _ => rfl) (fun p h => by funext j; exact wq_p _ h _ _ _) (fun _ _ => rfl) (fun j h => wq_k _ _ _ h _) (by unfold xfv; rw [ht, wq_eq, rn_rv]; rfl) kk
theorem x_iald (C : XC E p R s m args meth c cc own ret nL) {q n : Nat} {z : Int} (hq : ks[q]? = some (1, n)) (hz : 0 ≤ z ∧ z < n) (hd : decode cc pc = .ok (.iaload, 1)) (kk : X E p e R s m args below meth c Z kc ns σ ρ ks (pc + 1) L (.int (iI (σ q z)) :: st)) : X E p e R s m args below meth c Z kc ns σ ρ ks pc L (.int (iI z) :: .ref q :: st) := by
  intro H locs ls h1 h2 h3
  obtain ⟨hc, hn⟩ := h1.ints hq
  have hcl := iI_clamp hz.1 (by omega)
  refine W.iald (v := .int (iI (σ q z))) C.1 C.2.1 hc ((C.2.2.2.2.2.1.2 0 _ rfl).1 n _) (fun q => by cases q) (by show ¬ (iI z < 0 ∨ (arrV _ _ _).slots.size ≤ _); rw [arrV_size]; exact iI_in hz.1 hz.2 hn) ?_ rfl rfl hd (kk H locs ls h1 h2 h3)
  rw [hcl, arrV_read _ _ (by omega), show ((z.toNat : Nat) : Int) = z by omega]
theorem x_zald (C : XC E p R s m args meth c cc own ret nL) {q n : Nat} {z : Int} (hq : ks[q]? = some (2, n)) (hz : 0 ≤ z ∧ z < n) (hd : decode cc pc = .ok (.baload, 1)) (kk : X E p e R s m args below meth c Z kc ns σ ρ ks (pc + 1) L (.int (iI (σ q z)) :: st)) : X E p e R s m args below meth c Z kc ns σ ρ ks pc L (.int (iI z) :: .ref q :: st) := by
  intro H locs ls h1 h2 h3
  obtain ⟨hc, hn⟩ := h1.bools hq
  have hcl := iI_clamp hz.1 (by omega)
  refine W.zald (v := .int (iI (σ q z))) C.1 C.2.1 hc ((C.2.2.2.2.2.1.2 1 _ rfl).1 n _) (fun q => by cases q) (by show ¬ (iI z < 0 ∨ (arrV _ _ _).slots.size ≤ _); rw [arrV_size]; exact iI_in hz.1 hz.2 hn) ?_ rfl rfl hd (kk H locs ls h1 h2 h3)
  rw [hcl, arrV_read _ _ (by omega), show ((z.toNat : Nat) : Int) = z by omega]
theorem x_aald (C : XC E p R s m args meth c cc own ret nL) {q n : Nat} {z : Int} {r : Option Nat} (hq : ks[q]? = some (3, n)) (hz : 0 ≤ z ∧ z < n) (hd : decode cc pc = .ok (.aaload, 1)) (hr : ρ q z = r) (kk : X E p e R s m args below meth c Z kc ns σ ρ ks (pc + 1) L (rv r :: st)) : X E p e R s m args below meth c Z kc ns σ ρ ks pc L (.int (iI z) :: .ref q :: st) := by
  intro H locs ls h1 h2 h3
  obtain ⟨hc, hn⟩ := h1.refs hq
  have hcl := iI_clamp hz.1 (by omega)
  have hk := kk H locs ls h1 h2 h3
  rw [List.map_cons, rn_rv, ← hr] at hk
  refine W.aald (v := xrv E.2.2.2.1 (ρ q z)) (ty := .object RX0) C.1 C.2.1 hc ((C.2.2.2.2.2.1.2 2 _ rfl).1 n _) rfl (fun q => by cases q) (by show ¬ (iI z < 0 ∨ (arrV _ _ _).slots.size ≤ _); rw [arrV_size]; exact iI_in hz.1 hz.2 hn) ?_ rfl rfl hd hk
  rw [hcl, arrV_read _ _ (by omega), show ((z.toNat : Nat) : Int) = z by omega]
theorem x_iast (C : XC E p R s m args meth c cc own ret nL) {q n : Nat} {z v : Int} (hq : ks[q]? = some (1, n)) (hz : 0 ≤ z ∧ z < n) (hd : decode cc pc = .ok (.iastore, 1)) (kk : X E p e R s m args below meth c Z kc ns (wr σ q z v) ρ ks (pc + 1) L st) : X E p e R s m args below meth c Z kc ns σ ρ ks pc L (.int (iI v) :: .int (iI z) :: .ref q :: st) := by
  intro H locs ls h1 h2 h3
  obtain ⟨hc, hn⟩ := h1.ints hq
  have hcl := iI_clamp hz.1 (by omega)
  refine W.iast C.1 C.2.1 hc ((C.2.2.2.2.2.1.2 0 _ rfl).1 n _) (fun q => by cases q) (by show ¬ (iI z < 0 ∨ (arrV _ _ _).slots.size ≤ _); rw [arrV_size]; exact iI_in hz.1 hz.2 hn) rfl rfl hd fun H1 e1 e2 e3 => ?_
  refine kk H1 _ ls (h1.put hq e2 e3 (fun p h => by funext j; exact wr_p _ h _ _ _) (fun _ _ => rfl) ⟨?_, hn⟩) (h2.put e2 e3 (Nat.le_add_right _ _)) h3
  rw [e1, hcl]
  refine congrArg some (x_arrset ?_ fun j hj => ?_)
  · rw [show ((z.toNat : Nat) : Int) = z by omega, wr_eq]
  · rw [wr_k _ _ _ (by omega)]
theorem x_zast (C : XC E p R s m args meth c cc own ret nL) {q n : Nat} {z v : Int} (hq : ks[q]? = some (2, n)) (hz : 0 ≤ z ∧ z < n) (hb : v = 0 ∨ v = 1) (hd : decode cc pc = .ok (.bastore, 1)) (kk : X E p e R s m args below meth c Z kc ns (wr σ q z v) ρ ks (pc + 1) L st) : X E p e R s m args below meth c Z kc ns σ ρ ks pc L (.int (iI v) :: .int (iI z) :: .ref q :: st) := by
  intro H locs ls h1 h2 h3
  obtain ⟨hc, hn⟩ := h1.bools hq
  have hcl := iI_clamp hz.1 (by omega)
  refine W.zast C.1 C.2.1 hc ((C.2.2.2.2.2.1.2 1 _ rfl).1 n _) (fun q => by cases q) (by show ¬ (iI z < 0 ∨ (arrV _ _ _).slots.size ≤ _); rw [arrV_size]; exact iI_in hz.1 hz.2 hn) rfl rfl hd fun H1 e1 e2 e3 => ?_
  refine kk H1 _ ls (h1.put hq e2 e3 (fun p h => by funext j; exact wr_p _ h _ _ _) (fun _ _ => rfl) ⟨?_, hn⟩) (h2.put e2 e3 (Nat.le_add_right _ _)) h3
  rw [e1, hcl, (nar_b hb).1]
  refine congrArg some (x_arrset ?_ fun j hj => ?_)
  · rw [show ((z.toNat : Nat) : Int) = z by omega, wr_eq]
  · rw [wr_k _ _ _ (by omega)]
/-- a fan is put into a row of fans; sub: the class's objects may stand there -/
theorem x_aast (C : XC E p R s m args meth c cc own ret nL) {q n v ci : Nat} {z : Int} (hq : ks[q]? = some (3, n)) (hz : 0 ≤ z ∧ z < n) (hv : ks[v]? = some (0, ci)) (hsub : ∀ cI : ClassId, s.vm.findClass RX0 = some cI → s.vm.assignable (E.2.1.1 ci) cI = true) (hd : decode cc pc = .ok (.aastore, 1)) (kk : X E p e R s m args below meth c Z kc ns σ (wq ρ q z (some v)) ks (pc + 1) L st) : X E p e R s m args below meth c Z kc ns σ ρ ks pc L (.ref v :: .int (iI z) :: .ref q :: st) := by
  intro H locs ls h1 h2 h3
  obtain ⟨hc, hn⟩ := h1.refs hq
  have hcl := iI_clamp hz.1 (by omega)
  obtain ⟨hci, cellV, g1, g2, g3, -⟩ := h1.obj hv
  have hcls := (C.2.2.2.2.2.1.1 ci _ (xCl hci)).2
  obtain ⟨kA, comp, k1, k2, k3, -⟩ := (C.2.2.2.2.2.1.2 2 _ rfl).2
  obtain ⟨k0, hk0, -⟩ := (C.2.2.2.2.2.1.1 0 _ (xCl (by omega))).2.2
  have hc0 : comp = E.2.1.1 0 := Option.some.inj (k3.symm.trans (C.2.2.2.2.2.1.1 0 _ (xCl (by omega))).2.1)
  obtain ⟨kC, hkC, -⟩ := hcls.2
  refine W.aast C.1 C.2.1 hc (fun q h => by cases h) (fun h => by cases h) k1 k2 rfl (by rw [hc0]; exact hk0) ⟨fun h => iI_in hz.1 hz.2 hn (Or.inl h), by show _ < (arrV _ _ _).slots.size; rw [arrV_size, hcl]; omega⟩ g1 (fun q h => by rw [g3] at h; cases h) (by rw [g2]; exact hkC) (by rw [g2]; exact hsub _ k3) rfl rfl hd fun H1 e1 e2 e3 => ?_
  refine kk H1 _ ls (h1.put hq e2 e3 (fun _ _ => rfl) (fun p h => by funext j; exact wq_p _ h _ _ _) ⟨?_, hn⟩) (h2.put e2 e3 (Nat.le_add_right _ _)) h3
  rw [e1, hcl]
  refine congrArg some (x_arrset ?_ fun j hj => ?_)
  · rw [show ((z.toNat : Nat) : Int) = z by omega, wq_eq]; rfl
  · rw [wq_k _ _ _ (by omega)]
theorem x_aastN (C : XC E p R s m args meth c cc own ret nL) {q n : Nat} {z : Int} (hq : ks[q]? = some (3, n)) (hz : 0 ≤ z ∧ z < n) (hd : decode cc pc = .ok (.aastore, 1)) (kk : X E p e R s m args below meth c Z kc ns σ (wq ρ q z none) ks (pc + 1) L st) : X E p e R s m args below meth c Z kc ns σ ρ ks pc L (.null :: .int (iI z) :: .ref q :: st) := by
  intro H locs ls h1 h2 h3
  obtain ⟨hc, hn⟩ := h1.refs hq
  have hcl := iI_clamp hz.1 (by omega)
  refine va_WaastN (C := RX0) C.1 C.2.1 hc ((C.2.2.2.2.2.1.2 2 _ rfl).1 n _) (fun h => by cases h) (by show ¬ (iI z < 0 ∨ (arrV _ _ _).slots.size ≤ _); rw [arrV_size]; exact iI_in hz.1 hz.2 hn) rfl rfl hd fun H1 e1 e2 e3 => ?_
  refine kk H1 _ ls (h1.put hq e2 e3 (fun _ _ => rfl) (fun p h => by funext j; exact wq_p _ h _ _ _) ⟨?_, hn⟩) (h2.put e2 e3 (Nat.le_add_right _ _)) h3
  rw [e1, hcl]
  refine congrArg some (x_arrset ?_ fun j hj => ?_)
  · rw [show ((z.toNat : Nat) : Int) = z by omega, wq_eq]; rfl
  · rw [wq_k _ _ _ (by omega)]
theorem iI_nat (n : Nat) : n.toInt32 = iI n := by simp [iI, Int32.ofInt, Nat.toInt32, Int32.ofNat]
theorem x_alen1 (C : XC E p R s m args meth c cc own ret nL) {q n : Nat} {K : Int} (hq : ks[q]? = some (1, n)) (hK : (n : Int) = K) (hd : decode cc pc = .ok (.arraylength, 1)) (kk : X E p e R s m args below meth c Z kc ns σ ρ ks (pc + 1) L (.int (iI K) :: st)) : X E p e R s m args below meth c Z kc ns σ ρ ks pc L (.ref q :: st) := by
  subst hK
  intro H locs ls h1 h2 h3
  obtain ⟨hc, hn⟩ := h1.ints hq
  exact W.alen C.1 C.2.1 hc ((C.2.2.2.2.2.1.2 0 _ rfl).1 n _) (by rw [arrV_size]; exact iI_nat n) rfl rfl hd (kk H locs ls h1 h2 h3)
end XMEM
