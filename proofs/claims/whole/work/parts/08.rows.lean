/-! A METHOD'S CONTRACT over the memory, and the walk judgement -/
def xQ (E : xE) (Q : Option Value → xM → xR → xKs → Prop) : Array Value → State → Outcome → State → Prop := fun _ st oc t => (∃ (r : Option Value) (σ : xM) (ρ : xR) (ks : xKs), oc = .returned (r.map (rn E)) ∧ Q r σ ρ ks ∧ xH E σ ρ ks t.heap) ∧ va_F (xA E) st t
/-- method y, with its code word c, from memory σ ρ ks with arguments As: returns with Q; d its depth, mc cells and ms slots at most come -/
def Sp (E : xE) (y : MethodName) (c : Cond) (d mc ms : Nat) (As : List Value) (σ : xM) (ρ : xR) (ks : xKs) (Q : Option Value → xM → xR → xKs → Prop) : Prop :=
  Met E.1 y (c :: TW) { frames := d, cells := mc, slots := ms, locals := 64 * d } (va_Pc (As.map (rn E)) (xG E σ ρ ks)) (xQ E Q) mc ms (xA E)
/-- the end that a function tells -/
abbrev Fn (r : Option Value) (σ : xM) (ρ : xR) (ks : xKs) : Option Value → xM → xR → xKs → Prop := fun r2 σ2 ρ2 ks2 => r2 = r ∧ σ2 = σ ∧ ρ2 = ρ ∧ ks2 = ks
def xL (E : xE) (ls : Array Slot) (L : List (Option Value)) : Prop := ls.size = L.length ∧ lv_wf ls ∧ ∀ (i : Nat) (v : Value), L[i]? = some (some v) → ls[i]? = some (.val (rn E v))
/-- what stays through a method's walk -/
def XC (E : xE) (p : Program) (R : Room) (s : State) (m : MethodId) (args : Array Value) (meth : Method) (c : Code) (cc : ByteArray) (own : String) (ret : Option FieldType) (nL : Nat) : Prop :=
  p.tables.exec = Jvm.exec ∧ c.code = cc ∧ c.maxLocals = nL ∧ s.vm.findClass own = some m.cls ∧ (∀ w ∈ TW, w.before args s = true) ∧ va_K E.2.1 vwCl (xTys E) s ∧ xS E s s.heap ∧ meth.sig.returnType = ret ∧ meth.locks = false
def X (E : xE) (p : Program) (e : Env) (R : Room) (s : State) (m : MethodId) (args : Array Value) (below : List Frame) (meth : Method) (c : Code) (Z : State → Prop) (kc ns : Nat) (σ : xM) (ρ : xR) (ks : xKs) (pc : Nat) (L : List (Option Value)) (st : List Value) : Prop :=
  ∀ (H : Heap) (locs : List Loc) (ls : Array Slot), xH E σ ρ ks H → va_S (xA E) s.heap H locs → xL E ls L → W p E.1 e R s m args below meth c H locs kc ns Z (F0 m pc ls (st.map (rn E)))
def xOk (L : List (Option Value)) (i : Nat) : Bool := match i with
  | 0 => true
  | k + 1 => match L[k]? with
    | some (some v) => v.category == 1
    | _ => true
theorem xOkS_ok : ∀ {L : List (Option Value)} {i : Nat}, xOkS L i = true → i < L.length ∧ xOk L i = true
  | _ :: _, 0, _ => ⟨by simp, rfl⟩
  | [], 0, h => by cases h
  | [], 1, h => by cases h
  | [], k + 2, h => by cases h
  | v :: l, 1, h => by
    simp only [xOkS, Bool.and_eq_true] at h
    refine ⟨?_, ?_⟩
    · cases l with
      | nil => simp at h
      | cons _ _ => simp
    · cases v with
      | none => rfl
      | some w => exact h.1
  | _ :: l, k + 2, h => by
    have ih := xOkS_ok (L := l) (i := k + 1) h
    refine ⟨by have := ih.1; simp only [List.length_cons]; omega, ?_⟩
    have h2 := ih.2
    simp only [xOk] at h2 ⊢
    simpa using h2
theorem xL.at {E : xE} {ls : Array Slot} {L : List (Option Value)} {i : Nat} {v : Value} (h : xL E ls L) (hv : L[i]? = some (some v)) : ls[i]? = some (.val (rn E v)) := h.2.2 i v hv
def xPairs (E : xE) (L : List (Option Value)) : List (Nat × Value) := (List.range L.length).filterMap (fun i => match L[i]? with
  | some (some v) => some (i, rn E v)
  | _ => none)
theorem xPairs_mem {E : xE} {L : List (Option Value)} {q : Nat × Value} : q ∈ xPairs E L ↔ ∃ v, L[q.1]? = some (some v) ∧ q.2 = rn E v := by
  unfold xPairs
  rw [List.mem_filterMap]
  constructor
  · rintro ⟨i, -, hi⟩
    cases h : L[i]? with
    | none => rw [h] at hi; cases hi
    | some o =>
      cases o with
      | none => rw [h] at hi; cases hi
      | some v => rw [h] at hi; cases hi; exact ⟨v, h, rfl⟩
  · rintro ⟨v, h1, h2⟩
    have hl := (List.getElem?_eq_some_iff.mp h1).1
    exact ⟨q.1, List.mem_range.mpr hl, by rw [h1]; exact congrArg some (Prod.ext rfl h2.symm)⟩
theorem xL.has {E : xE} {ls : Array Slot} {L : List (Option Value)} (h : xL E ls L) : lv_has ls L.length (xPairs E L) := by
  refine ⟨h.1, h.2.1, fun q hq => ?_⟩
  obtain ⟨v, h1, h2⟩ := xPairs_mem.mp hq
  rw [h2]
  exact h.2.2 _ _ h1
theorem xL.store1 {E : xE} {ls : Array Slot} {L : List (Option Value)} {i : Nat} {v : Value} (hi : i < L.length) (hok : xOk L i = true) {l' : List (Nat × Value)} (hl' : (i, rn E v) :: (xPairs E L).filter (fun q => !(q.1 == i) && !(q.1 + 1 == i && q.2.category == 2)) = l') (h : lv_has ls L.length l') : xL E ls (L.set i (some v)) := by
  subst hl'
  refine ⟨by rw [List.length_set]; exact h.1, h.2.1, fun j w hj => ?_⟩
  rw [List.getElem?_set] at hj
  by_cases hji : i = j
  · subst hji
    rw [if_pos rfl, if_pos hi] at hj
    cases hj
    exact h.2.2 (i, rn E v) List.mem_cons_self
  · rw [if_neg hji] at hj
    refine h.2.2 (j, rn E w) (List.mem_cons_of_mem _ (List.mem_filter.mpr ⟨xPairs_mem.mpr ⟨w, hj, rfl⟩, ?_⟩))
    have h1 : (j == i) = false := by simpa using fun q => hji q.symm
    show (!(j == i) && !(j + 1 == i && (rn E w).category == 2)) = true
    rw [h1, rn_cat]
    by_cases h2 : j + 1 = i
    · subst h2
      rw [xOk, hj] at hok
      have h3 : w.category = 1 := by simpa using hok
      simp [h3]
    · have h3 : (j + 1 == i) = false := by simpa using h2
      simp [h3]
section XROWS
variable {E : xE} {p : Program} {e : Env} {R : Room} {s : State} {m : MethodId} {args : Array Value} {below : List Frame} {meth : Method} {c : Code} {Z : State → Prop} {kc ns : Nat} {σ : xM} {ρ : xR} {ks : xKs} {pc : Nat} {L : List (Option Value)} {st : List Value} {cc : ByteArray} {own : String} {ret : Option FieldType} {nL : Nat}
theorem x_iconst (C : XC E p R s m args meth c cc own ret nL) {n : Int} (hd : decode cc pc = .ok (.iconst n, 1)) (k : X E p e R s m args below meth c Z kc ns σ ρ ks (pc + 1) L (.int (iI n) :: st)) : X E p e R s m args below meth c Z kc ns σ ρ ks pc L st :=
  fun H locs ls h1 h2 h3 => lv_iconst C.1 C.2.1 hd rfl (k H locs ls h1 h2 h3)
theorem x_bipush (C : XC E p R s m args meth c cc own ret nL) {n : Int} (hd : decode cc pc = .ok (.bipush n, 2)) (hn : (Int8.ofInt n).toInt32 = iI n) (k : X E p e R s m args below meth c Z kc ns σ ρ ks (pc + 2) L (.int (iI n) :: st)) : X E p e R s m args below meth c Z kc ns σ ρ ks pc L st :=
  fun H locs ls h1 h2 h3 => lv_bipush C.1 C.2.1 hd hn (k H locs ls h1 h2 h3)
theorem x_sipush (C : XC E p R s m args meth c cc own ret nL) {n : Int} (hd : decode cc pc = .ok (.sipush n, 3)) (hn : (Int16.ofInt n).toInt32 = iI n) (k : X E p e R s m args below meth c Z kc ns σ ρ ks (pc + 3) L (.int (iI n) :: st)) : X E p e R s m args below meth c Z kc ns σ ρ ks pc L st :=
  fun H locs ls h1 h2 h3 => lv_sipush C.1 C.2.1 hd hn (k H locs ls h1 h2 h3)
theorem x_lconst (C : XC E p R s m args meth c cc own ret nL) {n : Fin 2} {z : Int} (hd : decode cc pc = .ok (.lconst n, 1)) (hn : Int64.ofNat (n : Nat) = lL z) (k : X E p e R s m args below meth c Z kc ns σ ρ ks (pc + 1) L (.long (lL z) :: st)) : X E p e R s m args below meth c Z kc ns σ ρ ks pc L st :=
  fun H locs ls h1 h2 h3 => lv_lconst C.1 C.2.1 hd hn (k H locs ls h1 h2 h3)
theorem x_ldc (C : XC E p R s m args meth c cc own ret nL) {i : Nat} {v : Int32} (n : Int) (hw : Cond.constant own i v ∈ TW) (hn : v = iI n) (hd : decode cc pc = .ok (.ldc i, 2)) (k : X E p e R s m args below meth c Z kc ns σ ρ ks (pc + 2) L (.int (iI n) :: st)) : X E p e R s m args below meth c Z kc ns σ ρ ks pc L st :=
  fun H locs ls h1 h2 h3 => lv_ldc C.1 C.2.1 C.2.2.2.1 (C.2.2.2.2.1 _ hw) hd (by rw [hn]; exact k H locs ls h1 h2 h3)
theorem x_ldc2 (C : XC E p R s m args meth c cc own ret nL) {i : Nat} {v : Int64} (n : Int) (hw : Cond.constantLong own i v ∈ TW) (hn : v = lL n) (hd : decode cc pc = .ok (.ldc2_w i, 3)) (k : X E p e R s m args below meth c Z kc ns σ ρ ks (pc + 3) L (.long (lL n) :: st)) : X E p e R s m args below meth c Z kc ns σ ρ ks pc L st :=
  fun H locs ls h1 h2 h3 => lv_ldc2 C.1 C.2.1 C.2.2.2.1 (C.2.2.2.2.1 _ hw) hd (by rw [hn]; exact k H locs ls h1 h2 h3)
theorem x_ldcS (C : XC E p R s m args meth c cc own ret nL) {i : Nat} {tx : String} {n : Nat} (q : Nat) (hq : xStr[q]? = some (own, i, tx, n)) (hn : (UInt32.ofNat n).toNat = n ∧ n < 64) (hd : decode cc pc = .ok (.ldc i, 2)) (k : X E p e R s m args below meth c Z kc ns σ ρ ks (pc + 2) L (.float (UInt32.ofNat n) :: st)) : X E p e R s m args below meth c Z kc ns σ ρ ks pc L st :=
  fun H locs ls h1 h2 h3 => va_ldcS C.1 C.2.1 C.2.2.2.1 (C.2.2.2.2.2.2.1.2.1 _ (List.mem_of_getElem? hq)) hd (by
    have := k H locs ls h1 h2 h3
    rw [List.map_cons, show rn E (.float (UInt32.ofNat n)) = .ref (E.2.2.2.2.1 n) by rw [rn, hn.1, if_pos hn.2]] at this
    exact this)
theorem x_iload (C : XC E p R s m args meth c cc own ret nL) {i : Nat} {v : Int32} (hd : decode cc pc = .ok (.iload i, 2)) (hv : L[i]? = some (some (.int v))) (k : X E p e R s m args below meth c Z kc ns σ ρ ks (pc + 2) L (.int v :: st)) : X E p e R s m args below meth c Z kc ns σ ρ ks pc L st :=
  fun H locs ls h1 h2 h3 => lv_iload C.1 C.2.1 hd (h3.at hv) (k H locs ls h1 h2 h3)
theorem x_iload_n (C : XC E p R s m args meth c cc own ret nL) {i : Fin 4} {v : Int32} (hd : decode cc pc = .ok (.iload_n i, 1)) (hv : L[i.1]? = some (some (.int v))) (k : X E p e R s m args below meth c Z kc ns σ ρ ks (pc + 1) L (.int v :: st)) : X E p e R s m args below meth c Z kc ns σ ρ ks pc L st :=
  fun H locs ls h1 h2 h3 => lv_iload_n C.1 C.2.1 hd rfl (h3.at hv) (k H locs ls h1 h2 h3)
theorem x_lload (C : XC E p R s m args meth c cc own ret nL) {i : Nat} {v : Int64} (hd : decode cc pc = .ok (.lload i, 2)) (hv : L[i]? = some (some (.long v))) (k : X E p e R s m args below meth c Z kc ns σ ρ ks (pc + 2) L (.long v :: st)) : X E p e R s m args below meth c Z kc ns σ ρ ks pc L st :=
  fun H locs ls h1 h2 h3 => lv_lload C.1 C.2.1 hd (h3.at hv) (k H locs ls h1 h2 h3)
theorem x_lload_n (C : XC E p R s m args meth c cc own ret nL) {i : Fin 4} {v : Int64} (hd : decode cc pc = .ok (.lload_n i, 1)) (hv : L[i.1]? = some (some (.long v))) (k : X E p e R s m args below meth c Z kc ns σ ρ ks (pc + 1) L (.long v :: st)) : X E p e R s m args below meth c Z kc ns σ ρ ks pc L st :=
  fun H locs ls h1 h2 h3 => lv_lload_n C.1 C.2.1 hd rfl (h3.at hv) (k H locs ls h1 h2 h3)
theorem x_aload (C : XC E p R s m args meth c cc own ret nL) {i : Nat} {q : Nat} (hd : decode cc pc = .ok (.aload i, 2)) (hv : L[i]? = some (some (.ref q))) (k : X E p e R s m args below meth c Z kc ns σ ρ ks (pc + 2) L (.ref q :: st)) : X E p e R s m args below meth c Z kc ns σ ρ ks pc L st :=
  fun H locs ls h1 h2 h3 => lv_aload C.1 C.2.1 hd (h3.at hv) (k H locs ls h1 h2 h3)
theorem x_aload_n (C : XC E p R s m args meth c cc own ret nL) {i : Fin 4} {q : Nat} (hd : decode cc pc = .ok (.aload_n i, 1)) (hv : L[i.1]? = some (some (.ref q))) (k : X E p e R s m args below meth c Z kc ns σ ρ ks (pc + 1) L (.ref q :: st)) : X E p e R s m args below meth c Z kc ns σ ρ ks pc L st :=
  fun H locs ls h1 h2 h3 => lv_aload_n C.1 C.2.1 hd rfl (h3.at hv) (k H locs ls h1 h2 h3)
theorem x_aloadS_n (C : XC E p R s m args meth c cc own ret nL) {i : Fin 4} {q : UInt32} (hd : decode cc pc = .ok (.aload_n i, 1)) (hv : L[i.1]? = some (some (.float q))) (k : X E p e R s m args below meth c Z kc ns σ ρ ks (pc + 1) L (.float q :: st)) : X E p e R s m args below meth c Z kc ns σ ρ ks pc L st :=
  fun H locs ls h1 h2 h3 => lv_aload_n C.1 C.2.1 hd rfl (h3.at hv) (k H locs ls h1 h2 h3)
theorem x_aloadN_n (C : XC E p R s m args meth c cc own ret nL) {i : Fin 4} (hd : decode cc pc = .ok (.aload_n i, 1)) (hv : L[i.1]? = some (some .null)) (k : X E p e R s m args below meth c Z kc ns σ ρ ks (pc + 1) L (.null :: st)) : X E p e R s m args below meth c Z kc ns σ ρ ks pc L st :=
  fun H locs ls h1 h2 h3 => lv_aload_nN C.1 C.2.1 hd rfl (h3.at hv) (k H locs ls h1 h2 h3)
theorem x_istore (C : XC E p R s m args meth c cc own ret nL) {i : Nat} {v : Int32} {L' : List (Option Value)} (hd : decode cc pc = .ok (.istore i, 2)) (ho : xOkS L i = true) (hL : L.set i (some (.int v)) = L') (k : X E p e R s m args below meth c Z kc ns σ ρ ks (pc + 2) L' st) : X E p e R s m args below meth c Z kc ns σ ρ ks pc L (.int v :: st) :=
  fun H locs ls h1 h2 h3 => lv_istore C.1 C.2.1 hd h3.has (xOkS_ok ho).1 rfl (fun ls' h4 => k H locs ls' h1 h2 (hL ▸ xL.store1 (xOkS_ok ho).1 (xOkS_ok ho).2 rfl h4))
theorem x_istore_n (C : XC E p R s m args meth c cc own ret nL) {i : Fin 4} {v : Int32} {L' : List (Option Value)} (hd : decode cc pc = .ok (.istore_n i, 1)) (ho : xOkS L i.1 = true) (hL : L.set i.1 (some (.int v)) = L') (k : X E p e R s m args below meth c Z kc ns σ ρ ks (pc + 1) L' st) : X E p e R s m args below meth c Z kc ns σ ρ ks pc L (.int v :: st) :=
  fun H locs ls h1 h2 h3 => lv_istore_n C.1 C.2.1 hd rfl h3.has (xOkS_ok ho).1 rfl (fun ls' h4 => k H locs ls' h1 h2 (hL ▸ xL.store1 (xOkS_ok ho).1 (xOkS_ok ho).2 rfl h4))
theorem x_astore (C : XC E p R s m args meth c cc own ret nL) {i : Nat} {v : Nat} {L' : List (Option Value)} (hd : decode cc pc = .ok (.astore i, 2)) (ho : xOkS L i = true) (hL : L.set i (some (.ref v)) = L') (k : X E p e R s m args below meth c Z kc ns σ ρ ks (pc + 2) L' st) : X E p e R s m args below meth c Z kc ns σ ρ ks pc L (.ref v :: st) :=
  fun H locs ls h1 h2 h3 => lv_astore C.1 C.2.1 hd h3.has (xOkS_ok ho).1 rfl (fun ls' h4 => k H locs ls' h1 h2 (hL ▸ xL.store1 (xOkS_ok ho).1 (xOkS_ok ho).2 rfl h4))
theorem x_astore_n (C : XC E p R s m args meth c cc own ret nL) {i : Fin 4} {v : Nat} {L' : List (Option Value)} (hd : decode cc pc = .ok (.astore_n i, 1)) (ho : xOkS L i.1 = true) (hL : L.set i.1 (some (.ref v)) = L') (k : X E p e R s m args below meth c Z kc ns σ ρ ks (pc + 1) L' st) : X E p e R s m args below meth c Z kc ns σ ρ ks pc L (.ref v :: st) :=
  fun H locs ls h1 h2 h3 => lv_astore_n C.1 C.2.1 hd rfl h3.has (xOkS_ok ho).1 rfl (fun ls' h4 => k H locs ls' h1 h2 (hL ▸ xL.store1 (xOkS_ok ho).1 (xOkS_ok ho).2 rfl h4))
theorem x_astoreS_n (C : XC E p R s m args meth c cc own ret nL) {i : Fin 4} {v : UInt32} {L' : List (Option Value)} (hd : decode cc pc = .ok (.astore_n i, 1)) (ho : xOkS L i.1 = true) (hL : L.set i.1 (some (.float v)) = L') (k : X E p e R s m args below meth c Z kc ns σ ρ ks (pc + 1) L' st) : X E p e R s m args below meth c Z kc ns σ ρ ks pc L (.float v :: st) :=
  fun H locs ls h1 h2 h3 => lv_astore_n C.1 C.2.1 hd rfl h3.has (xOkS_ok ho).1 rfl (fun ls' h4 => k H locs ls' h1 h2 (hL ▸ xL.store1 (xOkS_ok ho).1 (xOkS_ok ho).2 rfl h4))
theorem x_astoreN_n (C : XC E p R s m args meth c cc own ret nL) {i : Fin 4} {L' : List (Option Value)} (hd : decode cc pc = .ok (.astore_n i, 1)) (ho : xOkS L i.1 = true) (hL : L.set i.1 (some .null) = L') (k : X E p e R s m args below meth c Z kc ns σ ρ ks (pc + 1) L' st) : X E p e R s m args below meth c Z kc ns σ ρ ks pc L (.null :: st) :=
  fun H locs ls h1 h2 h3 => lv_astore_nN C.1 C.2.1 hd rfl h3.has (xOkS_ok ho).1 rfl (fun ls' h4 => k H locs ls' h1 h2 (hL ▸ xL.store1 (xOkS_ok ho).1 (xOkS_ok ho).2 rfl h4))
theorem x_iadd (C : XC E p R s m args meth c cc own ret nL) {a b : Int} (hd : decode cc pc = .ok (.iadd, 1)) (k : X E p e R s m args below meth c Z kc ns σ ρ ks (pc + 1) L (.int (iI (a + b)) :: st)) : X E p e R s m args below meth c Z kc ns σ ρ ks pc L (.int (iI b) :: .int (iI a) :: st) :=
  fun H locs ls h1 h2 h3 => lv_iadd C.1 C.2.1 hd (by rw [iI_add]; exact k H locs ls h1 h2 h3)
theorem x_isub (C : XC E p R s m args meth c cc own ret nL) {a b : Int} (hd : decode cc pc = .ok (.isub, 1)) (k : X E p e R s m args below meth c Z kc ns σ ρ ks (pc + 1) L (.int (iI (a - b)) :: st)) : X E p e R s m args below meth c Z kc ns σ ρ ks pc L (.int (iI b) :: .int (iI a) :: st) :=
  fun H locs ls h1 h2 h3 => lv_isub C.1 C.2.1 hd (by rw [iI_sub]; exact k H locs ls h1 h2 h3)
theorem x_imul (C : XC E p R s m args meth c cc own ret nL) {a b : Int} (hd : decode cc pc = .ok (.imul, 1)) (k : X E p e R s m args below meth c Z kc ns σ ρ ks (pc + 1) L (.int (iI (a * b)) :: st)) : X E p e R s m args below meth c Z kc ns σ ρ ks pc L (.int (iI b) :: .int (iI a) :: st) :=
  fun H locs ls h1 h2 h3 => lv_imul C.1 C.2.1 hd (by rw [iI_mul]; exact k H locs ls h1 h2 h3)
theorem x_iand (C : XC E p R s m args meth c cc own ret nL) {a b : Int} (hd : decode cc pc = .ok (.iand, 1)) (k : X E p e R s m args below meth c Z kc ns σ ρ ks (pc + 1) L (.int (iI (bAnd a b)) :: st)) : X E p e R s m args below meth c Z kc ns σ ρ ks pc L (.int (iI b) :: .int (iI a) :: st) :=
  fun H locs ls h1 h2 h3 => lv_iand C.1 C.2.1 hd (by rw [iI_and]; exact k H locs ls h1 h2 h3)
theorem x_ior (C : XC E p R s m args meth c cc own ret nL) {a b : Int} (hd : decode cc pc = .ok (.ior, 1)) (k : X E p e R s m args below meth c Z kc ns σ ρ ks (pc + 1) L (.int (iI (bOr a b)) :: st)) : X E p e R s m args below meth c Z kc ns σ ρ ks pc L (.int (iI b) :: .int (iI a) :: st) :=
  fun H locs ls h1 h2 h3 => lv_ior C.1 C.2.1 hd (by rw [iI_or]; exact k H locs ls h1 h2 h3)
theorem x_ixor (C : XC E p R s m args meth c cc own ret nL) {a b : Int} (hd : decode cc pc = .ok (.ixor, 1)) (k : X E p e R s m args below meth c Z kc ns σ ρ ks (pc + 1) L (.int (iI (bXor a b)) :: st)) : X E p e R s m args below meth c Z kc ns σ ρ ks pc L (.int (iI b) :: .int (iI a) :: st) :=
  fun H locs ls h1 h2 h3 => lv_ixor C.1 C.2.1 hd (by rw [iI_xor]; exact k H locs ls h1 h2 h3)
theorem x_ishl (C : XC E p R s m args meth c cc own ret nL) {a b : Int} (hd : decode cc pc = .ok (.ishl, 1)) (k : X E p e R s m args below meth c Z kc ns σ ρ ks (pc + 1) L (.int (iI (bShl a b)) :: st)) : X E p e R s m args below meth c Z kc ns σ ρ ks pc L (.int (iI b) :: .int (iI a) :: st) :=
  fun H locs ls h1 h2 h3 => lv_ishl C.1 C.2.1 hd (by rw [iI_shl]; exact k H locs ls h1 h2 h3)
theorem x_ishr (C : XC E p R s m args meth c cc own ret nL) {a b : Int} (hd : decode cc pc = .ok (.ishr, 1)) (k : X E p e R s m args below meth c Z kc ns σ ρ ks (pc + 1) L (.int (iI (bShr a b)) :: st)) : X E p e R s m args below meth c Z kc ns σ ρ ks pc L (.int (iI b) :: .int (iI a) :: st) :=
  fun H locs ls h1 h2 h3 => lv_ishr C.1 C.2.1 hd (by rw [iI_shr]; exact k H locs ls h1 h2 h3)
theorem iI_ne0 {b : Int} (h : 0 < b) (h2 : b < 2147483648) : ¬ iI b = 0 := by
  intro q
  rw [← iI_0, iI_eq ⟨by omega, h2⟩ ⟨by decide, by decide⟩] at q
  omega
theorem x_idiv (C : XC E p R s m args meth c cc own ret nL) {a b : Int} (h : 0 ≤ a ∧ a < 2147483648 ∧ 0 < b ∧ b < 2147483648) (hd : decode cc pc = .ok (.idiv, 1)) (k : X E p e R s m args below meth c Z kc ns σ ρ ks (pc + 1) L (.int (iI (a / b)) :: st)) : X E p e R s m args below meth c Z kc ns σ ρ ks pc L (.int (iI b) :: .int (iI a) :: st) :=
  fun H locs ls h1 h2 h3 => lv_idiv C.1 C.2.1 hd (iI_ne0 h.2.2.1 h.2.2.2) (by rw [iI_div h.1 h.2.1 h.2.2.1 h.2.2.2]; exact k H locs ls h1 h2 h3)
theorem x_irem (C : XC E p R s m args meth c cc own ret nL) {a b : Int} (h : 0 ≤ a ∧ a < 2147483648 ∧ 0 < b ∧ b < 2147483648) (hd : decode cc pc = .ok (.irem, 1)) (k : X E p e R s m args below meth c Z kc ns σ ρ ks (pc + 1) L (.int (iI (a % b)) :: st)) : X E p e R s m args below meth c Z kc ns σ ρ ks pc L (.int (iI b) :: .int (iI a) :: st) :=
  fun H locs ls h1 h2 h3 => lv_irem C.1 C.2.1 hd (iI_ne0 h.2.2.1 h.2.2.2) (by rw [iI_rem h.1 h.2.1 h.2.2.1 h.2.2.2]; exact k H locs ls h1 h2 h3)
theorem x_ineg (C : XC E p R s m args meth c cc own ret nL) {a : Int} (hd : decode cc pc = .ok (.ineg, 1)) (k : X E p e R s m args below meth c Z kc ns σ ρ ks (pc + 1) L (.int (iI (-a)) :: st)) : X E p e R s m args below meth c Z kc ns σ ρ ks pc L (.int (iI a) :: st) :=
  fun H locs ls h1 h2 h3 => lv_ineg C.1 C.2.1 hd (by rw [iI_neg]; exact k H locs ls h1 h2 h3)
theorem x_iinc (C : XC E p R s m args meth c cc own ret nL) {i : Nat} {n z : Int} {L' : List (Option Value)} (hd : decode cc pc = .ok (.iinc i n, 3)) (hv : L[i]? = some (some (.int (iI z)))) (ho : xOkS L i = true) (hL : L.set i (some (.int (iI (z + n)))) = L') (k : X E p e R s m args below meth c Z kc ns σ ρ ks (pc + 3) L' st) : X E p e R s m args below meth c Z kc ns σ ρ ks pc L st := by
  intro H locs ls h1 h2 h3
  have hi : i < L.length := (List.getElem?_eq_some_iff.mp hv).1
  have hm : (i, Value.int (iI z)) ∈ xPairs E L := xPairs_mem.mpr ⟨_, hv, rfl⟩
  obtain ⟨q, hq⟩ := List.getElem?_of_mem hm
  exact lv_iinc (k := q) (v := iI (z + n)) C.1 C.2.1 hd h3.has hq (by rw [← iI_add]; rfl) hi rfl (fun ls' h4 => k H locs ls' h1 h2 (hL ▸ xL.store1 hi (xOkS_ok ho).2 rfl h4))
theorem x_goto (C : XC E p R s m args meth c cc own ret nL) {off : Int} {tgt : Nat} (hd : decode cc pc = .ok (.goto off, 3)) (ht : (pc : Int) + off = (tgt : Int)) (k : X E p e R s m args below meth c Z kc ns σ ρ ks tgt L st) : X E p e R s m args below meth c Z kc ns σ ρ ks pc L st :=
  fun H locs ls h1 h2 h3 => lv_goto C.1 C.2.1 hd ht (k H locs ls h1 h2 h3)
theorem x_dup (C : XC E p R s m args meth c cc own ret nL) {v : Value} (hd : decode cc pc = .ok (.dup, 1)) (hv : v.category = 1) (k : X E p e R s m args below meth c Z kc ns σ ρ ks (pc + 1) L (v :: v :: st)) : X E p e R s m args below meth c Z kc ns σ ρ ks pc L (v :: st) :=
  fun H locs ls h1 h2 h3 => lv_dup C.1 C.2.1 hd (by rw [rn_cat]; exact hv) (k H locs ls h1 h2 h3)
theorem x_dup2 (C : XC E p R s m args meth c cc own ret nL) {v w : Value} (hd : decode cc pc = .ok (.dup2, 1)) (hv : v.category = 1) (hw : w.category = 1) (k : X E p e R s m args below meth c Z kc ns σ ρ ks (pc + 1) L (v :: w :: v :: w :: st)) : X E p e R s m args below meth c Z kc ns σ ρ ks pc L (v :: w :: st) :=
  fun H locs ls h1 h2 h3 => lv_dup2_11 C.1 C.2.1 hd (by rw [rn_cat]; exact hv) (by rw [rn_cat]; exact hw) (k H locs ls h1 h2 h3)
theorem x_null (C : XC E p R s m args meth c cc own ret nL) (hd : decode cc pc = .ok (.aconst_null, 1)) (k : X E p e R s m args below meth c Z kc ns σ ρ ks (pc + 1) L (.null :: st)) : X E p e R s m args below meth c Z kc ns σ ρ ks pc L st :=
  fun H locs ls h1 h2 h3 => lv_null C.1 C.2.1 hd (k H locs ls h1 h2 h3)
theorem x_if_eq (C : XC E p R s m args meth c cc own ret nL) {a off : Int} {tgt : Nat} (ha : rg a) (hd : decode cc pc = .ok (.ifCond .eq off, 3)) (ht : (pc : Int) + off = (tgt : Int)) (kt : a = 0 → X E p e R s m args below meth c Z kc ns σ ρ ks tgt L st) (kf : ¬ a = 0 → X E p e R s m args below meth c Z kc ns σ ρ ks (pc + 3) L st) : X E p e R s m args below meth c Z kc ns σ ρ ks pc L (.int (iI a) :: st) :=
  fun H locs ls h1 h2 h3 => lv_if_eq C.1 C.2.1 hd ht (fun q => kt (by
    have h0 := iI_toInt ha
    have h := q
    rw [← iI_0] at h
    rw [iI_eq ha ⟨by decide, by decide⟩] at h; omega) H locs ls h1 h2 h3) (fun q => kf (by
    have h0 := iI_toInt ha
    have h := q
    rw [← iI_0] at h
    rw [iI_eq ha ⟨by decide, by decide⟩] at h; omega) H locs ls h1 h2 h3)
theorem x_if_ne (C : XC E p R s m args meth c cc own ret nL) {a off : Int} {tgt : Nat} (ha : rg a) (hd : decode cc pc = .ok (.ifCond .ne off, 3)) (ht : (pc : Int) + off = (tgt : Int)) (kt : ¬ a = 0 → X E p e R s m args below meth c Z kc ns σ ρ ks tgt L st) (kf : a = 0 → X E p e R s m args below meth c Z kc ns σ ρ ks (pc + 3) L st) : X E p e R s m args below meth c Z kc ns σ ρ ks pc L (.int (iI a) :: st) :=
  fun H locs ls h1 h2 h3 => lv_if_ne C.1 C.2.1 hd ht (fun q => kt (by
    have h0 := iI_toInt ha
    have h := q
    rw [← iI_0] at h
    (try rw [ne_eq] at h); rw [iI_eq ha ⟨by decide, by decide⟩] at h; omega) H locs ls h1 h2 h3) (fun q => kf (by
    have h0 := iI_toInt ha
    have h := q
    rw [← iI_0] at h
    (try rw [ne_eq] at h); rw [iI_eq ha ⟨by decide, by decide⟩] at h; omega) H locs ls h1 h2 h3)
theorem x_if_lt (C : XC E p R s m args meth c cc own ret nL) {a off : Int} {tgt : Nat} (ha : rg a) (hd : decode cc pc = .ok (.ifCond .lt off, 3)) (ht : (pc : Int) + off = (tgt : Int)) (kt : a < 0 → X E p e R s m args below meth c Z kc ns σ ρ ks tgt L st) (kf : 0 ≤ a → X E p e R s m args below meth c Z kc ns σ ρ ks (pc + 3) L st) : X E p e R s m args below meth c Z kc ns σ ρ ks pc L (.int (iI a) :: st) :=
  fun H locs ls h1 h2 h3 => lv_if_lt C.1 C.2.1 hd ht (fun q => kt (by
    have h0 := iI_toInt ha
    have h := q
    rw [← iI_0] at h
    rw [iI_lt ha ⟨by decide, by decide⟩] at h; omega) H locs ls h1 h2 h3) (fun q => kf (by
    have h0 := iI_toInt ha
    have h := q
    rw [← iI_0] at h
    rw [iI_lt ha ⟨by decide, by decide⟩] at h; omega) H locs ls h1 h2 h3)
theorem x_if_ge (C : XC E p R s m args meth c cc own ret nL) {a off : Int} {tgt : Nat} (ha : rg a) (hd : decode cc pc = .ok (.ifCond .ge off, 3)) (ht : (pc : Int) + off = (tgt : Int)) (kt : 0 ≤ a → X E p e R s m args below meth c Z kc ns σ ρ ks tgt L st) (kf : a < 0 → X E p e R s m args below meth c Z kc ns σ ρ ks (pc + 3) L st) : X E p e R s m args below meth c Z kc ns σ ρ ks pc L (.int (iI a) :: st) :=
  fun H locs ls h1 h2 h3 => lv_if_ge C.1 C.2.1 hd ht (fun q => kt (by
    have h0 := iI_toInt ha
    have h := q
    rw [← iI_0] at h
    (try simp only [GE.ge, GT.gt] at h); first | (rw [iI_le ⟨by decide, by decide⟩ ha] at h; omega) | (rw [iI_lt ⟨by decide, by decide⟩ ha] at h; omega)) H locs ls h1 h2 h3) (fun q => kf (by
    have h0 := iI_toInt ha
    have h := q
    rw [← iI_0] at h
    (try simp only [GE.ge, GT.gt] at h); first | (rw [iI_le ⟨by decide, by decide⟩ ha] at h; omega) | (rw [iI_lt ⟨by decide, by decide⟩ ha] at h; omega)) H locs ls h1 h2 h3)
theorem x_if_gt (C : XC E p R s m args meth c cc own ret nL) {a off : Int} {tgt : Nat} (ha : rg a) (hd : decode cc pc = .ok (.ifCond .gt off, 3)) (ht : (pc : Int) + off = (tgt : Int)) (kt : 0 < a → X E p e R s m args below meth c Z kc ns σ ρ ks tgt L st) (kf : a ≤ 0 → X E p e R s m args below meth c Z kc ns σ ρ ks (pc + 3) L st) : X E p e R s m args below meth c Z kc ns σ ρ ks pc L (.int (iI a) :: st) :=
  fun H locs ls h1 h2 h3 => lv_if_gt C.1 C.2.1 hd ht (fun q => kt (by
    have h0 := iI_toInt ha
    have h := q
    rw [← iI_0] at h
    (try simp only [GE.ge, GT.gt] at h); first | (rw [iI_le ⟨by decide, by decide⟩ ha] at h; omega) | (rw [iI_lt ⟨by decide, by decide⟩ ha] at h; omega)) H locs ls h1 h2 h3) (fun q => kf (by
    have h0 := iI_toInt ha
    have h := q
    rw [← iI_0] at h
    (try simp only [GE.ge, GT.gt] at h); first | (rw [iI_le ⟨by decide, by decide⟩ ha] at h; omega) | (rw [iI_lt ⟨by decide, by decide⟩ ha] at h; omega)) H locs ls h1 h2 h3)
theorem x_if_le (C : XC E p R s m args meth c cc own ret nL) {a off : Int} {tgt : Nat} (ha : rg a) (hd : decode cc pc = .ok (.ifCond .le off, 3)) (ht : (pc : Int) + off = (tgt : Int)) (kt : a ≤ 0 → X E p e R s m args below meth c Z kc ns σ ρ ks tgt L st) (kf : 0 < a → X E p e R s m args below meth c Z kc ns σ ρ ks (pc + 3) L st) : X E p e R s m args below meth c Z kc ns σ ρ ks pc L (.int (iI a) :: st) :=
  fun H locs ls h1 h2 h3 => lv_if_le C.1 C.2.1 hd ht (fun q => kt (by
    have h0 := iI_toInt ha
    have h := q
    rw [← iI_0] at h
    rw [iI_le ha ⟨by decide, by decide⟩] at h; omega) H locs ls h1 h2 h3) (fun q => kf (by
    have h0 := iI_toInt ha
    have h := q
    rw [← iI_0] at h
    rw [iI_le ha ⟨by decide, by decide⟩] at h; omega) H locs ls h1 h2 h3)
theorem x_icmp_eq (C : XC E p R s m args meth c cc own ret nL) {a b off : Int} {tgt : Nat} (ha : rg a) (hb : rg b) (hd : decode cc pc = .ok (.if_icmp .eq off, 3)) (ht : (pc : Int) + off = (tgt : Int)) (kt : a = b → X E p e R s m args below meth c Z kc ns σ ρ ks tgt L st) (kf : ¬ a = b → X E p e R s m args below meth c Z kc ns σ ρ ks (pc + 3) L st) : X E p e R s m args below meth c Z kc ns σ ρ ks pc L (.int (iI b) :: .int (iI a) :: st) :=
  fun H locs ls h1 h2 h3 => lv_icmp_eq C.1 C.2.1 hd ht (fun h => kt (by rw [iI_eq ha hb] at h; omega) H locs ls h1 h2 h3) (fun h => kf (by rw [iI_eq ha hb] at h; omega) H locs ls h1 h2 h3)
theorem x_icmp_ne (C : XC E p R s m args meth c cc own ret nL) {a b off : Int} {tgt : Nat} (ha : rg a) (hb : rg b) (hd : decode cc pc = .ok (.if_icmp .ne off, 3)) (ht : (pc : Int) + off = (tgt : Int)) (kt : ¬ a = b → X E p e R s m args below meth c Z kc ns σ ρ ks tgt L st) (kf : a = b → X E p e R s m args below meth c Z kc ns σ ρ ks (pc + 3) L st) : X E p e R s m args below meth c Z kc ns σ ρ ks pc L (.int (iI b) :: .int (iI a) :: st) :=
  fun H locs ls h1 h2 h3 => lv_icmp_ne C.1 C.2.1 hd ht (fun h => kt (by (try rw [ne_eq] at h); rw [iI_eq ha hb] at h; omega) H locs ls h1 h2 h3) (fun h => kf (by (try rw [ne_eq] at h); rw [iI_eq ha hb] at h; omega) H locs ls h1 h2 h3)
theorem x_icmp_lt (C : XC E p R s m args meth c cc own ret nL) {a b off : Int} {tgt : Nat} (ha : rg a) (hb : rg b) (hd : decode cc pc = .ok (.if_icmp .lt off, 3)) (ht : (pc : Int) + off = (tgt : Int)) (kt : a < b → X E p e R s m args below meth c Z kc ns σ ρ ks tgt L st) (kf : b ≤ a → X E p e R s m args below meth c Z kc ns σ ρ ks (pc + 3) L st) : X E p e R s m args below meth c Z kc ns σ ρ ks pc L (.int (iI b) :: .int (iI a) :: st) :=
  fun H locs ls h1 h2 h3 => lv_icmp_lt C.1 C.2.1 hd ht (fun h => kt (by rw [iI_lt ha hb] at h; omega) H locs ls h1 h2 h3) (fun h => kf (by rw [iI_lt ha hb] at h; omega) H locs ls h1 h2 h3)
theorem x_icmp_ge (C : XC E p R s m args meth c cc own ret nL) {a b off : Int} {tgt : Nat} (ha : rg a) (hb : rg b) (hd : decode cc pc = .ok (.if_icmp .ge off, 3)) (ht : (pc : Int) + off = (tgt : Int)) (kt : b ≤ a → X E p e R s m args below meth c Z kc ns σ ρ ks tgt L st) (kf : a < b → X E p e R s m args below meth c Z kc ns σ ρ ks (pc + 3) L st) : X E p e R s m args below meth c Z kc ns σ ρ ks pc L (.int (iI b) :: .int (iI a) :: st) :=
  fun H locs ls h1 h2 h3 => lv_icmp_ge C.1 C.2.1 hd ht (fun h => kt (by (try simp only [GE.ge] at h); first | (rw [iI_le hb ha] at h; omega) | (rw [iI_lt ha hb] at h; omega)) H locs ls h1 h2 h3) (fun h => kf (by (try simp only [GE.ge] at h); first | (rw [iI_le hb ha] at h; omega) | (rw [iI_lt ha hb] at h; omega)) H locs ls h1 h2 h3)
theorem x_icmp_gt (C : XC E p R s m args meth c cc own ret nL) {a b off : Int} {tgt : Nat} (ha : rg a) (hb : rg b) (hd : decode cc pc = .ok (.if_icmp .gt off, 3)) (ht : (pc : Int) + off = (tgt : Int)) (kt : b < a → X E p e R s m args below meth c Z kc ns σ ρ ks tgt L st) (kf : a ≤ b → X E p e R s m args below meth c Z kc ns σ ρ ks (pc + 3) L st) : X E p e R s m args below meth c Z kc ns σ ρ ks pc L (.int (iI b) :: .int (iI a) :: st) :=
  fun H locs ls h1 h2 h3 => lv_icmp_gt C.1 C.2.1 hd ht (fun h => kt (by (try simp only [GT.gt] at h); first | (rw [iI_lt hb ha] at h; omega) | (rw [iI_le ha hb] at h; omega)) H locs ls h1 h2 h3) (fun h => kf (by (try simp only [GT.gt] at h); first | (rw [iI_lt hb ha] at h; omega) | (rw [iI_le ha hb] at h; omega)) H locs ls h1 h2 h3)
theorem x_icmp_le (C : XC E p R s m args meth c cc own ret nL) {a b off : Int} {tgt : Nat} (ha : rg a) (hb : rg b) (hd : decode cc pc = .ok (.if_icmp .le off, 3)) (ht : (pc : Int) + off = (tgt : Int)) (kt : a ≤ b → X E p e R s m args below meth c Z kc ns σ ρ ks tgt L st) (kf : b < a → X E p e R s m args below meth c Z kc ns σ ρ ks (pc + 3) L st) : X E p e R s m args below meth c Z kc ns σ ρ ks pc L (.int (iI b) :: .int (iI a) :: st) :=
  fun H locs ls h1 h2 h3 => lv_icmp_le C.1 C.2.1 hd ht (fun h => kt (by rw [iI_le ha hb] at h; omega) H locs ls h1 h2 h3) (fun h => kf (by rw [iI_le ha hb] at h; omega) H locs ls h1 h2 h3)
theorem x_ifnull_n (C : XC E p R s m args meth c cc own ret nL) {off : Int} {tgt : Nat} (hd : decode cc pc = .ok (.ifnull off, 3)) (ht : (pc : Int) + off = (tgt : Int)) (k : X E p e R s m args below meth c Z kc ns σ ρ ks tgt L st) : X E p e R s m args below meth c Z kc ns σ ρ ks pc L (.null :: st) :=
  fun H locs ls h1 h2 h3 => lv_ifnullN C.1 C.2.1 hd ht (k H locs ls h1 h2 h3)
theorem x_ifnull_r (C : XC E p R s m args meth c cc own ret nL) {off : Int} {q : Nat} (hd : decode cc pc = .ok (.ifnull off, 3)) (k : X E p e R s m args below meth c Z kc ns σ ρ ks (pc + 3) L st) : X E p e R s m args below meth c Z kc ns σ ρ ks pc L (.ref q :: st) :=
  fun H locs ls h1 h2 h3 => lv_ifnull C.1 C.2.1 hd (k H locs ls h1 h2 h3)
theorem x_ifnonnull_n (C : XC E p R s m args meth c cc own ret nL) {off : Int} (hd : decode cc pc = .ok (.ifnonnull off, 3)) (k : X E p e R s m args below meth c Z kc ns σ ρ ks (pc + 3) L st) : X E p e R s m args below meth c Z kc ns σ ρ ks pc L (.null :: st) :=
  fun H locs ls h1 h2 h3 => lv_ifnonnullN C.1 C.2.1 hd (k H locs ls h1 h2 h3)
theorem x_ifnonnull_r (C : XC E p R s m args meth c cc own ret nL) {off : Int} {tgt : Nat} {q : Nat} (hd : decode cc pc = .ok (.ifnonnull off, 3)) (ht : (pc : Int) + off = (tgt : Int)) (k : X E p e R s m args below meth c Z kc ns σ ρ ks tgt L st) : X E p e R s m args below meth c Z kc ns σ ρ ks pc L (.ref q :: st) :=
  fun H locs ls h1 h2 h3 => lv_ifnonnull C.1 C.2.1 hd ht (k H locs ls h1 h2 h3)
end XROWS
