/-! calls, ends, new cells -/
theorem xG.moved {E : xE} {σ : xM} {ρ : xR} {ks : xKs} {s U : State} {H : Heap} {locs : List Loc} (hK : va_K E.2.1 vwCl (xTys E) s) (hS : xS E s s.heap) (h1 : xH E σ ρ ks H) (h2 : va_S (xA E) s.heap H locs) (hU : U.heap = H) (hW : s.WarmedH U.vm) : xG E σ ρ ks U := by
  refine ⟨by rw [hU]; exact h1, va_K.moved hW.alike hK, ?_, ?_, ?_, ?_, ?_, ?_, ?_, ?_⟩
  · rw [hU]
    exact (hS.1.kept h2.2.1).moved hW.alike
  · exact fun q hq => (hS.2.1 q hq).warm hW
  · exact fun q hq => va_Nw.warmM hW (hS.2.2.1 q hq)
  · exact hS.2.2.2.1.moved hW.alike
  · exact fun q hq => va_Nw.warmC hW (hS.2.2.2.2.1 q hq)
  · exact fun q hq => va_Nc.moved hW.alike (hS.2.2.2.2.2.1 q hq)
  · rw [hU]
    exact (hS.2.2.2.2.2.2.1.kept h2.2.1).moved hW.alike
  · rw [hU]
    rcases hS.2.2.2.2.2.2.2 with hZ | hZ
    · exact Or.inl ((hZ.kept h2.2.1).moved hW.alike)
    · exact Or.inr ((hZ.kept h2.2.1).moved hW.alike)
theorem xG.blind {E : xE} {σ : xM} {ρ : xR} {ks : xKs} {As : List Value} : FrameBlind (va_Pc (As.map (rn E)) (xG E σ ρ ks)) := by
  rintro a U g mk ⟨h0, h1, h2, h3, h4, h5, h6, h7, h8, h9, h10⟩
  refine ⟨h0, h1, va_K.moved (u := U) (U := U.calling g mk a) (Vm.Alike.refl U.vm) h2, vk_S.moved (u := U) (Vm.Alike.refl U.vm) h3, fun q hq => (h4 q hq).same rfl, fun q hq => ?_, va_AO.moved (u := U) (Vm.Alike.refl U.vm) h6, fun q hq => ?_, fun q hq => va_Nc.moved (u := U) (Vm.Alike.refl U.vm) (h8 q hq), va_Z.moved (u := U) (Vm.Alike.refl U.vm) h9, h10.elim (fun hZ => Or.inl (va_Z.moved (u := U) (Vm.Alike.refl U.vm) hZ)) (fun hZ => Or.inr (va_Z.moved (u := U) (Vm.Alike.refl U.vm) hZ))⟩
  · exact va_Nw.same rfl rfl (h5 q hq)
  · exact va_Nw.same rfl rfl (h7 q hq)
/-- fewer known locals -/
def xLe : List (Option Value) → List (Option Value) → Prop
  | [], [] => True
  | none :: a, _ :: b => xLe a b
  | some v :: a, o :: b => o = some v ∧ xLe a b
  | _, _ => False
theorem xLe_len : ∀ {a b : List (Option Value)}, xLe a b → a.length = b.length
  | [], [], _ => rfl
  | none :: a, _ :: b, h => congrArg (· + 1) (xLe_len (a := a) (b := b) h)
  | some v :: a, _ :: b, h => congrArg (· + 1) (xLe_len (a := a) (b := b) h.2)
  | [], _ :: _, h => by cases h
  | none :: _, [], h => by cases h
  | some _ :: _, [], h => by cases h
theorem xLe_at : ∀ {a b : List (Option Value)}, xLe a b → ∀ {i : Nat} {v : Value}, a[i]? = some (some v) → b[i]? = some (some v)
  | [], [], _, i, v, hv => by simp at hv
  | none :: a, _ :: b, h, 0, v, hv => by simp at hv
  | none :: a, _ :: b, h, i + 1, v, hv => by simp only [List.getElem?_cons_succ] at hv ⊢; exact xLe_at (a := a) (b := b) h hv
  | some w :: a, o :: b, h, 0, v, hv => by simp only [List.getElem?_cons_zero] at hv ⊢; rw [← hv, h.1]
  | some w :: a, o :: b, h, i + 1, v, hv => by simp only [List.getElem?_cons_succ] at hv ⊢; exact xLe_at (a := a) (b := b) h.2 hv
  | [], _ :: _, h, _, _, _ => by cases h
  | none :: _, [], h, _, _, _ => by cases h
  | some _ :: _, [], h, _, _, _ => by cases h
theorem xLe_0 : xLe [] [] := trivial
theorem xLe_n {a b : List (Option Value)} {o : Option Value} (h : xLe a b) : xLe (none :: a) (o :: b) := h
theorem xLe_s {a b : List (Option Value)} {v : Value} (h : xLe a b) : xLe (some v :: a) (some v :: b) := ⟨rfl, h⟩
section XCALL
variable {E : xE} {p : Program} {e : Env} {R : Room} {s : State} {m : MethodId} {args : Array Value} {below : List Frame} {meth : Method} {c : Code} {Z : State → Prop} {kc ns : Nat} {σ : xM} {ρ : xR} {ks : xKs} {pc : Nat} {L : List (Option Value)} {st : List Value} {cc : ByteArray} {own : String} {ret : Option FieldType} {nL : Nat}
/-- behind a call, however it was made -/
theorem x_after {y : MethodName} {As : Array Value} {mc ms : Nat} {Q : Option Value → xM → xR → xKs → Prop} {H : Heap} {locs : List Loc} {ls : Array Slot} {st0 st : List Value}
    (hr : va_Run p E.1 e R s m args below meth c H locs kc ns mc ms (F0 m pc ls st0) (st.map (rn E)) (xQ E Q As) (xA E)) (h2 : va_S (xA E) s.heap H locs) (h3 : xL E ls L)
    (kk : ∀ r σ' ρ' ks', Q r σ' ρ' ks' → X E p e R s m args below meth c Z (kc + mc) (ns + ms) σ' ρ' ks' (pc + 3) L (r.toList ++ st)) : W p E.1 e R s m args below meth c H locs kc ns Z (F0 m pc ls st0) := by
  intro T hT X
  obtain ⟨v, st₀, t, T', L', h0, X', hL, e1, e2, ⟨⟨r, σ', ρ', ks', hv, hq, hh⟩, hz, hk⟩, stp⟩ := hr T hT X
  cases hv
  rw [h0] at hz hk
  have hS : va_S (xA E) s.heap T'.heap (locs ++ L') := ⟨Nat.le_trans h2.1 (by rw [e1]; exact hz), fun q a1 a2 => by rw [e1, hk q (Nat.lt_of_lt_of_le a1 h2.1) a2]; exact h2.2.1 q a1 a2, fun q hq => by
      rcases List.mem_append.mp hq with h | h
      · exact h2.2.2 q h
      · exact hL q h⟩
  obtain ⟨t2, a1, b1⟩ := kk r σ' ρ' ks' hq T'.heap (locs ++ L') ls (by rw [e1]; exact hh) hS h3 T' rfl X'
  refine ⟨t2, stp t2 ?_, b1⟩
  have : (r.map (rn E)).toList ++ st.map (rn E) = (r.toList ++ st).map (rn E) := by cases r <;> rfl
  rw [this]
  exact a1
theorem x_cat {st : List Value} (h : (st.map fun v => v.category).sum ≤ 8) : ((st.map (rn E)).map fun v => v.category).sum ≤ 8 := by
  rw [List.map_map, show (fun v : Value => v.category) ∘ rn E = fun v => v.category from funext fun v => rn_cat E v]
  exact h
/-- the room of a callee of depth d under a caller of depth d' -/
theorem x_room {d d' maxL : Nat} (h : d < d') (hm : maxL ≤ 45) (hR : R.frames = d' ∧ R.locals = 64 * d') : d + 1 ≤ R.frames ∧ 8 + (maxL + 11) + 64 * d ≤ R.locals := by rw [hR.1, hR.2]; omega
def xRm (R : Room) (D : Nat) (kc ns : Nat) : Prop := R.frames = D ∧ R.locals = 64 * D ∧ R.cells = kc ∧ R.slots = ns
theorem x_callV (C : XC E p R s m args meth c cc own ret nL) {i q ci d D mc ms n KC KS : Nat} {y : MethodName} {bytes : ByteArray} {maxL : Nat} {r : Option FieldType} {As Bs : List Value} {Q : Option Value → xM → xR → xKs → Prop}
    (hM : Sp E y (.code y bytes maxL r) d mc ms (.ref q :: As) σ ρ ks Q) (hws : Cond.code y bytes maxL r ∈ TW ∧ Cond.methodLink own i y ∈ TW ∧ Cond.instanceMethod y ∈ TW ∧ Cond.selects (xC ci) y y ∈ TW ∧ Cond.initialized y.cls ∈ TW)
    (hy : y.cls ≠ "java/lang/invoke/MethodHandle" ∧ y.cls ≠ "java/lang/invoke/VarHandle" ∧ (parseMethodDescriptor y.desc).map (fun d => d.parameters.length) = some n) (hq : ks[q]? = some (0, ci)) (hn : As.length = n) (hst : Bs = As.reverse) (hcat : (st.map fun v => v.category).sum ≤ 8) (hR : xRm R D KC KS) (hd1 : d < D) (hm : maxL ≤ 45) (hf : kc + mc ≤ KC ∧ ns + ms ≤ KS) (hL : L.length = nL)
    (hd : decode cc pc = .ok (.invokevirtual i, 3)) (kk : ∀ r σ' ρ' ks', Q r σ' ρ' ks' → X E p e R s m args below meth c Z (kc + mc) (ns + ms) σ' ρ' ks' (pc + 3) L (r.toList ++ st)) : X E p e R s m args below meth c Z kc ns σ ρ ks pc L (Bs ++ .ref q :: st) := by
  intro H locs ls h1 h2 h3
  obtain ⟨hci, cell, g1, g2, g3, -⟩ := h1.obj hq
  have hcls := (C.2.2.2.2.2.1.1 ci _ (xCl hci)).2
  refine x_after (y := y) (As := (Value.ref (E.2.2.2.1 + q) :: As.map (rn E)).toArray) (Q := Q) (va_runV (As := As.map (rn E)) (n := n) (C := xC ci) ⟨C.1, C.2.1, C.2.2.1, C.2.2.2.1, C.2.2.2.2.1⟩ hM ⟨callB_of n C.2.2.2.2.1 (fun w hw => ?_) rfl rfl rfl (C.2.2.2.2.1 _ hws.2.2.2.2) (C.2.2.2.2.1 _ hws.2.1) hy ?_, C.2.2.2.2.1 _ hws.2.2.1, C.2.2.2.2.1 _ hws.2.2.2.1⟩ ⟨xG.blind, ⟨cell, g1, by rw [g3]; rfl, by rw [g2]; exact hcls.1⟩, fun U hU hW => ⟨rfl, xG.moved C.2.2.2.2.2.1 C.2.2.2.2.2.2.1 h1 h2 hU hW⟩⟩ rfl (by rw [List.length_map]; exact hn) (h3.1.trans hL) ?_ (lv_room (x_cat hcat)) hd ⟨by rw [hR.2.2.1]; exact hf.1, by rw [hR.2.2.2]; exact hf.2⟩) h2 h3 kk
  · rcases List.mem_cons.mp hw with rfl | hw
    · exact ⟨hws.1, good_of_word (List.mem_filter.mp hws.1).2⟩
    · exact ⟨hw, good_of_word (List.mem_filter.mp hw).2⟩
  · exact x_room hd1 hm ⟨hR.1, hR.2.1⟩
  · show (Bs ++ .ref q :: st).map (rn E) = _
    rw [List.map_append, hst, List.map_reverse]; rfl
/-- a static method of the same class -/
theorem x_callS (C : XC E p R s m args meth c cc own ret nL) {i d D mc ms n KC KS : Nat} {y : MethodName} {bytes : ByteArray} {maxL : Nat} {r : Option FieldType} {As Bs : List Value} {Q : Option Value → xM → xR → xKs → Prop}
    (hM : Sp E y (.code y bytes maxL r) d mc ms As σ ρ ks Q) (hws : Cond.code y bytes maxL r ∈ TW ∧ Cond.methodLink own i y ∈ TW ∧ Cond.static y ∈ TW ∧ Cond.initialized y.cls ∈ TW)
    (hy : y.cls ≠ "java/lang/invoke/MethodHandle" ∧ y.cls ≠ "java/lang/invoke/VarHandle" ∧ (parseMethodDescriptor y.desc).map (fun d => d.parameters.length) = some n) (hn : As.length = n) (hst : Bs = As.reverse) (hcat : (st.map fun v => v.category).sum ≤ 8) (hR : xRm R D KC KS) (hd1 : d < D) (hm : maxL ≤ 45) (hf : kc + mc ≤ KC ∧ ns + ms ≤ KS) (hL : L.length = nL)
    (hd : decode cc pc = .ok (.invokestatic i, 3)) (kk : ∀ r σ' ρ' ks', Q r σ' ρ' ks' → X E p e R s m args below meth c Z (kc + mc) (ns + ms) σ' ρ' ks' (pc + 3) L (r.toList ++ st)) : X E p e R s m args below meth c Z kc ns σ ρ ks pc L (Bs ++ st) := by
  intro H locs ls h1 h2 h3
  refine x_after (y := y) (As := (As.map (rn E)).toArray) (Q := Q) (va_runS (As := As.map (rn E)) (n := n) ⟨C.1, C.2.1, C.2.2.1, C.2.2.2.1, C.2.2.2.2.1⟩ hM ⟨callB_of n C.2.2.2.2.1 (fun w hw => ?_) rfl rfl rfl (C.2.2.2.2.1 _ hws.2.2.2) (C.2.2.2.2.1 _ hws.2.1) hy ?_, C.2.2.2.2.1 _ hws.2.2.1⟩ ⟨xG.blind, fun U hU hW => ⟨rfl, xG.moved C.2.2.2.2.2.1 C.2.2.2.2.2.2.1 h1 h2 hU hW⟩⟩ rfl (by rw [List.length_map]; exact hn) (h3.1.trans hL) ?_ (lv_room (x_cat hcat)) hd ⟨by rw [hR.2.2.1]; exact hf.1, by rw [hR.2.2.2]; exact hf.2⟩) h2 h3 kk
  · rcases List.mem_cons.mp hw with rfl | hw
    · exact ⟨hws.1, good_of_word (List.mem_filter.mp hws.1).2⟩
    · exact ⟨hw, good_of_word (List.mem_filter.mp hw).2⟩
  · exact x_room hd1 hm ⟨hR.1, hR.2.1⟩
  · show (Bs ++ st).map (rn E) = _
    rw [List.map_append, hst, List.map_reverse]
/-- a method that is inherited, or one that overrides: x is what is named, y what runs, in the receiver's class ci -/
theorem x_callU (C : XC E p R s m args meth c cc own ret nL) {i q ci d D mc ms n KC KS : Nat} {owner : String} {x y : MethodName} {bytes : ByteArray} {maxL : Nat} {r : Option FieldType} {As Bs : List Value} {Q : Option Value → xM → xR → xKs → Prop}
    (hM : Sp E y (.code y bytes maxL r) d mc ms (.ref q :: As) σ ρ ks Q) {b0 : ByteArray} {m0 : Nat} {r0 : Option FieldType} (hws : Cond.code y bytes maxL r ∈ TW ∧ Cond.methodLink own i x ∈ TW ∧ Cond.sameMethod x.cls owner x.name x.desc ∈ TW ∧ Cond.instanceMethod ⟨owner, x.name, x.desc⟩ ∈ TW ∧ Cond.selects (xC ci) x y ∈ TW ∧ Cond.instanceMethod y ∈ TW ∧ Cond.initialized y.cls ∈ TW ∧ Cond.code ⟨owner, x.name, x.desc⟩ b0 m0 r0 ∈ TW)
    (hy : owner ≠ "java/lang/invoke/MethodHandle" ∧ owner ≠ "java/lang/invoke/VarHandle" ∧ (parseMethodDescriptor x.desc).map (fun d => d.parameters.length) = some n) (hq : ks[q]? = some (0, ci)) (hn : As.length = n) (hst : Bs = As.reverse) (hcat : (st.map fun v => v.category).sum ≤ 8) (hR : xRm R D KC KS) (hd1 : d < D) (hm : maxL ≤ 45) (hf : kc + mc ≤ KC ∧ ns + ms ≤ KS) (hL : L.length = nL)
    (hd : decode cc pc = .ok (.invokevirtual i, 3)) (kk : ∀ r σ' ρ' ks', Q r σ' ρ' ks' → X E p e R s m args below meth c Z (kc + mc) (ns + ms) σ' ρ' ks' (pc + 3) L (r.toList ++ st)) : X E p e R s m args below meth c Z kc ns σ ρ ks pc L (Bs ++ .ref q :: st) := by
  intro H locs ls h1 h2 h3
  obtain ⟨hci, cell, g1, g2, g3, -⟩ := h1.obj hq
  have hcls := (C.2.2.2.2.2.1.1 ci _ (xCl hci)).2
  have ht := C.2.2.2.2.1
  refine x_after (y := y) (As := (Value.ref (E.2.2.2.1 + q) :: As.map (rn E)).toArray) (Q := Q) (va_runU (As := As.map (rn E)) (n := n) (C := xC ci) (owner := owner) (x := x) (Ts := TW) (ws := Cond.code y bytes maxL r :: TW) ⟨C.1, C.2.1, C.2.2.1, C.2.2.2.1, C.2.2.2.2.1⟩ hM ⟨⟨rfl, rfl, (x_room hd1 hm ⟨hR.1, hR.2.1⟩).1, (x_room hd1 hm ⟨hR.1, hR.2.1⟩).2, pay_in ht (fun w hw => ?_), List.mem_cons_self⟩, ht _ hws.1, ht _ hws.2.2.2.2.2.2.1, ⟨hy.1, hy.2.1⟩, fun sig h => ?_, ht _ hws.2.1, ht _ hws.2.2.1, va_Decl.of (ht _ hws.2.2.2.1) (ht _ hws.2.2.2.2.2.2.2), ht _ hws.2.2.2.2.1, ht _ hws.2.2.2.2.2.1⟩ ⟨xG.blind, ⟨cell, g1, by rw [g3]; rfl, by rw [g2]; exact hcls.1⟩, fun U hU hW => ⟨rfl, xG.moved C.2.2.2.2.2.1 C.2.2.2.2.2.2.1 h1 h2 hU hW⟩⟩ rfl (by rw [List.length_map]; exact hn) (h3.1.trans hL) ?_ (lv_room (x_cat hcat)) hd ⟨by rw [hR.2.2.1]; exact hf.1, by rw [hR.2.2.2]; exact hf.2⟩) h2 h3 kk
  · rcases List.mem_cons.mp hw with rfl | hw
    · exact ⟨hws.1, good_of_word (List.mem_filter.mp hws.1).2⟩
    · exact ⟨hw, good_of_word (List.mem_filter.mp hw).2⟩
  · have h2 := hy.2.2
    rw [h] at h2
    exact (Option.some.inj h2).symm
  · show (Bs ++ .ref q :: st).map (rn E) = _
    rw [List.map_append, hst, List.map_reverse]; rfl
theorem x_callI (C : XC E p R s m args meth c cc own ret nL) {i q d D mc ms n KC KS : Nat} {y : MethodName} {bytes : ByteArray} {maxL : Nat} {As Bs : List Value} {Q : Option Value → xM → xR → xKs → Prop}
    (hM : Sp E y (.code y bytes maxL none) d mc ms (.ref q :: As) σ ρ ks Q) (hws : Cond.code y bytes maxL none ∈ TW ∧ Cond.methodLink own i y ∈ TW ∧ Cond.instanceMethod y ∈ TW ∧ Cond.initialized y.cls ∈ TW)
    (hy : y.name = "<init>" ∧ y.cls ≠ "java/lang/invoke/MethodHandle" ∧ y.cls ≠ "java/lang/invoke/VarHandle" ∧ (parseMethodDescriptor y.desc).map (fun d => d.parameters.length) = some n) (hn : As.length = n) (hst : Bs = As.reverse) (hcat : (st.map fun v => v.category).sum ≤ 8) (hR : xRm R D KC KS) (hd1 : d < D) (hm : maxL ≤ 45) (hf : kc + mc ≤ KC ∧ ns + ms ≤ KS) (hL : L.length = nL)
    (hd : decode cc pc = .ok (.invokespecial i, 3)) (kk : ∀ r σ' ρ' ks', Q r σ' ρ' ks' → X E p e R s m args below meth c Z (kc + mc) (ns + ms) σ' ρ' ks' (pc + 3) L (r.toList ++ st)) : X E p e R s m args below meth c Z kc ns σ ρ ks pc L (Bs ++ .ref q :: st) := by
  intro H locs ls h1 h2 h3
  refine x_after (y := y) (As := (Value.ref (E.2.2.2.1 + q) :: As.map (rn E)).toArray) (Q := Q) (va_runI (As := As.map (rn E)) (n := n) ⟨C.1, C.2.1, C.2.2.1, C.2.2.2.1, C.2.2.2.2.1⟩ hM ⟨callB_of n C.2.2.2.2.1 (fun w hw => ?_) rfl rfl rfl (C.2.2.2.2.1 _ hws.2.2.2) (C.2.2.2.2.1 _ hws.2.1) hy.2 ?_, hy.1, C.2.2.2.2.1 _ hws.2.2.1⟩ ⟨xG.blind, fun U hU hW => ⟨rfl, xG.moved C.2.2.2.2.2.1 C.2.2.2.2.2.2.1 h1 h2 hU hW⟩⟩ rfl (by rw [List.length_map]; exact hn) (h3.1.trans hL) ?_ (lv_room (x_cat hcat)) hd ⟨by rw [hR.2.2.1]; exact hf.1, by rw [hR.2.2.2]; exact hf.2⟩) h2 h3 kk
  · rcases List.mem_cons.mp hw with rfl | hw
    · exact ⟨hws.1, good_of_word (List.mem_filter.mp hws.1).2⟩
    · exact ⟨hw, good_of_word (List.mem_filter.mp hw).2⟩
  · exact x_room hd1 hm ⟨hR.1, hR.2.1⟩
  · show (Bs ++ .ref q :: st).map (rn E) = _
    rw [List.map_append, hst, List.map_reverse]; rfl
/-- a nest mate's constructor -/
theorem x_callIN (C : XC E p R s m args meth c cc own ret nL) {i q d D mc ms n KC KS : Nat} {y : MethodName} {host : String} {bytes : ByteArray} {maxL : Nat} {As Bs : List Value} {Q : Option Value → xM → xR → xKs → Prop}
    (hM : Sp E y (.code y bytes maxL none) d mc ms (.ref q :: As) σ ρ ks Q) (hws : Cond.code y bytes maxL none ∈ TW ∧ (own, i, y, host) ∈ xNest ∧ Cond.instanceMethod y ∈ TW ∧ Cond.initialized y.cls ∈ TW)
    (hy : y.name = "<init>" ∧ y.cls ≠ "java/lang/invoke/MethodHandle" ∧ y.cls ≠ "java/lang/invoke/VarHandle" ∧ (parseMethodDescriptor y.desc).map (fun d => d.parameters.length) = some n) (hn : As.length = n) (hst : Bs = As.reverse) (hcat : (st.map fun v => v.category).sum ≤ 8) (hR : xRm R D KC KS) (hd1 : d < D) (hm : maxL ≤ 45) (hf : kc + mc ≤ KC ∧ ns + ms ≤ KS) (hL : L.length = nL)
    (hd : decode cc pc = .ok (.invokespecial i, 3)) (kk : ∀ r σ' ρ' ks', Q r σ' ρ' ks' → X E p e R s m args below meth c Z (kc + mc) (ns + ms) σ' ρ' ks' (pc + 3) L (r.toList ++ st)) : X E p e R s m args below meth c Z kc ns σ ρ ks pc L (Bs ++ .ref q :: st) := by
  intro H locs ls h1 h2 h3
  refine x_after (y := y) (As := (Value.ref (E.2.2.2.1 + q) :: As.map (rn E)).toArray) (Q := Q) (va_runIN (As := As.map (rn E)) (n := n) (host := host) ⟨C.1, C.2.1, C.2.2.1, C.2.2.2.1, C.2.2.2.2.1⟩ hM ⟨va_cnB n C.2.2.2.2.1 (fun w hw => ?_) rfl rfl rfl (C.2.2.2.2.2.2.1.2.2.1 _ hws.2.1) (C.2.2.2.2.1 _ hws.2.2.2) hy.2 ?_, hy.1, C.2.2.2.2.1 _ hws.2.2.1⟩ ⟨xG.blind, fun U hU hW => ⟨rfl, xG.moved C.2.2.2.2.2.1 C.2.2.2.2.2.2.1 h1 h2 hU hW⟩⟩ rfl (by rw [List.length_map]; exact hn) (h3.1.trans hL) ?_ (lv_room (x_cat hcat)) hd ⟨by rw [hR.2.2.1]; exact hf.1, by rw [hR.2.2.2]; exact hf.2⟩) h2 h3 kk
  · rcases List.mem_cons.mp hw with rfl | hw
    · exact ⟨hws.1, good_of_word (List.mem_filter.mp hws.1).2⟩
    · exact ⟨hw, good_of_word (List.mem_filter.mp hw).2⟩
  · exact x_room hd1 hm ⟨hR.1, hR.2.1⟩
  · show (Bs ++ .ref q :: st).map (rn E) = _
    rw [List.map_append, hst, List.map_reverse]; rfl
/-- a nest mate's static method -/
theorem x_callSN (C : XC E p R s m args meth c cc own ret nL) {i d D mc ms n KC KS : Nat} {y : MethodName} {host : String} {bytes : ByteArray} {maxL : Nat} {r : Option FieldType} {As Bs : List Value} {Q : Option Value → xM → xR → xKs → Prop}
    (hM : Sp E y (.code y bytes maxL r) d mc ms As σ ρ ks Q) (hws : Cond.code y bytes maxL r ∈ TW ∧ (own, i, y, host) ∈ xNest ∧ Cond.static y ∈ TW ∧ Cond.initialized y.cls ∈ TW)
    (hy : y.cls ≠ "java/lang/invoke/MethodHandle" ∧ y.cls ≠ "java/lang/invoke/VarHandle" ∧ (parseMethodDescriptor y.desc).map (fun d => d.parameters.length) = some n) (hn : As.length = n) (hst : Bs = As.reverse) (hcat : (st.map fun v => v.category).sum ≤ 8) (hR : xRm R D KC KS) (hd1 : d < D) (hm : maxL ≤ 45) (hf : kc + mc ≤ KC ∧ ns + ms ≤ KS) (hL : L.length = nL)
    (hd : decode cc pc = .ok (.invokestatic i, 3)) (kk : ∀ r σ' ρ' ks', Q r σ' ρ' ks' → X E p e R s m args below meth c Z (kc + mc) (ns + ms) σ' ρ' ks' (pc + 3) L (r.toList ++ st)) : X E p e R s m args below meth c Z kc ns σ ρ ks pc L (Bs ++ st) := by
  intro H locs ls h1 h2 h3
  refine x_after (y := y) (As := (As.map (rn E)).toArray) (Q := Q) (va_runSN (As := As.map (rn E)) (n := n) (host := host) ⟨C.1, C.2.1, C.2.2.1, C.2.2.2.1, C.2.2.2.2.1⟩ hM ⟨va_cnB n C.2.2.2.2.1 (fun w hw => ?_) rfl rfl rfl (C.2.2.2.2.2.2.1.2.2.1 _ hws.2.1) (C.2.2.2.2.1 _ hws.2.2.2) hy ?_, C.2.2.2.2.1 _ hws.2.2.1, trivial⟩ ⟨xG.blind, fun U hU hW => ⟨rfl, xG.moved C.2.2.2.2.2.1 C.2.2.2.2.2.2.1 h1 h2 hU hW⟩⟩ rfl (by rw [List.length_map]; exact hn) (h3.1.trans hL) ?_ (lv_room (x_cat hcat)) hd ⟨by rw [hR.2.2.1]; exact hf.1, by rw [hR.2.2.2]; exact hf.2⟩) h2 h3 kk
  · rcases List.mem_cons.mp hw with rfl | hw
    · exact ⟨hws.1, good_of_word (List.mem_filter.mp hws.1).2⟩
    · exact ⟨hw, good_of_word (List.mem_filter.mp hw).2⟩
  · exact x_room hd1 hm ⟨hR.1, hR.2.1⟩
  · show (Bs ++ st).map (rn E) = _
    rw [List.map_append, hst, List.map_reverse]
/-- super.method(..) -/
theorem x_callSU (C : XC E p R s m args meth c cc own ret nL) {i q ci d D mc ms n KC KS : Nat} {y : MethodName} {bytes : ByteArray} {maxL : Nat} {r : Option FieldType} {As Bs : List Value} {Q : Option Value → xM → xR → xKs → Prop}
    (hM : Sp E y (.code y bytes maxL r) d mc ms (.ref q :: As) σ ρ ks Q) (hws : Cond.code y bytes maxL r ∈ TW ∧ Cond.methodLink own i y ∈ TW ∧ Cond.sameMethod y.cls y.cls y.name y.desc ∈ TW ∧ Cond.superclass own y.cls ∈ TW ∧ Cond.instanceMethod y ∈ TW ∧ Cond.initialized y.cls ∈ TW)
    (hy : y.name ≠ "<init>" ∧ (parseMethodDescriptor y.desc).map (fun d => d.parameters.length) = some n) (hq : ks[q]? = some (0, ci)) (hn : As.length = n) (hst : Bs = As.reverse) (hcat : (st.map fun v => v.category).sum ≤ 8) (hR : xRm R D KC KS) (hd1 : d < D) (hm : maxL ≤ 45) (hf : kc + mc ≤ KC ∧ ns + ms ≤ KS) (hL : L.length = nL)
    (hd : decode cc pc = .ok (.invokespecial i, 3)) (kk : ∀ r σ' ρ' ks', Q r σ' ρ' ks' → X E p e R s m args below meth c Z (kc + mc) (ns + ms) σ' ρ' ks' (pc + 3) L (r.toList ++ st)) : X E p e R s m args below meth c Z kc ns σ ρ ks pc L (Bs ++ .ref q :: st) := by
  intro H locs ls h1 h2 h3
  obtain ⟨hci, cell, g1, g2, g3, -⟩ := h1.obj hq
  have hcls := (C.2.2.2.2.2.1.1 ci _ (xCl hci)).2
  have ht := C.2.2.2.2.1
  refine x_after (y := y) (As := (Value.ref (E.2.2.2.1 + q) :: As.map (rn E)).toArray) (Q := Q) (va_runSU (As := As.map (rn E)) (n := n) (C := xC ci) (Ts := TW) (ws := Cond.code y bytes maxL r :: TW) hcls ⟨C.1, C.2.1, C.2.2.1, C.2.2.2.1, C.2.2.2.2.1⟩ hM ⟨⟨rfl, rfl, (x_room hd1 hm ⟨hR.1, hR.2.1⟩).1, (x_room hd1 hm ⟨hR.1, hR.2.1⟩).2, pay_in ht (fun w hw => ?_), List.mem_cons_self⟩, ht _ hws.2.1, ht _ hws.2.2.1, ht _ hws.2.2.2.1, ht _ hws.2.2.2.2.1, ht _ hws.2.2.2.2.2, ht _ hws.1, hy.1, fun sig h => ?_⟩ ⟨xG.blind, ⟨cell, g1, by rw [g3]; rfl, by rw [g2]; exact hcls.1⟩, fun U hU hW => ⟨rfl, xG.moved C.2.2.2.2.2.1 C.2.2.2.2.2.2.1 h1 h2 hU hW⟩⟩ rfl (by rw [List.length_map]; exact hn) (h3.1.trans hL) ?_ (lv_room (x_cat hcat)) hd ⟨by rw [hR.2.2.1]; exact hf.1, by rw [hR.2.2.2]; exact hf.2⟩) h2 h3 kk
  · rcases List.mem_cons.mp hw with rfl | hw
    · exact ⟨hws.1, good_of_word (List.mem_filter.mp hws.1).2⟩
    · exact ⟨hw, good_of_word (List.mem_filter.mp hw).2⟩
  · have h2 := hy.2
    rw [h] at h2
    exact (Option.some.inj h2).symm
  · show (Bs ++ .ref q :: st).map (rn E) = _
    rw [List.map_append, hst, List.map_reverse]; rfl
theorem x_callV1 (C : XC E p R s m args meth c cc own ret nL) {i q ci d D n KC KS : Nat} {y : MethodName} {bytes : ByteArray} {maxL : Nat} {r : Option FieldType} {As Bs : List Value} {v1 : Value} {σ1 : xM} {ρ1 : xR} {ks1 : xKs}
    (hM : Sp E y (.code y bytes maxL r) d 0 0 (.ref q :: As) σ ρ ks (Fn (some v1) σ1 ρ1 ks1)) (hws : Cond.code y bytes maxL r ∈ TW ∧ Cond.methodLink own i y ∈ TW ∧ Cond.instanceMethod y ∈ TW ∧ Cond.selects (xC ci) y y ∈ TW ∧ Cond.initialized y.cls ∈ TW)
    (hy : y.cls ≠ "java/lang/invoke/MethodHandle" ∧ y.cls ≠ "java/lang/invoke/VarHandle" ∧ (parseMethodDescriptor y.desc).map (fun d => d.parameters.length) = some n) (hq : ks[q]? = some (0, ci)) (hn : As.length = n) (hst : Bs = As.reverse) (hcat : (st.map fun v => v.category).sum ≤ 8) (hR : xRm R D KC KS) (hd1 : d < D) (hm : maxL ≤ 45) (hf : kc ≤ KC ∧ ns ≤ KS) (hL : L.length = nL)
    (hd : decode cc pc = .ok (.invokevirtual i, 3)) (kk : X E p e R s m args below meth c Z kc ns σ1 ρ1 ks1 (pc + 3) L (v1 :: st)) : X E p e R s m args below meth c Z kc ns σ ρ ks pc L (Bs ++ .ref q :: st) :=
  x_callV C hM hws hy hq hn hst hcat hR hd1 hm hf hL hd (fun r σ' ρ' ks' h => by obtain ⟨rfl, rfl, rfl, rfl⟩ := h; exact kk)
theorem x_callV0 (C : XC E p R s m args meth c cc own ret nL) {i q ci d D n KC KS : Nat} {y : MethodName} {bytes : ByteArray} {maxL : Nat} {r : Option FieldType} {As Bs : List Value} {σ1 : xM} {ρ1 : xR} {ks1 : xKs}
    (hM : Sp E y (.code y bytes maxL r) d 0 0 (.ref q :: As) σ ρ ks (Fn none σ1 ρ1 ks1)) (hws : Cond.code y bytes maxL r ∈ TW ∧ Cond.methodLink own i y ∈ TW ∧ Cond.instanceMethod y ∈ TW ∧ Cond.selects (xC ci) y y ∈ TW ∧ Cond.initialized y.cls ∈ TW)
    (hy : y.cls ≠ "java/lang/invoke/MethodHandle" ∧ y.cls ≠ "java/lang/invoke/VarHandle" ∧ (parseMethodDescriptor y.desc).map (fun d => d.parameters.length) = some n) (hq : ks[q]? = some (0, ci)) (hn : As.length = n) (hst : Bs = As.reverse) (hcat : (st.map fun v => v.category).sum ≤ 8) (hR : xRm R D KC KS) (hd1 : d < D) (hm : maxL ≤ 45) (hf : kc ≤ KC ∧ ns ≤ KS) (hL : L.length = nL)
    (hd : decode cc pc = .ok (.invokevirtual i, 3)) (kk : X E p e R s m args below meth c Z kc ns σ1 ρ1 ks1 (pc + 3) L (st)) : X E p e R s m args below meth c Z kc ns σ ρ ks pc L (Bs ++ .ref q :: st) :=
  x_callV C hM hws hy hq hn hst hcat hR hd1 hm hf hL hd (fun r σ' ρ' ks' h => by obtain ⟨rfl, rfl, rfl, rfl⟩ := h; exact kk)
theorem x_callS1 (C : XC E p R s m args meth c cc own ret nL) {i d D n KC KS : Nat} {y : MethodName} {bytes : ByteArray} {maxL : Nat} {r : Option FieldType} {As Bs : List Value} {v1 : Value} {σ1 : xM} {ρ1 : xR} {ks1 : xKs}
    (hM : Sp E y (.code y bytes maxL r) d 0 0 As σ ρ ks (Fn (some v1) σ1 ρ1 ks1)) (hws : Cond.code y bytes maxL r ∈ TW ∧ Cond.methodLink own i y ∈ TW ∧ Cond.static y ∈ TW ∧ Cond.initialized y.cls ∈ TW)
    (hy : y.cls ≠ "java/lang/invoke/MethodHandle" ∧ y.cls ≠ "java/lang/invoke/VarHandle" ∧ (parseMethodDescriptor y.desc).map (fun d => d.parameters.length) = some n) (hn : As.length = n) (hst : Bs = As.reverse) (hcat : (st.map fun v => v.category).sum ≤ 8) (hR : xRm R D KC KS) (hd1 : d < D) (hm : maxL ≤ 45) (hf : kc ≤ KC ∧ ns ≤ KS) (hL : L.length = nL)
    (hd : decode cc pc = .ok (.invokestatic i, 3)) (kk : X E p e R s m args below meth c Z kc ns σ1 ρ1 ks1 (pc + 3) L (v1 :: st)) : X E p e R s m args below meth c Z kc ns σ ρ ks pc L (Bs ++ st) :=
  x_callS C hM hws hy hn hst hcat hR hd1 hm hf hL hd (fun r σ' ρ' ks' h => by obtain ⟨rfl, rfl, rfl, rfl⟩ := h; exact kk)
theorem x_callS0 (C : XC E p R s m args meth c cc own ret nL) {i d D n KC KS : Nat} {y : MethodName} {bytes : ByteArray} {maxL : Nat} {r : Option FieldType} {As Bs : List Value} {σ1 : xM} {ρ1 : xR} {ks1 : xKs}
    (hM : Sp E y (.code y bytes maxL r) d 0 0 As σ ρ ks (Fn none σ1 ρ1 ks1)) (hws : Cond.code y bytes maxL r ∈ TW ∧ Cond.methodLink own i y ∈ TW ∧ Cond.static y ∈ TW ∧ Cond.initialized y.cls ∈ TW)
    (hy : y.cls ≠ "java/lang/invoke/MethodHandle" ∧ y.cls ≠ "java/lang/invoke/VarHandle" ∧ (parseMethodDescriptor y.desc).map (fun d => d.parameters.length) = some n) (hn : As.length = n) (hst : Bs = As.reverse) (hcat : (st.map fun v => v.category).sum ≤ 8) (hR : xRm R D KC KS) (hd1 : d < D) (hm : maxL ≤ 45) (hf : kc ≤ KC ∧ ns ≤ KS) (hL : L.length = nL)
    (hd : decode cc pc = .ok (.invokestatic i, 3)) (kk : X E p e R s m args below meth c Z kc ns σ1 ρ1 ks1 (pc + 3) L (st)) : X E p e R s m args below meth c Z kc ns σ ρ ks pc L (Bs ++ st) :=
  x_callS C hM hws hy hn hst hcat hR hd1 hm hf hL hd (fun r σ' ρ' ks' h => by obtain ⟨rfl, rfl, rfl, rfl⟩ := h; exact kk)
theorem x_callU1 (C : XC E p R s m args meth c cc own ret nL) {i q ci d D n KC KS : Nat} {owner : String} {x y : MethodName} {bytes : ByteArray} {maxL : Nat} {r : Option FieldType} {As Bs : List Value} {v1 : Value} {σ1 : xM} {ρ1 : xR} {ks1 : xKs}
    (hM : Sp E y (.code y bytes maxL r) d 0 0 (.ref q :: As) σ ρ ks (Fn (some v1) σ1 ρ1 ks1)) {b0 : ByteArray} {m0 : Nat} {r0 : Option FieldType} (hws : Cond.code y bytes maxL r ∈ TW ∧ Cond.methodLink own i x ∈ TW ∧ Cond.sameMethod x.cls owner x.name x.desc ∈ TW ∧ Cond.instanceMethod ⟨owner, x.name, x.desc⟩ ∈ TW ∧ Cond.selects (xC ci) x y ∈ TW ∧ Cond.instanceMethod y ∈ TW ∧ Cond.initialized y.cls ∈ TW ∧ Cond.code ⟨owner, x.name, x.desc⟩ b0 m0 r0 ∈ TW)
    (hy : owner ≠ "java/lang/invoke/MethodHandle" ∧ owner ≠ "java/lang/invoke/VarHandle" ∧ (parseMethodDescriptor x.desc).map (fun d => d.parameters.length) = some n) (hq : ks[q]? = some (0, ci)) (hn : As.length = n) (hst : Bs = As.reverse) (hcat : (st.map fun v => v.category).sum ≤ 8) (hR : xRm R D KC KS) (hd1 : d < D) (hm : maxL ≤ 45) (hf : kc ≤ KC ∧ ns ≤ KS) (hL : L.length = nL)
    (hd : decode cc pc = .ok (.invokevirtual i, 3)) (kk : X E p e R s m args below meth c Z kc ns σ1 ρ1 ks1 (pc + 3) L (v1 :: st)) : X E p e R s m args below meth c Z kc ns σ ρ ks pc L (Bs ++ .ref q :: st) :=
  x_callU C hM hws hy hq hn hst hcat hR hd1 hm hf hL hd (fun r σ' ρ' ks' h => by obtain ⟨rfl, rfl, rfl, rfl⟩ := h; exact kk)
theorem x_callU0 (C : XC E p R s m args meth c cc own ret nL) {i q ci d D n KC KS : Nat} {owner : String} {x y : MethodName} {bytes : ByteArray} {maxL : Nat} {r : Option FieldType} {As Bs : List Value} {σ1 : xM} {ρ1 : xR} {ks1 : xKs}
    (hM : Sp E y (.code y bytes maxL r) d 0 0 (.ref q :: As) σ ρ ks (Fn none σ1 ρ1 ks1)) {b0 : ByteArray} {m0 : Nat} {r0 : Option FieldType} (hws : Cond.code y bytes maxL r ∈ TW ∧ Cond.methodLink own i x ∈ TW ∧ Cond.sameMethod x.cls owner x.name x.desc ∈ TW ∧ Cond.instanceMethod ⟨owner, x.name, x.desc⟩ ∈ TW ∧ Cond.selects (xC ci) x y ∈ TW ∧ Cond.instanceMethod y ∈ TW ∧ Cond.initialized y.cls ∈ TW ∧ Cond.code ⟨owner, x.name, x.desc⟩ b0 m0 r0 ∈ TW)
    (hy : owner ≠ "java/lang/invoke/MethodHandle" ∧ owner ≠ "java/lang/invoke/VarHandle" ∧ (parseMethodDescriptor x.desc).map (fun d => d.parameters.length) = some n) (hq : ks[q]? = some (0, ci)) (hn : As.length = n) (hst : Bs = As.reverse) (hcat : (st.map fun v => v.category).sum ≤ 8) (hR : xRm R D KC KS) (hd1 : d < D) (hm : maxL ≤ 45) (hf : kc ≤ KC ∧ ns ≤ KS) (hL : L.length = nL)
    (hd : decode cc pc = .ok (.invokevirtual i, 3)) (kk : X E p e R s m args below meth c Z kc ns σ1 ρ1 ks1 (pc + 3) L (st)) : X E p e R s m args below meth c Z kc ns σ ρ ks pc L (Bs ++ .ref q :: st) :=
  x_callU C hM hws hy hq hn hst hcat hR hd1 hm hf hL hd (fun r σ' ρ' ks' h => by obtain ⟨rfl, rfl, rfl, rfl⟩ := h; exact kk)
theorem x_callI1 (C : XC E p R s m args meth c cc own ret nL) {i q d D n KC KS : Nat} {y : MethodName} {bytes : ByteArray} {maxL : Nat} {As Bs : List Value} {v1 : Value} {σ1 : xM} {ρ1 : xR} {ks1 : xKs}
    (hM : Sp E y (.code y bytes maxL none) d 0 0 (.ref q :: As) σ ρ ks (Fn (some v1) σ1 ρ1 ks1)) (hws : Cond.code y bytes maxL none ∈ TW ∧ Cond.methodLink own i y ∈ TW ∧ Cond.instanceMethod y ∈ TW ∧ Cond.initialized y.cls ∈ TW)
    (hy : y.name = "<init>" ∧ y.cls ≠ "java/lang/invoke/MethodHandle" ∧ y.cls ≠ "java/lang/invoke/VarHandle" ∧ (parseMethodDescriptor y.desc).map (fun d => d.parameters.length) = some n) (hn : As.length = n) (hst : Bs = As.reverse) (hcat : (st.map fun v => v.category).sum ≤ 8) (hR : xRm R D KC KS) (hd1 : d < D) (hm : maxL ≤ 45) (hf : kc ≤ KC ∧ ns ≤ KS) (hL : L.length = nL)
    (hd : decode cc pc = .ok (.invokespecial i, 3)) (kk : X E p e R s m args below meth c Z kc ns σ1 ρ1 ks1 (pc + 3) L (v1 :: st)) : X E p e R s m args below meth c Z kc ns σ ρ ks pc L (Bs ++ .ref q :: st) :=
  x_callI C hM hws hy hn hst hcat hR hd1 hm hf hL hd (fun r σ' ρ' ks' h => by obtain ⟨rfl, rfl, rfl, rfl⟩ := h; exact kk)
theorem x_callI0 (C : XC E p R s m args meth c cc own ret nL) {i q d D n KC KS : Nat} {y : MethodName} {bytes : ByteArray} {maxL : Nat} {As Bs : List Value} {σ1 : xM} {ρ1 : xR} {ks1 : xKs}
    (hM : Sp E y (.code y bytes maxL none) d 0 0 (.ref q :: As) σ ρ ks (Fn none σ1 ρ1 ks1)) (hws : Cond.code y bytes maxL none ∈ TW ∧ Cond.methodLink own i y ∈ TW ∧ Cond.instanceMethod y ∈ TW ∧ Cond.initialized y.cls ∈ TW)
    (hy : y.name = "<init>" ∧ y.cls ≠ "java/lang/invoke/MethodHandle" ∧ y.cls ≠ "java/lang/invoke/VarHandle" ∧ (parseMethodDescriptor y.desc).map (fun d => d.parameters.length) = some n) (hn : As.length = n) (hst : Bs = As.reverse) (hcat : (st.map fun v => v.category).sum ≤ 8) (hR : xRm R D KC KS) (hd1 : d < D) (hm : maxL ≤ 45) (hf : kc ≤ KC ∧ ns ≤ KS) (hL : L.length = nL)
    (hd : decode cc pc = .ok (.invokespecial i, 3)) (kk : X E p e R s m args below meth c Z kc ns σ1 ρ1 ks1 (pc + 3) L (st)) : X E p e R s m args below meth c Z kc ns σ ρ ks pc L (Bs ++ .ref q :: st) :=
  x_callI C hM hws hy hn hst hcat hR hd1 hm hf hL hd (fun r σ' ρ' ks' h => by obtain ⟨rfl, rfl, rfl, rfl⟩ := h; exact kk)
theorem x_callSU1 (C : XC E p R s m args meth c cc own ret nL) {i q ci d D n KC KS : Nat} {y : MethodName} {bytes : ByteArray} {maxL : Nat} {r : Option FieldType} {As Bs : List Value} {v1 : Value} {σ1 : xM} {ρ1 : xR} {ks1 : xKs}
    (hM : Sp E y (.code y bytes maxL r) d 0 0 (.ref q :: As) σ ρ ks (Fn (some v1) σ1 ρ1 ks1)) (hws : Cond.code y bytes maxL r ∈ TW ∧ Cond.methodLink own i y ∈ TW ∧ Cond.sameMethod y.cls y.cls y.name y.desc ∈ TW ∧ Cond.superclass own y.cls ∈ TW ∧ Cond.instanceMethod y ∈ TW ∧ Cond.initialized y.cls ∈ TW)
    (hy : y.name ≠ "<init>" ∧ (parseMethodDescriptor y.desc).map (fun d => d.parameters.length) = some n) (hq : ks[q]? = some (0, ci)) (hn : As.length = n) (hst : Bs = As.reverse) (hcat : (st.map fun v => v.category).sum ≤ 8) (hR : xRm R D KC KS) (hd1 : d < D) (hm : maxL ≤ 45) (hf : kc ≤ KC ∧ ns ≤ KS) (hL : L.length = nL)
    (hd : decode cc pc = .ok (.invokespecial i, 3)) (kk : X E p e R s m args below meth c Z kc ns σ1 ρ1 ks1 (pc + 3) L (v1 :: st)) : X E p e R s m args below meth c Z kc ns σ ρ ks pc L (Bs ++ .ref q :: st) :=
  x_callSU C hM hws hy hq hn hst hcat hR hd1 hm hf hL hd (fun r σ' ρ' ks' h => by obtain ⟨rfl, rfl, rfl, rfl⟩ := h; exact kk)
theorem x_callSU0 (C : XC E p R s m args meth c cc own ret nL) {i q ci d D n KC KS : Nat} {y : MethodName} {bytes : ByteArray} {maxL : Nat} {r : Option FieldType} {As Bs : List Value} {σ1 : xM} {ρ1 : xR} {ks1 : xKs}
    (hM : Sp E y (.code y bytes maxL r) d 0 0 (.ref q :: As) σ ρ ks (Fn none σ1 ρ1 ks1)) (hws : Cond.code y bytes maxL r ∈ TW ∧ Cond.methodLink own i y ∈ TW ∧ Cond.sameMethod y.cls y.cls y.name y.desc ∈ TW ∧ Cond.superclass own y.cls ∈ TW ∧ Cond.instanceMethod y ∈ TW ∧ Cond.initialized y.cls ∈ TW)
    (hy : y.name ≠ "<init>" ∧ (parseMethodDescriptor y.desc).map (fun d => d.parameters.length) = some n) (hq : ks[q]? = some (0, ci)) (hn : As.length = n) (hst : Bs = As.reverse) (hcat : (st.map fun v => v.category).sum ≤ 8) (hR : xRm R D KC KS) (hd1 : d < D) (hm : maxL ≤ 45) (hf : kc ≤ KC ∧ ns ≤ KS) (hL : L.length = nL)
    (hd : decode cc pc = .ok (.invokespecial i, 3)) (kk : X E p e R s m args below meth c Z kc ns σ1 ρ1 ks1 (pc + 3) L (st)) : X E p e R s m args below meth c Z kc ns σ ρ ks pc L (Bs ++ .ref q :: st) :=
  x_callSU C hM hws hy hq hn hst hcat hR hd1 hm hf hL hd (fun r σ' ρ' ks' h => by obtain ⟨rfl, rfl, rfl, rfl⟩ := h; exact kk)
theorem x_callSN1 (C : XC E p R s m args meth c cc own ret nL) {i d D n KC KS : Nat} {y : MethodName} {host : String} {bytes : ByteArray} {maxL : Nat} {r : Option FieldType} {As Bs : List Value} {v1 : Value} {σ1 : xM} {ρ1 : xR} {ks1 : xKs}
    (hM : Sp E y (.code y bytes maxL r) d 0 0 As σ ρ ks (Fn (some v1) σ1 ρ1 ks1)) (hws : Cond.code y bytes maxL r ∈ TW ∧ (own, i, y, host) ∈ xNest ∧ Cond.static y ∈ TW ∧ Cond.initialized y.cls ∈ TW)
    (hy : y.cls ≠ "java/lang/invoke/MethodHandle" ∧ y.cls ≠ "java/lang/invoke/VarHandle" ∧ (parseMethodDescriptor y.desc).map (fun d => d.parameters.length) = some n) (hn : As.length = n) (hst : Bs = As.reverse) (hcat : (st.map fun v => v.category).sum ≤ 8) (hR : xRm R D KC KS) (hd1 : d < D) (hm : maxL ≤ 45) (hf : kc ≤ KC ∧ ns ≤ KS) (hL : L.length = nL)
    (hd : decode cc pc = .ok (.invokestatic i, 3)) (kk : X E p e R s m args below meth c Z kc ns σ1 ρ1 ks1 (pc + 3) L (v1 :: st)) : X E p e R s m args below meth c Z kc ns σ ρ ks pc L (Bs ++ st) :=
  x_callSN C hM hws hy hn hst hcat hR hd1 hm hf hL hd (fun r σ' ρ' ks' h => by obtain ⟨rfl, rfl, rfl, rfl⟩ := h; exact kk)
theorem x_callSN0 (C : XC E p R s m args meth c cc own ret nL) {i d D n KC KS : Nat} {y : MethodName} {host : String} {bytes : ByteArray} {maxL : Nat} {r : Option FieldType} {As Bs : List Value} {σ1 : xM} {ρ1 : xR} {ks1 : xKs}
    (hM : Sp E y (.code y bytes maxL r) d 0 0 As σ ρ ks (Fn none σ1 ρ1 ks1)) (hws : Cond.code y bytes maxL r ∈ TW ∧ (own, i, y, host) ∈ xNest ∧ Cond.static y ∈ TW ∧ Cond.initialized y.cls ∈ TW)
    (hy : y.cls ≠ "java/lang/invoke/MethodHandle" ∧ y.cls ≠ "java/lang/invoke/VarHandle" ∧ (parseMethodDescriptor y.desc).map (fun d => d.parameters.length) = some n) (hn : As.length = n) (hst : Bs = As.reverse) (hcat : (st.map fun v => v.category).sum ≤ 8) (hR : xRm R D KC KS) (hd1 : d < D) (hm : maxL ≤ 45) (hf : kc ≤ KC ∧ ns ≤ KS) (hL : L.length = nL)
    (hd : decode cc pc = .ok (.invokestatic i, 3)) (kk : X E p e R s m args below meth c Z kc ns σ1 ρ1 ks1 (pc + 3) L (st)) : X E p e R s m args below meth c Z kc ns σ ρ ks pc L (Bs ++ st) :=
  x_callSN C hM hws hy hn hst hcat hR hd1 hm hf hL hd (fun r σ' ρ' ks' h => by obtain ⟨rfl, rfl, rfl, rfl⟩ := h; exact kk)
/-! ends -/
/-- where a method's walk wants to come -/
abbrev XZ (E : xE) (below : List Frame) (args : Array Value) (s : State) (mc ms : Nat) (Q : Option Value → xM → xR → xKs → Prop) : State → Prop := MQ below (xQ E Q) args s mc ms (xA E)
theorem x_ireturn (C : XC E p R s m args meth c cc own (some .int) nL) {mc ms : Nat} {v : Int32} {Q : Option Value → xM → xR → xKs → Prop} (hZ : XZ E below args s mc ms Q = Z) (hd : decode cc pc = .ok (.ireturn, 1)) (h1 : kc ≤ mc) (h2 : ns ≤ ms) (hq : Q (some (.int v)) σ ρ ks) : X E p e R s m args below meth c Z kc ns σ ρ ks pc L [.int v] := by
  subst hZ
  exact fun H locs ls g1 g2 g3 => W.widen h1 h2 (W.iret C.1 C.2.1 C.2.2.2.2.2.2.2.1 (fun t ht hW => ⟨⟨_, σ, ρ, ks, rfl, hq, by rw [ht]; exact g1⟩, g2.F ht⟩) g2.2.2 hd C.2.2.2.2.2.2.2.2)
theorem x_zreturn (C : XC E p R s m args meth c cc own (some .boolean) nL) {mc ms : Nat} {z : Int} {Q : Option Value → xM → xR → xKs → Prop} (hZ : XZ E below args s mc ms Q = Z) (hz : z = 0 ∨ z = 1) (hd : decode cc pc = .ok (.ireturn, 1)) (h1 : kc ≤ mc) (h2 : ns ≤ ms) (hq : Q (some (.int (iI z))) σ ρ ks) : X E p e R s m args below meth c Z kc ns σ ρ ks pc L [.int (iI z)] := by
  subst hZ
  exact fun H locs ls g1 g2 g3 => W.widen h1 h2 (W.zret C.1 C.2.1 C.2.2.2.2.2.2.2.1 (nar_b hz).1 (fun t ht hW => ⟨⟨some (.int (iI z)), σ, ρ, ks, rfl, hq, by rw [ht]; exact g1⟩, g2.F ht⟩) g2.2.2 hd C.2.2.2.2.2.2.2.2)
theorem x_lreturn (C : XC E p R s m args meth c cc own (some .long) nL) {mc ms : Nat} {v : Int64} {Q : Option Value → xM → xR → xKs → Prop} (hZ : XZ E below args s mc ms Q = Z) (hd : decode cc pc = .ok (.lreturn, 1)) (h1 : kc ≤ mc) (h2 : ns ≤ ms) (hq : Q (some (.long v)) σ ρ ks) : X E p e R s m args below meth c Z kc ns σ ρ ks pc L [.long v] := by
  subst hZ
  exact fun H locs ls g1 g2 g3 => W.widen h1 h2 (W.lret C.1 C.2.1 C.2.2.2.2.2.2.2.1 (fun t ht hW => ⟨⟨some (.long v), σ, ρ, ks, rfl, hq, by rw [ht]; exact g1⟩, g2.F ht⟩) g2.2.2 hd C.2.2.2.2.2.2.2.2)
theorem x_return (C : XC E p R s m args meth c cc own none nL) {mc ms : Nat} {Q : Option Value → xM → xR → xKs → Prop} (hZ : XZ E below args s mc ms Q = Z) (hd : decode cc pc = .ok (.return_, 1)) (h1 : kc ≤ mc) (h2 : ns ≤ ms) (hq : Q none σ ρ ks) : X E p e R s m args below meth c Z kc ns σ ρ ks pc L [] := by
  subst hZ
  exact fun H locs ls g1 g2 g3 => W.widen h1 h2 (W.vret C.1 C.2.1 C.2.2.2.2.2.2.2.1 (fun t ht hW => ⟨⟨none, σ, ρ, ks, rfl, hq, by rw [ht]; exact g1⟩, g2.F ht⟩) g2.2.2 hd C.2.2.2.2.2.2.2.2)
theorem x_areturn {cn : String} (C : XC E p R s m args meth c cc own (some (.object cn)) nL) {mc ms : Nat} (r : Option Nat) {v : Value} (hv : v = rv r) {Q : Option Value → xM → xR → xKs → Prop} (hZ : XZ E below args s mc ms Q = Z) (hd : decode cc pc = .ok (.areturn, 1)) (h1 : kc ≤ mc) (h2 : ns ≤ ms) (hq : Q (some (rv r)) σ ρ ks) : X E p e R s m args below meth c Z kc ns σ ρ ks pc L [v] := by
  subst hv
  subst hZ
  exact fun H locs ls g1 g2 g3 => W.widen h1 h2 (W.aret C.1 C.2.1 C.2.2.2.2.2.2.2.1 (Or.inl ⟨cn, rfl⟩) (by cases r; exact Or.inl rfl; exact Or.inr ⟨_, rfl⟩) (fun t ht hW => ⟨⟨some (rv r), σ, ρ, ks, rfl, hq, by rw [ht]; exact g1⟩, g2.F ht⟩) g2.2.2 hd C.2.2.2.2.2.2.2.2)
theorem X.drop {L' : List (Option Value)} (h : xLe L' L) (k : X E p e R s m args below meth c Z kc ns σ ρ ks pc L' st) : X E p e R s m args below meth c Z kc ns σ ρ ks pc L st :=
  fun H locs ls h1 h2 h3 => k H locs ls h1 h2 ⟨h3.1.trans (xLe_len h).symm, h3.2.1, fun i v hv => h3.2.2 i v (xLe_at h hv)⟩
theorem X.gen {P : xM → Prop} (h : P σ) (k : ∀ σ', P σ' → X E p e R s m args below meth c Z kc ns σ' ρ ks pc L st) : X E p e R s m args below meth c Z kc ns σ ρ ks pc L st := k σ h
theorem X.mem {σ' : xM} (h : σ = σ') (k : X E p e R s m args below meth c Z kc ns σ' ρ ks pc L st) : X E p e R s m args below meth c Z kc ns σ ρ ks pc L st := h ▸ k
theorem X.loc {L' : List (Option Value)} (h : L = L') (k : X E p e R s m args below meth c Z kc ns σ ρ ks pc L' st) : X E p e R s m args below meth c Z kc ns σ ρ ks pc L st := h ▸ k
theorem X.stk {st' : List Value} (h : st = st') (k : X E p e R s m args below meth c Z kc ns σ ρ ks pc L st') : X E p e R s m args below meth c Z kc ns σ ρ ks pc L st := h ▸ k
end XCALL
/-- the locals at a method's entry -/
def xIn (nL : Nat) (As : List Value) : List (Option Value) := (List.range nL).map (fun i => ((lv_args 0 As).find? (fun q => q.1 == i)).map (fun q => q.2))
theorem lv_args_rn (E : xE) : ∀ (As : List Value) (i : Nat), lv_args i (As.map (rn E)) = (lv_args i As).map (fun q => (q.1, rn E q.2))
  | [], _ => rfl
  | v :: As, i => by
    show (i, rn E v) :: lv_args (if (rn E v).category = 2 then i + 2 else i + 1) (As.map (rn E)) = (i, rn E v) :: (lv_args (if v.category = 2 then i + 2 else i + 1) As).map _
    rw [rn_cat, lv_args_rn E As]
theorem xIn_ok (E : xE) (nL : Nat) (As : List Value) (ls : Array Slot) (h : lv_has ls nL (lv_args 0 (As.map (rn E)))) : xL E ls (xIn nL As) := by
  refine ⟨by rw [h.1]; simp [xIn], h.2.1, fun i v hv => ?_⟩
  unfold xIn at hv
  rw [List.getElem?_map] at hv
  cases hr : (List.range nL)[i]? with
  | none => rw [hr] at hv; cases hv
  | some j =>
    rw [hr] at hv
    have hj : i = j := by
      have := List.getElem?_range (i := i) (n := nL) (by have := (List.getElem?_eq_some_iff.mp hr).1; simpa using this)
      rw [this] at hr
      exact Option.some.inj hr
    subst hj
    simp only [Option.map_some, Option.some.injEq] at hv
    cases hf : (lv_args 0 As).find? (fun q => q.1 == i) with
    | none => rw [hf] at hv; cases hv
    | some q =>
      rw [hf] at hv
      cases hv
      have h1 := List.mem_of_find?_eq_some hf
      have h2 := List.find?_some hf
      have h3 : q.1 = i := by simpa using h2
      rw [← h3]
      exact h.2.2 (q.1, rn E q.2) (by rw [lv_args_rn]; exact List.mem_map.mpr ⟨q, h1, rfl⟩)
/-- a contract out of a walk -/
theorem x_enter {E : xE} {y : MethodName} {bytes : ByteArray} {maxL : Nat} {r : Option FieldType} {d mc ms : Nat} {As : List Value} {σ : xM} {ρ : xR} {ks : xKs} {Q : Option Value → xM → xR → xKs → Prop} {own : String} {L : List (Option Value)}
    (hy : plainName y.cls = true) (ho : own = y.cls) (hlen : (lg_sl As).length ≤ maxL) (hL : xIn maxL As = L)
    (kk : ∀ p e R s m args below meth c Z, XZ E below args s mc ms Q = Z → XC E p R s m args meth c bytes own r maxL → xRm R d mc ms → meth.name = y.name → X E p e R s m args below meth c Z 0 0 σ ρ ks 0 L []) : Sp E y (.code y bytes maxL r) d mc ms As σ ρ ks Q := by
  refine Met.ofW (cc := bytes) (maxL := maxL) (ret := r) hy rfl ?_
  intro p e s m args below meth c s₁ B hml hv
  obtain ⟨rfl, hH, hK, hS⟩ := hv
  have hts : ∀ w ∈ TW, w.before (As.map (rn E)).toArray s = true := fun w hw => atoms_spec (ws := Cond.code y bytes maxL r :: TW) B.pre w (List.mem_cons_of_mem _ hw)
  have hC : XC E p { frames := d, cells := mc, slots := ms, locals := 64 * d } s m (As.map (rn E)).toArray meth c bytes own r maxL := ⟨B.exec, B.bytes, hml, by rw [ho]; exact findClass_of_methodNamed B.named, hts, hK, hS, B.returns, B.notSynchronized⟩
  have hsl : (lg_sl (As.map (rn E))).length ≤ maxL := by
    have : ∀ As : List Value, (lg_sl (As.map (rn E))).length = (lg_sl As).length := by
      intro As
      induction As with
      | nil => rfl
      | cons v As ih =>
        show (lg_sl (rn E v :: As.map (rn E))).length = (lg_sl (v :: As)).length
        simp only [lg_sl, List.flatMap_cons, List.length_append] at ih ⊢
        rw [ih, rn_cat]
        by_cases h : v.category = 2 <;> simp [h]
    rw [this]; exact hlen
  have hl := lv_entry (As.map (rn E)) hsl
  rw [lg_entry_eq]
  exact kk p e _ s m _ below meth c _ rfl hC ⟨rfl, rfl, rfl, rfl⟩ (name_of_methodNamed B.named B.method).1 s.heap [] _ hH va_S.rf (hL ▸ xIn_ok E maxL As _ hl)
