/-! calls, ends, new cells -/
theorem xG.moved {E : xE} {σ : xM} {ρ : xR} {ks : xKs} {s U : State} {H : Heap} {locs : List Loc} (hK : va_K E.2.1 vwCl (xTys E) s) (hS : xS E s s.heap) (h1 : xH E σ ρ ks H) (h2 : va_S (xA E) s.heap H locs) (hU : U.heap = H) (hW : s.WarmedH U.vm) : xG E σ ρ ks U := by
  refine ⟨by rw [hU]; exact h1, va_K.moved hW.alike hK, ?_, ?_, ?_, ?_⟩
  · rw [hU]
    exact (hS.1.kept h2.2.1).moved hW.alike
  · exact fun q hq => (hS.2.1 q hq).warm hW
  · exact fun q hq => va_Nw.warmM hW (hS.2.2.1 q hq)
  · exact hS.2.2.2.moved hW.alike
theorem xG.blind {E : xE} {σ : xM} {ρ : xR} {ks : xKs} {As : List Value} : FrameBlind (va_Pc (As.map (rn E)) (xG E σ ρ ks)) := by
  rintro a U g mk ⟨h0, h1, h2, h3, h4, h5, h6⟩
  refine ⟨h0, h1, va_K.moved (u := U) (U := U.calling g mk a) (Vm.Alike.refl U.vm) h2, vk_S.moved (u := U) (Vm.Alike.refl U.vm) h3, fun q hq => (h4 q hq).same rfl, fun q hq => ?_, va_AO.moved (u := U) (Vm.Alike.refl U.vm) h6⟩
  exact va_Nw.same rfl rfl (h5 q hq)
section XCALL
variable {E : xE} {p : Program} {e : Env} {R : Room} {s : State} {m : MethodId} {args : Array Value} {below : List Frame} {meth : Method} {c : Code} {Z : State → Prop} {kc ns : Nat} {σ : xM} {ρ : xR} {ks : xKs} {pc : Nat} {L : List (Option Value)} {st : List Value} {cc : ByteArray} {own : String} {ret : Option FieldType} {nL : Nat}
/-- behind a call, however it was made -/
theorem x_after {y : MethodName} {As : Array Value} {mc ms : Nat} {Q : Option Value → xM → xR → xKs → Prop} {H : Heap} {locs : List Loc} {ls : Array Slot} {st0 st : List Value}
    (hr : va_Run p E.1 e R s m args below meth c H locs kc ns mc ms (F0 m pc ls st0) (st.map (rn E)) (xQ E Q As) (xA E)) (h2 : va_S (xA E) s.heap H locs) (h3 : xL E ls L)
    (kk : ∀ r σ' ρ' ks', Q r σ' ρ' ks' → X E p e R s m args below meth c Z (kc + mc) (ns + ms) σ' ρ' ks' (pc + 3) L (r.toList ++ st)) : W p E.1 e R s m args below meth c H locs kc ns Z (F0 m pc ls st0) := by
  intro T hT X
  obtain ⟨v, st₀, t, T', L', h0, X', hL, e1, e2, ⟨⟨r, σ', ρ', ks', hv, hq, hh⟩, hz, hk⟩, stp⟩ := hr T hT X
  cases hv
  rw [h0] at hz hk
  have hS : va_S (xA E) s.heap T'.heap (locs ++ L') := ⟨Nat.le_trans h2.1 (by rw [e1]; exact hz), fun q a1 a2 => by rw [e1, hk q (Nat.lt_of_lt_of_le a1 h2.1) a2]; exact h2.2.1 q a1 a2, fun q hq => by
      rcases List.mem_append.mp hq with h | h
      · exact h2.2.2 q h
      · exact hL q h⟩
  obtain ⟨t2, a1, b1⟩ := kk r σ' ρ' ks' hq T'.heap (locs ++ L') ls (by rw [e1]; exact hh) hS h3 T' rfl X'
  refine ⟨t2, stp t2 ?_, b1⟩
  have : (r.map (rn E)).toList ++ st.map (rn E) = (r.toList ++ st).map (rn E) := by cases r <;> rfl
  rw [this]
  exact a1
theorem x_cat {st : List Value} (h : (st.map fun v => v.category).sum ≤ 8) : ((st.map (rn E)).map fun v => v.category).sum ≤ 8 := by
  rw [List.map_map, show (fun v : Value => v.category) ∘ rn E = fun v => v.category from funext fun v => rn_cat E v]
  exact h
/-- the room of a callee of depth d under a caller of depth d' -/
theorem x_room {d d' maxL : Nat} (h : d < d') (hm : maxL ≤ 45) (hR : R.frames = d' ∧ R.locals = 64 * d') : d + 1 ≤ R.frames ∧ 8 + (maxL + 11) + 64 * d ≤ R.locals := by rw [hR.1, hR.2]; omega
def xRm (R : Room) (D : Nat) (kc ns : Nat) : Prop := R.frames = D ∧ R.locals = 64 * D ∧ R.cells = kc ∧ R.slots = ns
theorem x_callV (C : XC E p R s m args meth c cc own ret nL) {i q ci d D mc ms n KC KS : Nat} {y : MethodName} {bytes : ByteArray} {maxL : Nat} {r : Option FieldType} {As Bs : List Value} {Q : Option Value → xM → xR → xKs → Prop}
    (hM : Sp E y (.code y bytes maxL r) d mc ms (.ref q :: As) σ ρ ks Q) (hws : Cond.code y bytes maxL r ∈ TW ∧ Cond.methodLink own i y ∈ TW ∧ Cond.instanceMethod y ∈ TW ∧ Cond.selects (xC ci) y y ∈ TW ∧ Cond.initialized y.cls ∈ TW)
    (hy : y.cls ≠ "java/lang/invoke/MethodHandle" ∧ y.cls ≠ "java/lang/invoke/VarHandle" ∧ (parseMethodDescriptor y.desc).map (fun d => d.parameters.length) = some n) (hq : ks[q]? = some (0, ci)) (hn : As.length = n) (hst : Bs = As.reverse) (hcat : (st.map fun v => v.category).sum ≤ 8) (hR : xRm R D KC KS) (hd1 : d < D) (hm : maxL ≤ 45) (hf : kc + mc ≤ KC ∧ ns + ms ≤ KS) (hL : L.length = nL)
    (hd : decode cc pc = .ok (.invokevirtual i, 3)) (kk : ∀ r σ' ρ' ks', Q r σ' ρ' ks' → X E p e R s m args below meth c Z (kc + mc) (ns + ms) σ' ρ' ks' (pc + 3) L (r.toList ++ st)) : X E p e R s m args below meth c Z kc ns σ ρ ks pc L (Bs ++ .ref q :: st) := by
  intro H locs ls h1 h2 h3
  obtain ⟨hci, cell, g1, g2, g3, -⟩ := h1.obj hq
  have hcls := (C.2.2.2.2.2.1.1 ci _ (xCl hci)).2
  refine x_after (y := y) (As := (Value.ref (E.2.2.2.1 + q) :: As.map (rn E)).toArray) (Q := Q) (va_runV (As := As.map (rn E)) (n := n) (C := xC ci) ⟨C.1, C.2.1, C.2.2.1, C.2.2.2.1, C.2.2.2.2.1⟩ hM ⟨callB_of n C.2.2.2.2.1 (fun w hw => ?_) rfl rfl rfl (C.2.2.2.2.1 _ hws.2.2.2.2) (C.2.2.2.2.1 _ hws.2.1) hy ?_, C.2.2.2.2.1 _ hws.2.2.1, C.2.2.2.2.1 _ hws.2.2.2.1⟩ ⟨xG.blind, ⟨cell, g1, by rw [g3]; rfl, by rw [g2]; exact hcls.1⟩, fun U hU hW => ⟨rfl, xG.moved C.2.2.2.2.2.1 C.2.2.2.2.2.2.1 h1 h2 hU hW⟩⟩ rfl (by rw [List.length_map]; exact hn) (h3.1.trans hL) ?_ (lv_room (x_cat hcat)) hd ⟨by rw [hR.2.2.1]; exact hf.1, by rw [hR.2.2.2]; exact hf.2⟩) h2 h3 kk
  · rcases List.mem_cons.mp hw with rfl | hw
    · exact ⟨hws.1, good_of_word (List.mem_filter.mp hws.1).2⟩
    · exact ⟨hw, good_of_word (List.mem_filter.mp hw).2⟩
  · exact x_room hd1 hm ⟨hR.1, hR.2.1⟩
  · show (Bs ++ .ref q :: st).map (rn E) = _
    rw [List.map_append, hst, List.map_reverse]; rfl
/-- a static method of the same class -/
theorem x_callS (C : XC E p R s m args meth c cc own ret nL) {i d D mc ms n KC KS : Nat} {y : MethodName} {bytes : ByteArray} {maxL : Nat} {r : Option FieldType} {As Bs : List Value} {Q : Option Value → xM → xR → xKs → Prop}
    (hM : Sp E y (.code y bytes maxL r) d mc ms As σ ρ ks Q) (hws : Cond.code y bytes maxL r ∈ TW ∧ Cond.methodLink own i y ∈ TW ∧ Cond.static y ∈ TW ∧ Cond.initialized y.cls ∈ TW)
    (hy : y.cls ≠ "java/lang/invoke/MethodHandle" ∧ y.cls ≠ "java/lang/invoke/VarHandle" ∧ (parseMethodDescriptor y.desc).map (fun d => d.parameters.length) = some n) (hn : As.length = n) (hst : Bs = As.reverse) (hcat : (st.map fun v => v.category).sum ≤ 8) (hR : xRm R D KC KS) (hd1 : d < D) (hm : maxL ≤ 45) (hf : kc + mc ≤ KC ∧ ns + ms ≤ KS) (hL : L.length = nL)
    (hd : decode cc pc = .ok (.invokestatic i, 3)) (kk : ∀ r σ' ρ' ks', Q r σ' ρ' ks' → X E p e R s m args below meth c Z (kc + mc) (ns + ms) σ' ρ' ks' (pc + 3) L (r.toList ++ st)) : X E p e R s m args below meth c Z kc ns σ ρ ks pc L (Bs ++ st) := by
  intro H locs ls h1 h2 h3
  refine x_after (y := y) (As := (As.map (rn E)).toArray) (Q := Q) (va_runS (As := As.map (rn E)) (n := n) ⟨C.1, C.2.1, C.2.2.1, C.2.2.2.1, C.2.2.2.2.1⟩ hM ⟨callB_of n C.2.2.2.2.1 (fun w hw => ?_) rfl rfl rfl (C.2.2.2.2.1 _ hws.2.2.2) (C.2.2.2.2.1 _ hws.2.1) hy ?_, C.2.2.2.2.1 _ hws.2.2.1⟩ ⟨xG.blind, fun U hU hW => ⟨rfl, xG.moved C.2.2.2.2.2.1 C.2.2.2.2.2.2.1 h1 h2 hU hW⟩⟩ rfl (by rw [List.length_map]; exact hn) (h3.1.trans hL) ?_ (lv_room (x_cat hcat)) hd ⟨by rw [hR.2.2.1]; exact hf.1, by rw [hR.2.2.2]; exact hf.2⟩) h2 h3 kk
  · rcases List.mem_cons.mp hw with rfl | hw
    · exact ⟨hws.1, good_of_word (List.mem_filter.mp hws.1).2⟩
    · exact ⟨hw, good_of_word (List.mem_filter.mp hw).2⟩
  · exact x_room hd1 hm ⟨hR.1, hR.2.1⟩
  · show (Bs ++ st).map (rn E) = _
    rw [List.map_append, hst, List.map_reverse]
/-- a method that is inherited, or one that overrides: x is what is named, y what runs, in the receiver's class ci -/
theorem x_callU (C : XC E p R s m args meth c cc own ret nL) {i q ci d D mc ms n KC KS : Nat} {owner : String} {x y : MethodName} {bytes : ByteArray} {maxL : Nat} {r : Option FieldType} {As Bs : List Value} {Q : Option Value → xM → xR → xKs → Prop}
    (hM : Sp E y (.code y bytes maxL r) d mc ms (.ref q :: As) σ ρ ks Q) {b0 : ByteArray} {m0 : Nat} {r0 : Option FieldType} (hws : Cond.code y bytes maxL r ∈ TW ∧ Cond.methodLink own i x ∈ TW ∧ Cond.sameMethod x.cls owner x.name x.desc ∈ TW ∧ Cond.instanceMethod ⟨owner, x.name, x.desc⟩ ∈ TW ∧ Cond.selects (xC ci) x y ∈ TW ∧ Cond.instanceMethod y ∈ TW ∧ Cond.initialized y.cls ∈ TW ∧ Cond.code ⟨owner, x.name, x.desc⟩ b0 m0 r0 ∈ TW)
    (hy : owner ≠ "java/lang/invoke/MethodHandle" ∧ owner ≠ "java/lang/invoke/VarHandle" ∧ (parseMethodDescriptor x.desc).map (fun d => d.parameters.length) = some n) (hq : ks[q]? = some (0, ci)) (hn : As.length = n) (hst : Bs = As.reverse) (hcat : (st.map fun v => v.category).sum ≤ 8) (hR : xRm R D KC KS) (hd1 : d < D) (hm : maxL ≤ 45) (hf : kc + mc ≤ KC ∧ ns + ms ≤ KS) (hL : L.length = nL)
    (hd : decode cc pc = .ok (.invokevirtual i, 3)) (kk : ∀ r σ' ρ' ks', Q r σ' ρ' ks' → X E p e R s m args below meth c Z (kc + mc) (ns + ms) σ' ρ' ks' (pc + 3) L (r.toList ++ st)) : X E p e R s m args below meth c Z kc ns σ ρ ks pc L (Bs ++ .ref q :: st) := by
  intro H locs ls h1 h2 h3
  obtain ⟨hci, cell, g1, g2, g3, -⟩ := h1.obj hq
  have hcls := (C.2.2.2.2.2.1.1 ci _ (xCl hci)).2
  have ht := C.2.2.2.2.1
  refine x_after (y := y) (As := (Value.ref (E.2.2.2.1 + q) :: As.map (rn E)).toArray) (Q := Q) (va_runU (As := As.map (rn E)) (n := n) (C := xC ci) (owner := owner) (x := x) (Ts := TW) (ws := Cond.code y bytes maxL r :: TW) ⟨C.1, C.2.1, C.2.2.1, C.2.2.2.1, C.2.2.2.2.1⟩ hM ⟨⟨rfl, rfl, (x_room hd1 hm ⟨hR.1, hR.2.1⟩).1, (x_room hd1 hm ⟨hR.1, hR.2.1⟩).2, pay_in ht (fun w hw => ?_), List.mem_cons_self⟩, ht _ hws.1, ht _ hws.2.2.2.2.2.2.1, ⟨hy.1, hy.2.1⟩, fun sig h => ?_, ht _ hws.2.1, ht _ hws.2.2.1, va_Decl.of (ht _ hws.2.2.2.1) (ht _ hws.2.2.2.2.2.2.2), ht _ hws.2.2.2.2.1, ht _ hws.2.2.2.2.2.1⟩ ⟨xG.blind, ⟨cell, g1, by rw [g3]; rfl, by rw [g2]; exact hcls.1⟩, fun U hU hW => ⟨rfl, xG.moved C.2.2.2.2.2.1 C.2.2.2.2.2.2.1 h1 h2 hU hW⟩⟩ rfl (by rw [List.length_map]; exact hn) (h3.1.trans hL) ?_ (lv_room (x_cat hcat)) hd ⟨by rw [hR.2.2.1]; exact hf.1, by rw [hR.2.2.2]; exact hf.2⟩) h2 h3 kk
  · rcases List.mem_cons.mp hw with rfl | hw
    · exact ⟨hws.1, good_of_word (List.mem_filter.mp hws.1).2⟩
    · exact ⟨hw, good_of_word (List.mem_filter.mp hw).2⟩
  · have h2 := hy.2.2
    rw [h] at h2
    exact (Option.some.inj h2).symm
  · show (Bs ++ .ref q :: st).map (rn E) = _
    rw [List.map_append, hst, List.map_reverse]; rfl
end XCALL
