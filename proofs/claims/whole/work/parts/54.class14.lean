/-! super.m(..) of a method that the named class inherits; arraycopy of ints; bitCount; a text's indexOf -/
theorem sub_up {s : State} {args : Array Value} {a b : String} {ca cb : ClassId} (ha : s.vm.findClass a = some ca) (hb : s.vm.findClass b = some cb) (h : (Cond.superclass a b).before args s = true) : s.vm.isSubclass ca cb = true := by
  obtain ⟨p1, k, kp, h1, h2, h3, h4, -, -, -⟩ := Cond.superclass_spec ha h
  cases hb.symm.trans h1
  have hz : 0 < s.vm.classes.size := Nat.lt_of_le_of_lt (Nat.zero_le _) (Array.getElem?_eq_some_iff.mp h2).1
  unfold Vm.isSubclass
  obtain ⟨n, hn⟩ : ∃ n, s.vm.classes.size = n + 1 := ⟨_, (Nat.succ_pred_eq_of_pos hz).symm⟩
  rw [hn]
  simp [Vm.isSubclassAux, h2, h4]
section XSUP
variable {E : xE} {p : Program} {e : Env} {R : Room} {s : State} {m : MethodId} {args : Array Value} {below : List Frame} {meth : Method} {c : Code} {Z : State → Prop} {kc ns : Nat} {σ : xM} {ρ : xR} {ks : xKs} {pc : Nat} {L : List (Option Value)} {st : List Value} {cc : ByteArray} {own : String} {ret : Option FieldType} {nL : Nat}
theorem x_callSUU (C : XC E p R s m args meth c cc own ret nL) {i q ci d D mc ms n KC KS : Nat} {x y : MethodName} {bytes : ByteArray} {maxL : Nat} {r : Option FieldType} {As Bs : List Value} {Q : Option Value → xM → xR → xKs → Prop}
    (hM : Sp E y (.code y bytes maxL r) d mc ms (.ref q :: As) σ ρ ks Q) (hws : Cond.code y bytes maxL r ∈ TW ∧ Cond.methodLink own i x ∈ TW ∧ Cond.sameMethod x.cls y.cls x.name x.desc ∈ TW ∧ Cond.superclass own x.cls ∈ TW ∧ Cond.superclass x.cls y.cls ∈ TW ∧ Cond.instanceMethod y ∈ TW ∧ Cond.initialized y.cls ∈ TW)
    (hxy : x.name = y.name ∧ x.desc = y.desc) (hy : x.name ≠ "<init>" ∧ (parseMethodDescriptor y.desc).map (fun d => d.parameters.length) = some n) (hq : ks[q]? = some (0, ci)) (hn : As.length = n) (hst : Bs = As.reverse) (hcat : (st.map fun v => v.category).sum ≤ 8) (hR : xRm R D KC KS) (hd1 : d < D) (hm : maxL ≤ 45) (hf : kc + mc ≤ KC ∧ ns + ms ≤ KS) (hL : L.length = nL)
    (hd : decode cc pc = .ok (.invokespecial i, 3)) (kk : ∀ r σ' ρ' ks', Q r σ' ρ' ks' → X E p e R s m args below meth c Z (kc + mc) (ns + ms) σ' ρ' ks' (pc + 3) L (r.toList ++ st)) : X E p e R s m args below meth c Z kc ns σ ρ ks pc L (Bs ++ .ref q :: st) := by
  intro H locs ls h1 h2 h3
  obtain ⟨hci, cell, g1, g2, g3, -⟩ := h1.obj hq
  have hcls := (C.2.2.2.2.2.1.1 ci _ (xCl hci)).2
  have ht := C.2.2.2.2.1
  refine x_after (y := y) (As := (Value.ref (E.2.2.2.1 + q) :: As.map (rn E)).toArray) (Q := Q) ?_ h2 h3 kk
  have hws2 : ∀ w ∈ Cond.code y bytes maxL r :: TW, ∀ (a' : Array Value) (U : State), s.WarmedH U.vm → w.before a' U = true := pay_in ht (fun w hw => by
    rcases List.mem_cons.mp hw with rfl | hw
    · exact ⟨hws.1, good_of_word (List.mem_filter.mp hws.1).2⟩
    · exact ⟨hw, good_of_word (List.mem_filter.mp hw).2⟩)
  have hK : Back E.1 R p e below s args y 3 8 (PreOf R mc ms (va_Pc ((Value.ref q :: As).map (rn E)) (xG E σ ρ ks))) (PostOf (xQ E Q) mc ms (xA E)) := back_of (bytes := bytes) (maxL := maxL) (ret := r) hM xG.blind rfl rfl (x_room hd1 hm ⟨hR.1, hR.2.1⟩).1 (x_room hd1 hm ⟨hR.1, hR.2.1⟩).2 hws2 List.mem_cons_self (fun a' U hW => word_at hW (Or.inl (by first | rfl | simp [Cond.onTables, Cond.keeps, Cond.steady])) (ht _ hws.2.2.2.2.2.2))
  obtain ⟨mk, methM, hnamed, hmethM, hstM, habM⟩ := Cond.instanceMethod_spec (ht _ hws.2.2.2.2.2.1)
  obtain ⟨methM', cM, hmethM', -, -, -, -, -, -, hsigM⟩ := Cond.code_spec hnamed (ht _ hws.1)
  cases hmethM.symm.trans hmethM'
  obtain ⟨ps, dk, kp, hps, hdk, hkp, hsuper, -, -, hnid⟩ := Cond.superclass_spec C.2.2.2.1 (ht _ hws.2.2.2.1)
  have hnm : s.methodNamed? ⟨y.cls, x.name, x.desc⟩ = some mk := by rw [hxy.1, hxy.2]; exact hnamed
  have hsub := sub_up hps (findClass_of_methodNamed hnamed) (ht _ hws.2.2.2.2.1)
  obtain ⟨kB, hkB, -⟩ := hcls.2
  have hlen : As.length = methM.sig.parameters.length := by
    have h2 := hy.2
    rw [hsigM] at h2
    exact hn.trans (Option.some.inj h2).symm
  intro T hT X
  have hstk : (F0 m pc ls ((Bs ++ .ref q :: st).map (rn E))).stack = (As.map (rn E)).reverse ++ .ref (E.2.2.2.1 + q) :: st.map (rn E) := by
    show (Bs ++ .ref q :: st).map (rn E) = _
    rw [List.map_append, hst, List.map_reverse]; rfl
  obtain ⟨vm₁, X₁, hstep₁⟩ := X.invokespecialUp C.1 C.2.2.2.1 (ht _ hws.2.1) (ht _ hws.2.2.1) hnm hmethM hstM habM hy.1 hdk hnid hps hsuper hsub (a := E.2.2.2.1 + q) (cell := cell) (by rw [hT]; exact g1) (fun z h => by rw [g3] at h; cases h) (by rw [g2]; exact hkB) (g := F0 m pc ls ((Bs ++ .ref q :: st).map (rn E))) rfl (argsL := As.map (rn E)) (rest := st.map (rn E)) (by rw [List.length_map]; exact hlen) hstk (by rw [C.2.1]; exact hd)
  obtain ⟨v, ⟨U', l2, c2, s2⟩, X', ⟨g', mk', t, L', e1, e2, hq', h1', hL', h2', h3'⟩, hsteps⟩ := hK m meth c ⟨T.setVm vm₁, locs, kc, ns⟩ { F0 m pc ls ((Bs ++ .ref q :: st).map (rn E)) with stack := st.map (rn E) } (.invokespecial i) mk (Value.ref (E.2.2.2.1 + q) :: As.map (rn E)).toArray X₁ rfl ((h3.1.trans hL).trans C.2.2.1.symm) (by rw [C.2.1]; exact hd) (lv_room (x_cat hcat)) (X₁.named hnamed) ⟨by rw [hR.2.2.1]; exact hf.1, by rw [hR.2.2.2]; exact hf.2, ⟨rfl, xG.moved C.2.2.2.2.2.1 C.2.2.2.2.2.2.1 h1 h2 hT X₁.warmed⟩⟩
  dsimp only [Pt.U, Pt.locs, Pt.cells, Pt.slots] at X' e1 e2 h1' h2' h3' hsteps
  subst h1'; subst h2'; subst h3'
  exact ⟨v, (T.setVm vm₁).calling g' mk' (Value.ref (E.2.2.2.1 + q) :: As.map (rn E)).toArray, t, U', L', hT, X', hL', e1, e2, hq', fun target h => hstep₁ _ (by rw [doInvoke_state]; exact hsteps.trans h)⟩
/-- arraycopy from the first on, between int arrays -/
theorem x_copy (C : XC E p R s m args meth c cc own ret nL) {i q0 q1 n0 n1 D KC KS : Nat} {n : Int} (hw : Cond.methodLink own i arraycopyName ∈ TW ∧ Cond.native arraycopyName ∈ TW ∧ Cond.static arraycopyName ∈ TW ∧ Cond.initialized "java/lang/System" ∈ TW) (hq0 : ks[q0]? = some (1, n0)) (hq1 : ks[q1]? = some (1, n1)) (hn : 0 ≤ n ∧ n ≤ n0 ∧ n ≤ n1) (hR : xRm R D KC KS) (hD : 1 ≤ D) (hcat : (st.map fun v => v.category).sum ≤ 8) (hL : L.length = nL) (hd : decode cc pc = .ok (.invokestatic i, 3))
    (kk : X E p e R s m args below meth c Z kc ns (sw σ q1 (fun j => if 0 ≤ j ∧ j < n then σ q0 j else σ q1 j)) ρ ks (pc + 3) L st) : X E p e R s m args below meth c Z kc ns σ ρ ks pc L (.int (iI n) :: .int (iI 0) :: .ref q1 :: .int (iI 0) :: .ref q0 :: st) := by
  intro H locs ls h1 h2 h3
  obtain ⟨hc0, hn0⟩ := h1.ints hq0
  obtain ⟨hc1, hn1⟩ := h1.ints hq1
  have hcl := iI_clamp (z := n) hn.1 (by omega)
  have hi := iI_toInt (z := n) ⟨by omega, by omega⟩
  obtain ⟨-, k0, hk0, cm0, hkk0⟩ := (C.2.2.2.2.2.1.2 0 _ rfl).1 n0 (fun j => .int (iI (σ q0 j)))
  obtain ⟨-, k1, hk1, cm1, hkk1⟩ := (C.2.2.2.2.2.1.2 0 _ rfl).1 n1 (fun j => .int (iI (σ q1 j)))
  have ht := C.2.2.2.2.1
  intro T hT X
  have h00 : (iI 0 : Int32) = 0 := iI_0
  obtain ⟨vm', X', step⟩ := X.arraycopy C.1 C.2.2.2.1 (ht _ hw.1) (ht _ hw.2.1) (ht _ hw.2.2.1) (ht _ hw.2.2.2) (src := E.2.2.2.1 + q0) (dst := E.2.2.2.1 + q1) (cs := arrV (E.2.2.1 0) n0 (fun j => .int (iI (σ q0 j)))) (cd := arrV (E.2.2.1 0) n1 (fun j => .int (iI (σ q1 j)))) (srcPos := 0) (destPos := 0) (n := iI n) (by rw [hT]; exact hc0) (by rw [hT]; exact hc1)
    (fun _ h => by cases h) (fun _ h => by cases h) (fun h => by cases h) (fun h => by cases h) hk0 hk1 hkk0 hkk1 (by simp [refKind]) (by decide) (by decide) (by rw [← iI_0, iI_lt ⟨by omega, by omega⟩ ⟨by decide, by decide⟩]; omega)
    (by rw [hi, arrV_size]; show ¬ 0 + n > _; omega)
    (by rw [hi, arrV_size]; show ¬ 0 + n > _; omega)
    (fun vm₁ _ i hi2 => by
      rw [hcl] at hi2
      have e : (arrV (E.2.2.1 0) n0 (fun j => .int (iI (σ q0 j)))).slots.getD ((0 : Int32).toNatClampNeg + i) .null = .int (iI (σ q0 i)) := by
        rw [show (0 : Int32).toNatClampNeg = 0 from rfl, Nat.zero_add, Array.getD_eq_getD_getElem?, arrV_read _ _ (by omega)]
        rfl
      rw [e]
      exact ⟨rfl, trivial⟩)
    (g := F0 m pc ls ((Value.int (iI n) :: .int (iI 0) :: .ref q1 :: .int (iI 0) :: .ref q0 :: st).map (rn E))) rfl (by rw [C.2.2.1]; exact h3.1.trans hL) (rest := st.map (rn E)) (by rw [← h00]; rfl) (by rw [C.2.1]; exact hd) (by rw [hR.1]; exact hD) (by
      have h8 := x_cat (E := E) hcat
      have h9 : nativeFrameWords "java/lang/System" "arraycopy" 5 ≤ 40 := by decide +kernel
      rw [hR.2.1]; show 2 * 0 + _ + _ ≤ _; omega)
  have e1 : copied (arrV (E.2.2.1 0) n0 (fun j => .int (iI (σ q0 j)))) (arrV (E.2.2.1 0) n1 (fun j => .int (iI (σ q1 j)))) 0 0 (iI n) = arrV (E.2.2.1 0) n1 (fun j => .int (iI (sw σ q1 (fun j => if 0 ≤ j ∧ j < n then σ q0 j else σ q1 j) q1 j))) := by
    refine (va_copied (fun z => Value.int z) (E.2.2.1 0) (E.2.2.1 0) (sp := (0 : Int32).toNatClampNeg) (dp := (0 : Int32).toNatClampNeg) (fun j => iI (σ q0 j)) (fun j => iI (σ q1 j)) (by rw [hcl]; show 0 + _ ≤ _; omega)).trans ?_
    congr 1
    funext j
    rw [sw_eq, hcl]
    unfold va_cpy
    by_cases hj : j < n.toNat
    · rw [if_pos ⟨Nat.zero_le _, by show _ < 0 + _; omega⟩, if_pos (by omega)]
      show Value.int (iI (σ q0 ((0 + (j - 0) : Nat) : Int))) = _
      rw [Nat.zero_add, Nat.sub_zero]
    · rw [if_neg (fun h => hj (by have := h.2; show j < _; simpa using this)), if_neg (by omega)]
  rw [e1] at X' step
  have hl : E.2.2.2.1 + q1 < H.size := (Array.getElem?_eq_some_iff.mp hc1).1
  generalize hnew : arrV (E.2.2.1 0) n1 (fun j => .int (iI (sw σ q1 (fun j => if 0 ≤ j ∧ j < n then σ q0 j else σ q1 j) q1 j))) = nw at *
  have hheap : ((T.setVm vm').setCell (E.2.2.2.1 + q1) nw).heap = H.setIfInBounds (E.2.2.2.1 + q1) nw := by rw [← hT]; rfl
  obtain ⟨t, a1, b1⟩ := kk (H.setIfInBounds (E.2.2.2.1 + q1) nw) _ ls (h1.put hq1 (by simp) (fun q hq => by simp [Array.getElem?_setIfInBounds, Ne.symm hq]) (fun q hq => sw_ne _ hq _) (fun _ _ => rfl) ⟨by
    rw [hnew]; simp [Array.getElem?_setIfInBounds, hl], hn1⟩) ⟨by simp; exact h2.1, fun q g1 g2 => by
      rw [show (H.setIfInBounds (E.2.2.2.1 + q1) nw)[q]? = H[q]? by simp [Array.getElem?_setIfInBounds, show ¬ E.2.2.2.1 + q1 = q from fun e => g2 (by rw [← e]; exact Nat.le_add_right _ _)]]
      exact h2.2.1 q g1 g2, fun q hq => by
      rcases List.mem_append.mp hq with h | h
      · exact h2.2.2 q h
      · obtain ⟨z, -, hz⟩ := List.mem_map.mp h
        rw [← hz]
        exact Nat.le_add_right _ _⟩ h3 _ hheap X'
  exact ⟨t, step t a1, b1⟩
def bUsh (a b : Int) : Int := ((iI a).toUInt32 >>> ((iI b).toUInt32 &&& Int32.toUInt32 31)).toInt32.toInt
theorem x_iushr (C : XC E p R s m args meth c cc own ret nL) {a b : Int} (hd : decode cc pc = .ok (.iushr, 1)) (k : X E p e R s m args below meth c Z kc ns σ ρ ks (pc + 1) L (.int (iI (bUsh a b)) :: st)) : X E p e R s m args below meth c Z kc ns σ ρ ks pc L (.int (iI b) :: .int (iI a) :: st) :=
  fun H locs ls h1 h2 h3 => lv_iushr C.1 C.2.1 hd (iI_of _).symm (k H locs ls h1 h2 h3)
theorem x_ldcw (C : XC E p R s m args meth c cc own ret nL) {i : Nat} {v : Int32} (n : Int) (hw : Cond.constant own i v ∈ TW) (hn : v = iI n) (hd : decode cc pc = .ok (.ldc_w i, 3)) (k : X E p e R s m args below meth c Z kc ns σ ρ ks (pc + 3) L (.int (iI n) :: st)) : X E p e R s m args below meth c Z kc ns σ ρ ks pc L st :=
  fun H locs ls h1 h2 h3 => lv_ldcw C.1 C.2.1 C.2.2.2.1 (C.2.2.2.2.1 _ hw) hd (by rw [hn]; exact k H locs ls h1 h2 h3)
theorem x_i2b (C : XC E p R s m args meth c cc own ret nL) {a : Int} (ha : -128 ≤ a ∧ a < 128) (hd : decode cc pc = .ok (.i2b, 1)) (k : X E p e R s m args below meth c Z kc ns σ ρ ks (pc + 1) L (.int (iI a) :: st)) : X E p e R s m args below meth c Z kc ns σ ρ ks pc L (.int (iI a) :: st) :=
  fun H locs ls h1 h2 h3 => lv_i2b C.1 C.2.1 hd (lg_i2b_small (by rw [iI_toInt ⟨by omega, by omega⟩]; exact ha.1) (by rw [iI_toInt ⟨by omega, by omega⟩]; exact ha.2)) (k H locs ls h1 h2 h3)
end XSUP
theorem wX10_31 : kX0_tells ∈ TW ∧ Cond.methodLink RX10 31 (⟨"OneFan$Swing", "tells", "(ILOneFan$Trace;)I"⟩ : MethodName) ∈ TW ∧ Cond.sameMethod (⟨"OneFan$Swing", "tells", "(ILOneFan$Trace;)I"⟩ : MethodName).cls yX0_tells.cls (⟨"OneFan$Swing", "tells", "(ILOneFan$Trace;)I"⟩ : MethodName).name (⟨"OneFan$Swing", "tells", "(ILOneFan$Trace;)I"⟩ : MethodName).desc ∈ TW ∧ Cond.superclass RX10 (⟨"OneFan$Swing", "tells", "(ILOneFan$Trace;)I"⟩ : MethodName).cls ∈ TW ∧ Cond.superclass (⟨"OneFan$Swing", "tells", "(ILOneFan$Trace;)I"⟩ : MethodName).cls yX0_tells.cls ∈ TW ∧ Cond.instanceMethod yX0_tells ∈ TW ∧ Cond.initialized yX0_tells.cls ∈ TW := ⟨mX0_tells, TW_of (List.mem_of_getElem? (i := 1012) (by decide +kernel)) rfl, TW_of (List.mem_of_getElem? (i := 1013) (by decide +kernel)) rfl, TW_of (List.mem_of_getElem? (i := 576) (by decide +kernel)) rfl, TW_of (List.mem_of_getElem? (i := 534) (by decide +kernel)) rfl, TW_of (List.mem_of_getElem? (i := 996) (by decide +kernel)) rfl, TW_of (List.mem_of_getElem? (i := 80) (by decide +kernel)) rfl⟩
theorem wX2_32 : kX0_blows ∈ TW ∧ Cond.methodLink RX2 32 (⟨"OneFan$Hold", "blows", "(ILOneFan$Trace;)I"⟩ : MethodName) ∈ TW ∧ Cond.sameMethod (⟨"OneFan$Hold", "blows", "(ILOneFan$Trace;)I"⟩ : MethodName).cls yX0_blows.cls (⟨"OneFan$Hold", "blows", "(ILOneFan$Trace;)I"⟩ : MethodName).name (⟨"OneFan$Hold", "blows", "(ILOneFan$Trace;)I"⟩ : MethodName).desc ∈ TW ∧ Cond.superclass RX2 (⟨"OneFan$Hold", "blows", "(ILOneFan$Trace;)I"⟩ : MethodName).cls ∈ TW ∧ Cond.superclass (⟨"OneFan$Hold", "blows", "(ILOneFan$Trace;)I"⟩ : MethodName).cls yX0_blows.cls ∈ TW ∧ Cond.instanceMethod yX0_blows ∈ TW ∧ Cond.initialized yX0_blows.cls ∈ TW := ⟨mX0_blows, TW_of (List.mem_of_getElem? (i := 961) (by decide +kernel)) rfl, TW_of (List.mem_of_getElem? (i := 962) (by decide +kernel)) rfl, TW_of (List.mem_of_getElem? (i := 590) (by decide +kernel)) rfl, TW_of (List.mem_of_getElem? (i := 562) (by decide +kernel)) rfl, TW_of (List.mem_of_getElem? (i := 951) (by decide +kernel)) rfl, TW_of (List.mem_of_getElem? (i := 80) (by decide +kernel)) rfl⟩
theorem wX7_13 : kX0_resemble ∈ TW ∧ Cond.methodLink RX7 13 (⟨"OneFan$Turn", "resemble", "(LOneFan$Fan;)V"⟩ : MethodName) ∈ TW ∧ Cond.sameMethod (⟨"OneFan$Turn", "resemble", "(LOneFan$Fan;)V"⟩ : MethodName).cls yX0_resemble.cls (⟨"OneFan$Turn", "resemble", "(LOneFan$Fan;)V"⟩ : MethodName).name (⟨"OneFan$Turn", "resemble", "(LOneFan$Fan;)V"⟩ : MethodName).desc ∈ TW ∧ Cond.superclass RX7 (⟨"OneFan$Turn", "resemble", "(LOneFan$Fan;)V"⟩ : MethodName).cls ∈ TW ∧ Cond.superclass (⟨"OneFan$Turn", "resemble", "(LOneFan$Fan;)V"⟩ : MethodName).cls yX0_resemble.cls ∈ TW ∧ Cond.instanceMethod yX0_resemble ∈ TW ∧ Cond.initialized yX0_resemble.cls ∈ TW := ⟨mX0_resemble, TW_of (List.mem_of_getElem? (i := 1080) (by decide +kernel)) rfl, TW_of (List.mem_of_getElem? (i := 1081) (by decide +kernel)) rfl, TW_of (List.mem_of_getElem? (i := 608) (by decide +kernel)) rfl, TW_of (List.mem_of_getElem? (i := 548) (by decide +kernel)) rfl, TW_of (List.mem_of_getElem? (i := 1071) (by decide +kernel)) rfl, TW_of (List.mem_of_getElem? (i := 80) (by decide +kernel)) rfl⟩
theorem wX5_31 : Cond.methodLink RX5 31 arraycopyName ∈ TW ∧ Cond.native arraycopyName ∈ TW ∧ Cond.static arraycopyName ∈ TW ∧ Cond.initialized "java/lang/System" ∈ TW := ⟨TW_of (List.mem_of_getElem? (i := 784) (by decide +kernel)) rfl, TW_of (List.mem_of_getElem? (i := 786) (by decide +kernel)) rfl, TW_of (List.mem_of_getElem? (i := 785) (by decide +kernel)) rfl, TW_of (List.mem_of_getElem? (i := 88) (by decide +kernel)) rfl⟩
theorem wX7_17 : Cond.methodLink RX7 17 arraycopyName ∈ TW ∧ Cond.native arraycopyName ∈ TW ∧ Cond.static arraycopyName ∈ TW ∧ Cond.initialized "java/lang/System" ∈ TW := ⟨TW_of (List.mem_of_getElem? (i := 1084) (by decide +kernel)) rfl, TW_of (List.mem_of_getElem? (i := 786) (by decide +kernel)) rfl, TW_of (List.mem_of_getElem? (i := 785) (by decide +kernel)) rfl, TW_of (List.mem_of_getElem? (i := 88) (by decide +kernel)) rfl⟩
theorem wX1_77 : Cond.methodLink RX1 77 arraycopyName ∈ TW ∧ Cond.native arraycopyName ∈ TW ∧ Cond.static arraycopyName ∈ TW ∧ Cond.initialized "java/lang/System" ∈ TW := ⟨TW_of (List.mem_of_getElem? (i := 1089) (by decide +kernel)) rfl, TW_of (List.mem_of_getElem? (i := 786) (by decide +kernel)) rfl, TW_of (List.mem_of_getElem? (i := 785) (by decide +kernel)) rfl, TW_of (List.mem_of_getElem? (i := 88) (by decide +kernel)) rfl⟩
theorem wX1_123 : kJ6_bitCount_0f7a4 ∈ TW ∧ Cond.methodLink RX1 123 yJ6_bitCount_0f7a4 ∈ TW ∧ Cond.static yJ6_bitCount_0f7a4 ∈ TW ∧ Cond.initialized yJ6_bitCount_0f7a4.cls ∈ TW := ⟨mJ6_bitCount_0f7a4, TW_of (List.mem_of_getElem? (i := 745) (by decide +kernel)) rfl, TW_of (List.mem_of_getElem? (i := 746) (by decide +kernel)) rfl, TW_of (List.mem_of_getElem? (i := 87) (by decide +kernel)) rfl⟩
theorem pJ6_bitCount_0f7a4 : yJ6_bitCount_0f7a4.cls ≠ "java/lang/invoke/MethodHandle" ∧ yJ6_bitCount_0f7a4.cls ≠ "java/lang/invoke/VarHandle" ∧ (parseMethodDescriptor yJ6_bitCount_0f7a4.desc).map (fun d => d.parameters.length) = some 1 := by decide +kernel
theorem qJ6_265 : Cond.constant RJ6 265 (1431655765) ∈ TW := TW_of (List.mem_of_getElem? (i := 748) (by decide +kernel)) rfl
theorem qJ6_266 : Cond.constant RJ6 266 (858993459) ∈ TW := TW_of (List.mem_of_getElem? (i := 749) (by decide +kernel)) rfl
theorem qJ6_267 : Cond.constant RJ6 267 (252645135) ∈ TW := TW_of (List.mem_of_getElem? (i := 750) (by decide +kernel)) rfl
theorem wJ1_92 : Cond.methodLink RJ1 92 Lib.Math.max.name ∈ TW ∧ Cond.static Lib.Math.max.name ∈ TW ∧ Cond.initialized "java/lang/Math" ∈ TW ∧ Cond.code Lib.Math.max.name Lib.Math.max.code 2 (some .int) ∈ TW := ⟨TW_of (List.mem_of_getElem? (i := 412) (by decide +kernel)) rfl, TW_of (List.mem_of_getElem? (i := 382) (by decide +kernel)) rfl, TW_of (List.mem_of_getElem? (i := 74) (by decide +kernel)) rfl, TW_of (List.mem_of_getElem? (i := 383) (by decide +kernel)) rfl⟩
theorem wJ1_38 : Cond.methodLink RJ1 38 Lib.Math.min.name ∈ TW ∧ Cond.static Lib.Math.min.name ∈ TW ∧ Cond.initialized "java/lang/Math" ∈ TW ∧ Cond.code Lib.Math.min.name Lib.Math.min.code 2 (some .int) ∈ TW := ⟨TW_of (List.mem_of_getElem? (i := 413) (by decide +kernel)) rfl, TW_of (List.mem_of_getElem? (i := 300) (by decide +kernel)) rfl, TW_of (List.mem_of_getElem? (i := 74) (by decide +kernel)) rfl, TW_of (List.mem_of_getElem? (i := 301) (by decide +kernel)) rfl⟩
def bc1 (z : Int) : Int := z - bAnd (bUsh z 1) 1431655765
def bc2 (z : Int) : Int := bAnd (bc1 z) 858993459 + bAnd (bUsh (bc1 z) 2) 858993459
def bc3 (z : Int) : Int := bAnd (bc2 z + bUsh (bc2 z) 4) 252645135
def bc4 (z : Int) : Int := bc3 z + bUsh (bc3 z) 8
def bc5 (z : Int) : Int := bc4 z + bUsh (bc4 z) 16
def bcF (z : Int) : Int := bAnd (bc5 z) 63
set_option maxHeartbeats 4000000 in
set_option maxRecDepth 100000 in
theorem s_bitCount (E : xE) {σ : xM} {ρ : xR} {ks : xKs} {z : Int} : Sp E yJ6_bitCount_0f7a4 kJ6_bitCount_0f7a4 0 0 0 [.int (iI z)] σ ρ ks (Fn (some (.int (iI (bcF z)))) σ ρ ks) := by
  refine x_enter (own := RJ6) (L := [_]) (by decide +kernel) rfl (by exact Nat.le_of_ble_eq_true rfl) rfl (fun p e R s m args below meth c Z hZ hC hR hin => ?_)
  refine x_iload_n (pc := 0) hC dJ6_bitCount_0f7a4_0 rfl ?_
  refine x_iload_n (pc := 1) hC dJ6_bitCount_0f7a4_1 rfl ?_
  refine x_iconst (pc := 2) hC dJ6_bitCount_0f7a4_2 ?_
  refine x_iushr (pc := 3) hC dJ6_bitCount_0f7a4_3 ?_
  refine x_ldcw (pc := 4) hC (1431655765) qJ6_265 (by decide +kernel) dJ6_bitCount_0f7a4_4 ?_
  refine x_iand (pc := 7) hC dJ6_bitCount_0f7a4_7 ?_
  refine x_isub (pc := 8) hC dJ6_bitCount_0f7a4_8 ?_
  refine X.stk (st' := [.int (iI (bc1 z))]) rfl ?_
  refine x_istore_n (L' := [_]) (pc := 9) hC dJ6_bitCount_0f7a4_9 rfl rfl ?_
  refine x_iload_n (pc := 10) hC dJ6_bitCount_0f7a4_10 rfl ?_
  refine x_ldcw (pc := 11) hC (858993459) qJ6_266 (by decide +kernel) dJ6_bitCount_0f7a4_11 ?_
  refine x_iand (pc := 14) hC dJ6_bitCount_0f7a4_14 ?_
  refine x_iload_n (pc := 15) hC dJ6_bitCount_0f7a4_15 rfl ?_
  refine x_iconst (pc := 16) hC dJ6_bitCount_0f7a4_16 ?_
  refine x_iushr (pc := 17) hC dJ6_bitCount_0f7a4_17 ?_
  refine x_ldcw (pc := 18) hC (858993459) qJ6_266 (by decide +kernel) dJ6_bitCount_0f7a4_18 ?_
  refine x_iand (pc := 21) hC dJ6_bitCount_0f7a4_21 ?_
  refine x_iadd (pc := 22) hC dJ6_bitCount_0f7a4_22 ?_
  refine X.stk (st' := [.int (iI (bc2 z))]) rfl ?_
  refine x_istore_n (L' := [_]) (pc := 23) hC dJ6_bitCount_0f7a4_23 rfl rfl ?_
  refine x_iload_n (pc := 24) hC dJ6_bitCount_0f7a4_24 rfl ?_
  refine x_iload_n (pc := 25) hC dJ6_bitCount_0f7a4_25 rfl ?_
  refine x_iconst (pc := 26) hC dJ6_bitCount_0f7a4_26 ?_
  refine x_iushr (pc := 27) hC dJ6_bitCount_0f7a4_27 ?_
  refine x_iadd (pc := 28) hC dJ6_bitCount_0f7a4_28 ?_
  refine x_ldcw (pc := 29) hC (252645135) qJ6_267 (by decide +kernel) dJ6_bitCount_0f7a4_29 ?_
  refine x_iand (pc := 32) hC dJ6_bitCount_0f7a4_32 ?_
  refine X.stk (st' := [.int (iI (bc3 z))]) rfl ?_
  refine x_istore_n (L' := [_]) (pc := 33) hC dJ6_bitCount_0f7a4_33 rfl rfl ?_
  refine x_iload_n (pc := 34) hC dJ6_bitCount_0f7a4_34 rfl ?_
  refine x_iload_n (pc := 35) hC dJ6_bitCount_0f7a4_35 rfl ?_
  refine x_bipush (pc := 36) hC dJ6_bitCount_0f7a4_36 (by decide +kernel) ?_
  refine x_iushr (pc := 38) hC dJ6_bitCount_0f7a4_38 ?_
  refine x_iadd (pc := 39) hC dJ6_bitCount_0f7a4_39 ?_
  refine X.stk (st' := [.int (iI (bc4 z))]) rfl ?_
  refine x_istore_n (L' := [_]) (pc := 40) hC dJ6_bitCount_0f7a4_40 rfl rfl ?_
  refine x_iload_n (pc := 41) hC dJ6_bitCount_0f7a4_41 rfl ?_
  refine x_iload_n (pc := 42) hC dJ6_bitCount_0f7a4_42 rfl ?_
  refine x_bipush (pc := 43) hC dJ6_bitCount_0f7a4_43 (by decide +kernel) ?_
  refine x_iushr (pc := 45) hC dJ6_bitCount_0f7a4_45 ?_
  refine x_iadd (pc := 46) hC dJ6_bitCount_0f7a4_46 ?_
  refine X.stk (st' := [.int (iI (bc5 z))]) rfl ?_
  refine x_istore_n (L' := [_]) (pc := 47) hC dJ6_bitCount_0f7a4_47 rfl rfl ?_
  refine x_iload_n (pc := 48) hC dJ6_bitCount_0f7a4_48 rfl ?_
  refine x_bipush (pc := 49) hC dJ6_bitCount_0f7a4_49 (by decide +kernel) ?_
  refine x_iand (pc := 51) hC dJ6_bitCount_0f7a4_51 ?_
  refine x_ireturn hC hZ dJ6_bitCount_0f7a4_52 (by decide) (by decide) ?_
  exact ⟨rfl, rfl, rfl, rfl⟩
theorem bc_all : bcF 0 = 0 ∧ bcF 1 = 1 ∧ bcF 2 = 1 ∧ bcF 3 = 2 ∧ bcF 4 = 1 ∧ bcF 5 = 2 ∧ bcF 6 = 2 ∧ bcF 7 = 3 ∧ bcF 8 = 1 ∧ bcF 9 = 2 ∧ bcF 10 = 2 ∧ bcF 11 = 3 ∧ bcF 12 = 2 ∧ bcF 13 = 3 ∧ bcF 14 = 3 ∧ bcF 15 = 4 := by decide +kernel
set_option maxHeartbeats 4000000 in
set_option maxRecDepth 100000 in
theorem s_canEncode (E : xE) {σ : xM} {ρ : xR} {ks : xKs} {k : Int} (hk : 0 ≤ k ∧ k ≤ 127) : Sp E yJ1_canEncode_9a6ad kJ1_canEncode_9a6ad 0 0 0 [.int (iI k)] σ ρ ks (Fn (some (.int (iI 1))) σ ρ ks) := by
  refine x_enter (own := RJ1) (L := [_]) (by decide +kernel) rfl (by exact Nat.le_of_ble_eq_true rfl) rfl (fun p e R s m args below meth c Z hZ hC hR hin => ?_)
  refine x_iload_n (pc := 0) hC dJ1_canEncode_9a6ad_0 rfl ?_
  refine x_if_lt (tgt := 15) (pc := 1) hC (by omega) dJ1_canEncode_9a6ad_1 (by decide) (fun h => by (exfalso; omega)) (fun _ => ?_)
  refine x_iload_n (pc := 4) hC dJ1_canEncode_9a6ad_4 rfl ?_
  refine x_sipush (pc := 5) hC dJ1_canEncode_9a6ad_5 (by decide +kernel) ?_
  refine x_icmp_gt (tgt := 15) (pc := 8) hC (by omega) (by omega) dJ1_canEncode_9a6ad_8 (by decide) (fun h => by (exfalso; omega)) (fun _ => ?_)
  refine x_iconst (pc := 11) hC dJ1_canEncode_9a6ad_11 ?_
  refine x_goto (tgt := 16) (pc := 12) hC dJ1_canEncode_9a6ad_12 (by decide) ?_
  refine x_zreturn hC hZ (by omega) dJ1_canEncode_9a6ad_16 (by decide) (by decide) ?_
  exact ⟨rfl, rfl, rfl, rfl⟩
set_option maxHeartbeats 4000000 in
set_option maxRecDepth 100000 in
theorem s_indexOfChar (E : xE) {σ : xM} {ρ : xR} {ks : xKs} {u : Nat} {k l : Int} (hu : u < 6) (hk : 0 ≤ k ∧ k ≤ 127) (hl0 : l = sLn u) : Sp E yJ1_indexOfChar_4cfef kJ1_indexOfChar_4cfef 0 0 0 [.float (UInt32.ofNat (64 + u)), .int (iI k), .int (iI 0), .int (iI l)] σ ρ ks (Fn (some (.int (iI (amI k u (sLn u).toNat 0)))) σ ρ ks) := by
  refine x_enter (own := RJ1) (L := [_, _, _, _, _, _]) (by decide +kernel) rfl (by exact Nat.le_of_ble_eq_true rfl) rfl (fun p e R s m args below meth c Z hZ hC hR hin => ?_)
  have hl := sLn_in hu
  refine x_iload_n (pc := 0) hC dJ1_indexOfChar_4cfef_0 rfl ?_
  refine x_i2b (pc := 1) hC (by omega) dJ1_indexOfChar_4cfef_1 ?_
  refine x_istore (L' := [_, _, _, _, _, _]) (pc := 2) hC dJ1_indexOfChar_4cfef_2 rfl rfl ?_
  refine x_iload_n (pc := 4) hC dJ1_indexOfChar_4cfef_4 rfl ?_
  refine x_istore (L' := [_, _, _, _, _, _]) (pc := 5) hC dJ1_indexOfChar_4cfef_5 rfl rfl ?_
  have loop : ∀ (n : Nat) (j : Int), 0 ≤ j → j + n = sLn u → amI k u n j = amI k u (sLn u).toNat 0 → X E p e R s m args below meth c Z 0 0 σ ρ ks 7 [some (.float (UInt32.ofNat (64 + u))), some (.int (iI k)), some (.int (iI 0)), some (.int (iI l)), some (.int (iI k)), some (.int (iI j))] [] := by
    intro n
    induction n with
    | zero =>
      intro j h0 h1 h2
      refine x_iload (pc := 7) hC dJ1_indexOfChar_4cfef_7 rfl ?_
      refine x_iload_n (pc := 9) hC dJ1_indexOfChar_4cfef_9 rfl ?_
      refine x_icmp_ge (tgt := 31) (pc := 10) hC (by omega) (by omega) dJ1_indexOfChar_4cfef_10 (by decide) (fun _ => ?_) (fun h => by (exfalso; omega))
      refine x_iconst (pc := 31) hC dJ1_indexOfChar_4cfef_31 ?_
      refine x_ireturn hC hZ dJ1_indexOfChar_4cfef_32 (by decide) (by decide) ?_
      refine ⟨congrArg (fun z => some (Value.int (iI z))) ?_, rfl, rfl, rfl⟩
      rw [← h2]; rfl
    | succ n ih =>
      intro j h0 h1 h2
      have hb := sB_k hu (k := j) ⟨h0, by omega⟩
      refine x_iload (pc := 7) hC dJ1_indexOfChar_4cfef_7 rfl ?_
      refine x_iload_n (pc := 9) hC dJ1_indexOfChar_4cfef_9 rfl ?_
      refine x_icmp_ge (tgt := 31) (pc := 10) hC (by omega) (by omega) dJ1_indexOfChar_4cfef_10 (by decide) (fun h => by (exfalso; omega)) (fun _ => ?_)
      refine x_aloadK_n (pc := 13) hC dJ1_indexOfChar_4cfef_13 rfl ?_
      refine x_iload (pc := 14) hC dJ1_indexOfChar_4cfef_14 rfl ?_
      refine x_sbyt (pc := 16) hC hu (by omega) dJ1_indexOfChar_4cfef_16 ?_
      refine x_iload (pc := 17) hC dJ1_indexOfChar_4cfef_17 rfl ?_
      refine x_icmp_ne (tgt := 25) (pc := 19) hC (by omega) (by omega) dJ1_indexOfChar_4cfef_19 (by decide) (fun hne => ?_) (fun heq => ?_)
      · refine x_iinc (L' := [_, _, _, _, _, _]) (pc := 25) hC dJ1_indexOfChar_4cfef_25 rfl rfl rfl ?_
        refine x_goto (tgt := 7) (pc := 28) hC dJ1_indexOfChar_4cfef_28 (by decide) ?_
        refine ih (j + 1) (by omega) (by omega) ?_
        rw [← h2]
        show _ = if k = sB u j then j else amI k u n (j + 1)
        rw [if_neg (fun h => hne h.symm)]
      · refine x_iload (pc := 22) hC dJ1_indexOfChar_4cfef_22 rfl ?_
        refine x_ireturn hC hZ dJ1_indexOfChar_4cfef_24 (by decide) (by decide) ?_
        refine ⟨congrArg (fun z => some (Value.int (iI z))) ?_, rfl, rfl, rfl⟩
        rw [← h2]
        show _ = if k = sB u j then j else amI k u n (j + 1)
        rw [if_pos heq.symm]
  exact loop (sLn u).toNat 0 (by omega) (by omega) rfl
set_option maxHeartbeats 4000000 in
set_option maxRecDepth 100000 in
theorem s_indexOfL (E : xE) {σ : xM} {ρ : xR} {ks : xKs} {u : Nat} {k l : Int} (hu : u < 6) (hk : 0 ≤ k ∧ k ≤ 127) (hl0 : l = sLn u) : Sp E yJ1_indexOf_4cfef kJ1_indexOf_4cfef 1 0 0 [.float (UInt32.ofNat (64 + u)), .int (iI k), .int (iI 0), .int (iI l)] σ ρ ks (Fn (some (.int (iI (amI k u (sLn u).toNat 0)))) σ ρ ks) := by
  refine x_enter (own := RJ1) (L := [_, _, _, _]) (by decide +kernel) rfl (by exact Nat.le_of_ble_eq_true rfl) rfl (fun p e R s m args below meth c Z hZ hC hR hin => ?_)
  have hl := sLn_in hu
  refine x_iload_n (pc := 0) hC dJ1_indexOf_4cfef_0 rfl ?_
  refine x_callS1 (As := [_]) (Bs := [_]) (pc := 1) hC (s_canEncode E hk) wJ1_88 pJ1_canEncode_9a6ad rfl rfl (by exact Nat.le_of_ble_eq_true rfl) hR (by decide) (by decide) (by decide) rfl dJ1_indexOf_4cfef_1 ?_
  refine x_if_ne (tgt := 9) (pc := 4) hC (by omega) dJ1_indexOf_4cfef_4 (by decide) (fun _ => ?_) (fun h => by (exfalso; omega))
  refine x_iload_n (pc := 9) hC dJ1_indexOf_4cfef_9 rfl ?_
  refine x_iconst (pc := 10) hC dJ1_indexOf_4cfef_10 ?_
  refine x_max (pc := 11) hC wJ1_92 hR (by decide) (by decide) rfl (by exact Nat.le_of_ble_eq_true rfl) (by omega) (by omega) dJ1_indexOf_4cfef_11 ?_
  refine x_istore_n (L' := [_, _, _, _]) (pc := 14) hC dJ1_indexOf_4cfef_14 rfl rfl ?_
  refine x_iload_n (pc := 15) hC dJ1_indexOf_4cfef_15 rfl ?_
  refine x_aloadK_n (pc := 16) hC dJ1_indexOf_4cfef_16 rfl ?_
  refine x_slen (pc := 17) hC hu dJ1_indexOf_4cfef_17 ?_
  refine x_min (pc := 18) hC wJ1_38 hR (by decide) (by decide) rfl (by exact Nat.le_of_ble_eq_true rfl) (by omega) (by omega) dJ1_indexOf_4cfef_18 ?_
  rw [show mxI 0 0 = 0 from rfl, show mnI l (sLn u) = l by unfold mnI; rw [if_neg (by omega)]]
  refine x_istore_n (L' := [_, _, _, _]) (pc := 21) hC dJ1_indexOf_4cfef_21 rfl rfl ?_
  refine x_iload_n (pc := 22) hC dJ1_indexOf_4cfef_22 rfl ?_
  refine x_iload_n (pc := 23) hC dJ1_indexOf_4cfef_23 rfl ?_
  refine x_icmp_lt (tgt := 29) (pc := 24) hC (by omega) (by omega) dJ1_indexOf_4cfef_24 (by decide) (fun _ => ?_) (fun h => by (exfalso; omega))
  refine x_aloadK_n (pc := 29) hC dJ1_indexOf_4cfef_29 rfl ?_
  refine x_iload_n (pc := 30) hC dJ1_indexOf_4cfef_30 rfl ?_
  refine x_iload_n (pc := 31) hC dJ1_indexOf_4cfef_31 rfl ?_
  refine x_iload_n (pc := 32) hC dJ1_indexOf_4cfef_32 rfl ?_
  refine x_callS1 (As := [_, _, _, _]) (Bs := [_, _, _, _]) (pc := 33) hC (s_indexOfChar E hu hk hl0) wJ1_95 pJ1_indexOfChar_4cfef rfl rfl (by exact Nat.le_of_ble_eq_true rfl) hR (by decide) (by decide) (by decide) rfl dJ1_indexOf_4cfef_33 ?_
  refine x_ireturn hC hZ dJ1_indexOf_4cfef_36 (by decide) (by decide) ?_
  exact ⟨rfl, rfl, rfl, rfl⟩
set_option maxHeartbeats 4000000 in
set_option maxRecDepth 100000 in
theorem s_indexOf2 (E : xE) {σ : xM} {ρ : xR} {ks : xKs} {u : Nat} {k : Int} (hu : u < 6) (hk : 0 ≤ k ∧ k ≤ 127) : Sp E yJ0_indexOf_7cf53 kJ0_indexOf_7cf53 2 0 0 [.float (UInt32.ofNat u), .int (iI k), .int (iI 0)] σ ρ ks (Fn (some (.int (iI (amI k u (sLn u).toNat 0)))) σ ρ ks) := by
  refine x_enter (own := RJ0) (L := [_, _, _]) (by decide +kernel) rfl (by exact Nat.le_of_ble_eq_true rfl) rfl (fun p e R s m args below meth c Z hZ hC hR hin => ?_)
  refine x_aloadK_n (pc := 0) hC dJ0_indexOf_7cf53_0 rfl ?_
  refine x_callK1 (As := []) (Bs := []) (pc := 1) hC (s_isLatin1 E hu) wJ0_492 pJ0_isLatin1_aae02 hu rfl rfl (by exact Nat.le_of_ble_eq_true rfl) hR (by decide) (by decide) (by decide) rfl dJ0_indexOf_7cf53_1 ?_
  refine x_if_eq (tgt := 23) (pc := 4) hC (by omega) dJ0_indexOf_7cf53_4 (by decide) (fun h => by (exfalso; omega)) (fun _ => ?_)
  refine x_aloadK_n (pc := 7) hC dJ0_indexOf_7cf53_7 rfl ?_
  refine x_sval (pc := 8) hC gJ_9 hu dJ0_indexOf_7cf53_8 ?_
  refine x_iload_n (pc := 11) hC dJ0_indexOf_7cf53_11 rfl ?_
  refine x_iload_n (pc := 12) hC dJ0_indexOf_7cf53_12 rfl ?_
  refine x_aloadK_n (pc := 13) hC dJ0_indexOf_7cf53_13 rfl ?_
  refine x_callK1 (As := []) (Bs := []) (pc := 14) hC (s_length E hu) wJ0_505 pJ0_length_8abf5 hu rfl rfl (by exact Nat.le_of_ble_eq_true rfl) hR (by decide) (by decide) (by decide) rfl dJ0_indexOf_7cf53_14 ?_
  refine x_callS1 (As := [_, _, _, _]) (Bs := [_, _, _, _]) (pc := 17) hC (s_indexOfL E hu hk rfl) wJ0_637 pJ1_indexOf_4cfef rfl rfl (by exact Nat.le_of_ble_eq_true rfl) hR (by decide) (by decide) (by decide) rfl dJ0_indexOf_7cf53_17 ?_
  refine x_goto (tgt := 36) (pc := 20) hC dJ0_indexOf_7cf53_20 (by decide) ?_
  refine x_ireturn hC hZ dJ0_indexOf_7cf53_36 (by decide) (by decide) ?_
  exact ⟨rfl, rfl, rfl, rfl⟩
set_option maxHeartbeats 4000000 in
set_option maxRecDepth 100000 in
theorem s_indexOf (E : xE) {σ : xM} {ρ : xR} {ks : xKs} {u : Nat} {k : Int} (hu : u < 6) (hk : 0 ≤ k ∧ k ≤ 127) : Sp E yJ0_indexOf_0f7a4 kJ0_indexOf_0f7a4 3 0 0 [.float (UInt32.ofNat u), .int (iI k)] σ ρ ks (Fn (some (.int (iI (amI k u (sLn u).toNat 0)))) σ ρ ks) := by
  refine x_enter (own := RJ0) (L := [_, _]) (by decide +kernel) rfl (by exact Nat.le_of_ble_eq_true rfl) rfl (fun p e R s m args below meth c Z hZ hC hR hin => ?_)
  refine x_aloadK_n (pc := 0) hC dJ0_indexOf_0f7a4_0 rfl ?_
  refine x_iload_n (pc := 1) hC dJ0_indexOf_0f7a4_1 rfl ?_
  refine x_iconst (pc := 2) hC dJ0_indexOf_0f7a4_2 ?_
  refine x_callK1 (As := [_, _]) (Bs := [_, _]) (pc := 3) hC (s_indexOf2 E hu hk) wJ0_633 pJ0_indexOf_7cf53 hu rfl rfl (by exact Nat.le_of_ble_eq_true rfl) hR (by decide) (by decide) (by decide) rfl dJ0_indexOf_0f7a4_3 ?_
  refine x_ireturn hC hZ dJ0_indexOf_0f7a4_6 (by decide) (by decide) ?_
  exact ⟨rfl, rfl, rfl, rfl⟩