/-! THE JDK'S STRING MEMBERS over the literals: .float n is literal n, .float (64 + n) its bytes, .float 127 a formatter that nobody asks -/
theorem pJ0_length_8abf5 : yJ0_length_8abf5.cls ≠ "java/lang/invoke/MethodHandle" ∧ yJ0_length_8abf5.cls ≠ "java/lang/invoke/VarHandle" ∧ (parseMethodDescriptor yJ0_length_8abf5.desc).map (fun d => d.parameters.length) = some 0 := by decide +kernel
theorem pJ0_coder_7d493 : yJ0_coder_7d493.cls ≠ "java/lang/invoke/MethodHandle" ∧ yJ0_coder_7d493.cls ≠ "java/lang/invoke/VarHandle" ∧ (parseMethodDescriptor yJ0_coder_7d493.desc).map (fun d => d.parameters.length) = some 0 := by decide +kernel
theorem pJ0_charAt_5068e : yJ0_charAt_5068e.cls ≠ "java/lang/invoke/MethodHandle" ∧ yJ0_charAt_5068e.cls ≠ "java/lang/invoke/VarHandle" ∧ (parseMethodDescriptor yJ0_charAt_5068e.desc).map (fun d => d.parameters.length) = some 1 := by decide +kernel
theorem pJ0_isLatin1_aae02 : yJ0_isLatin1_aae02.cls ≠ "java/lang/invoke/MethodHandle" ∧ yJ0_isLatin1_aae02.cls ≠ "java/lang/invoke/VarHandle" ∧ (parseMethodDescriptor yJ0_isLatin1_aae02.desc).map (fun d => d.parameters.length) = some 0 := by decide +kernel
theorem pJ1_charAt_3b067 : yJ1_charAt_3b067.cls ≠ "java/lang/invoke/MethodHandle" ∧ yJ1_charAt_3b067.cls ≠ "java/lang/invoke/VarHandle" ∧ (parseMethodDescriptor yJ1_charAt_3b067.desc).map (fun d => d.parameters.length) = some 2 := by decide +kernel
theorem pJ0_checkIndex_df160 : yJ0_checkIndex_df160.cls ≠ "java/lang/invoke/MethodHandle" ∧ yJ0_checkIndex_df160.cls ≠ "java/lang/invoke/VarHandle" ∧ (parseMethodDescriptor yJ0_checkIndex_df160.desc).map (fun d => d.parameters.length) = some 2 := by decide +kernel
theorem pJ3_checkIndex_8e157 : yJ3_checkIndex_8e157.cls ≠ "java/lang/invoke/MethodHandle" ∧ yJ3_checkIndex_8e157.cls ≠ "java/lang/invoke/VarHandle" ∧ (parseMethodDescriptor yJ3_checkIndex_8e157.desc).map (fun d => d.parameters.length) = some 3 := by decide +kernel
theorem pJ0_indexOf_0f7a4 : yJ0_indexOf_0f7a4.cls ≠ "java/lang/invoke/MethodHandle" ∧ yJ0_indexOf_0f7a4.cls ≠ "java/lang/invoke/VarHandle" ∧ (parseMethodDescriptor yJ0_indexOf_0f7a4.desc).map (fun d => d.parameters.length) = some 1 := by decide +kernel
theorem pJ0_indexOf_7cf53 : yJ0_indexOf_7cf53.cls ≠ "java/lang/invoke/MethodHandle" ∧ yJ0_indexOf_7cf53.cls ≠ "java/lang/invoke/VarHandle" ∧ (parseMethodDescriptor yJ0_indexOf_7cf53.desc).map (fun d => d.parameters.length) = some 2 := by decide +kernel
theorem pJ1_indexOf_4cfef : yJ1_indexOf_4cfef.cls ≠ "java/lang/invoke/MethodHandle" ∧ yJ1_indexOf_4cfef.cls ≠ "java/lang/invoke/VarHandle" ∧ (parseMethodDescriptor yJ1_indexOf_4cfef.desc).map (fun d => d.parameters.length) = some 4 := by decide +kernel
theorem pJ1_canEncode_9a6ad : yJ1_canEncode_9a6ad.cls ≠ "java/lang/invoke/MethodHandle" ∧ yJ1_canEncode_9a6ad.cls ≠ "java/lang/invoke/VarHandle" ∧ (parseMethodDescriptor yJ1_canEncode_9a6ad.desc).map (fun d => d.parameters.length) = some 1 := by decide +kernel
theorem pJ1_indexOfChar_4cfef : yJ1_indexOfChar_4cfef.cls ≠ "java/lang/invoke/MethodHandle" ∧ yJ1_indexOfChar_4cfef.cls ≠ "java/lang/invoke/VarHandle" ∧ (parseMethodDescriptor yJ1_indexOfChar_4cfef.desc).map (fun d => d.parameters.length) = some 4 := by decide +kernel
theorem wJ0_335 : kJ0_coder_7d493 ∈ TW ∧ Cond.methodLink RJ0 335 yJ0_coder_7d493 ∈ TW ∧ Cond.instanceMethod yJ0_coder_7d493 ∈ TW ∧ Cond.selects RJ0 yJ0_coder_7d493 yJ0_coder_7d493 ∈ TW ∧ Cond.initialized yJ0_coder_7d493.cls ∈ TW := ⟨mJ0_coder_7d493, TW_of (List.mem_of_getElem? (i := 330) (by decide +kernel)) rfl, TW_of (List.mem_of_getElem? (i := 331) (by decide +kernel)) rfl, TW_of (List.mem_of_getElem? (i := 332) (by decide +kernel)) rfl, TW_of (List.mem_of_getElem? (i := 75) (by decide +kernel)) rfl⟩
theorem wJ0_492 : kJ0_isLatin1_aae02 ∈ TW ∧ Cond.methodLink RJ0 492 yJ0_isLatin1_aae02 ∈ TW ∧ Cond.instanceMethod yJ0_isLatin1_aae02 ∈ TW ∧ Cond.selects RJ0 yJ0_isLatin1_aae02 yJ0_isLatin1_aae02 ∈ TW ∧ Cond.initialized yJ0_isLatin1_aae02.cls ∈ TW := ⟨mJ0_isLatin1_aae02, TW_of (List.mem_of_getElem? (i := 340) (by decide +kernel)) rfl, TW_of (List.mem_of_getElem? (i := 341) (by decide +kernel)) rfl, TW_of (List.mem_of_getElem? (i := 342) (by decide +kernel)) rfl, TW_of (List.mem_of_getElem? (i := 75) (by decide +kernel)) rfl⟩
theorem wJ0_495 : kJ1_charAt_3b067 ∈ TW ∧ Cond.methodLink RJ0 495 yJ1_charAt_3b067 ∈ TW ∧ Cond.static yJ1_charAt_3b067 ∈ TW ∧ Cond.initialized yJ1_charAt_3b067.cls ∈ TW := ⟨mJ1_charAt_3b067, TW_of (List.mem_of_getElem? (i := 344) (by decide +kernel)) rfl, TW_of (List.mem_of_getElem? (i := 345) (by decide +kernel)) rfl, TW_of (List.mem_of_getElem? (i := 76) (by decide +kernel)) rfl⟩
theorem wJ1_9 : kJ0_checkIndex_df160 ∈ TW ∧ Cond.methodLink RJ1 9 yJ0_checkIndex_df160 ∈ TW ∧ Cond.static yJ0_checkIndex_df160 ∈ TW ∧ Cond.initialized yJ0_checkIndex_df160.cls ∈ TW := ⟨mJ0_checkIndex_df160, TW_of (List.mem_of_getElem? (i := 347) (by decide +kernel)) rfl, TW_of (List.mem_of_getElem? (i := 348) (by decide +kernel)) rfl, TW_of (List.mem_of_getElem? (i := 75) (by decide +kernel)) rfl⟩
theorem wJ0_1059 : kJ3_checkIndex_8e157 ∈ TW ∧ Cond.methodLink RJ0 1059 yJ3_checkIndex_8e157 ∈ TW ∧ Cond.static yJ3_checkIndex_8e157 ∈ TW ∧ Cond.initialized yJ3_checkIndex_8e157.cls ∈ TW := ⟨mJ3_checkIndex_8e157, TW_of (List.mem_of_getElem? (i := 352) (by decide +kernel)) rfl, TW_of (List.mem_of_getElem? (i := 353) (by decide +kernel)) rfl, TW_of (List.mem_of_getElem? (i := 77) (by decide +kernel)) rfl⟩
theorem wX12_59 : kJ0_length_8abf5 ∈ TW ∧ Cond.methodLink RX12 59 yJ0_length_8abf5 ∈ TW ∧ Cond.instanceMethod yJ0_length_8abf5 ∈ TW ∧ Cond.selects RJ0 yJ0_length_8abf5 yJ0_length_8abf5 ∈ TW ∧ Cond.initialized yJ0_length_8abf5.cls ∈ TW := ⟨mJ0_length_8abf5, TW_of (List.mem_of_getElem? (i := 1196) (by decide +kernel)) rfl, TW_of (List.mem_of_getElem? (i := 327) (by decide +kernel)) rfl, TW_of (List.mem_of_getElem? (i := 328) (by decide +kernel)) rfl, TW_of (List.mem_of_getElem? (i := 75) (by decide +kernel)) rfl⟩
theorem wX12_64 : kJ0_charAt_5068e ∈ TW ∧ Cond.methodLink RX12 64 yJ0_charAt_5068e ∈ TW ∧ Cond.instanceMethod yJ0_charAt_5068e ∈ TW ∧ Cond.selects RJ0 yJ0_charAt_5068e yJ0_charAt_5068e ∈ TW ∧ Cond.initialized yJ0_charAt_5068e.cls ∈ TW := ⟨mJ0_charAt_5068e, TW_of (List.mem_of_getElem? (i := 1197) (by decide +kernel)) rfl, TW_of (List.mem_of_getElem? (i := 337) (by decide +kernel)) rfl, TW_of (List.mem_of_getElem? (i := 338) (by decide +kernel)) rfl, TW_of (List.mem_of_getElem? (i := 75) (by decide +kernel)) rfl⟩
theorem wX4_93 : kJ0_length_8abf5 ∈ TW ∧ Cond.methodLink RX4 93 yJ0_length_8abf5 ∈ TW ∧ Cond.instanceMethod yJ0_length_8abf5 ∈ TW ∧ Cond.selects RJ0 yJ0_length_8abf5 yJ0_length_8abf5 ∈ TW ∧ Cond.initialized yJ0_length_8abf5.cls ∈ TW := ⟨mJ0_length_8abf5, TW_of (List.mem_of_getElem? (i := 326) (by decide +kernel)) rfl, TW_of (List.mem_of_getElem? (i := 327) (by decide +kernel)) rfl, TW_of (List.mem_of_getElem? (i := 328) (by decide +kernel)) rfl, TW_of (List.mem_of_getElem? (i := 75) (by decide +kernel)) rfl⟩
theorem wX4_98 : kJ0_charAt_5068e ∈ TW ∧ Cond.methodLink RX4 98 yJ0_charAt_5068e ∈ TW ∧ Cond.instanceMethod yJ0_charAt_5068e ∈ TW ∧ Cond.selects RJ0 yJ0_charAt_5068e yJ0_charAt_5068e ∈ TW ∧ Cond.initialized yJ0_charAt_5068e.cls ∈ TW := ⟨mJ0_charAt_5068e, TW_of (List.mem_of_getElem? (i := 336) (by decide +kernel)) rfl, TW_of (List.mem_of_getElem? (i := 337) (by decide +kernel)) rfl, TW_of (List.mem_of_getElem? (i := 338) (by decide +kernel)) rfl, TW_of (List.mem_of_getElem? (i := 75) (by decide +kernel)) rfl⟩
theorem wX4_117 : kJ0_indexOf_0f7a4 ∈ TW ∧ Cond.methodLink RX4 117 yJ0_indexOf_0f7a4 ∈ TW ∧ Cond.instanceMethod yJ0_indexOf_0f7a4 ∈ TW ∧ Cond.selects RJ0 yJ0_indexOf_0f7a4 yJ0_indexOf_0f7a4 ∈ TW ∧ Cond.initialized yJ0_indexOf_0f7a4.cls ∈ TW := ⟨mJ0_indexOf_0f7a4, TW_of (List.mem_of_getElem? (i := 397) (by decide +kernel)) rfl, TW_of (List.mem_of_getElem? (i := 398) (by decide +kernel)) rfl, TW_of (List.mem_of_getElem? (i := 399) (by decide +kernel)) rfl, TW_of (List.mem_of_getElem? (i := 75) (by decide +kernel)) rfl⟩
theorem wJ0_633 : kJ0_indexOf_7cf53 ∈ TW ∧ Cond.methodLink RJ0 633 yJ0_indexOf_7cf53 ∈ TW ∧ Cond.instanceMethod yJ0_indexOf_7cf53 ∈ TW ∧ Cond.selects RJ0 yJ0_indexOf_7cf53 yJ0_indexOf_7cf53 ∈ TW ∧ Cond.initialized yJ0_indexOf_7cf53.cls ∈ TW := ⟨mJ0_indexOf_7cf53, TW_of (List.mem_of_getElem? (i := 401) (by decide +kernel)) rfl, TW_of (List.mem_of_getElem? (i := 402) (by decide +kernel)) rfl, TW_of (List.mem_of_getElem? (i := 403) (by decide +kernel)) rfl, TW_of (List.mem_of_getElem? (i := 75) (by decide +kernel)) rfl⟩
theorem wJ0_505 : kJ0_length_8abf5 ∈ TW ∧ Cond.methodLink RJ0 505 yJ0_length_8abf5 ∈ TW ∧ Cond.instanceMethod yJ0_length_8abf5 ∈ TW ∧ Cond.selects RJ0 yJ0_length_8abf5 yJ0_length_8abf5 ∈ TW ∧ Cond.initialized yJ0_length_8abf5.cls ∈ TW := ⟨mJ0_length_8abf5, TW_of (List.mem_of_getElem? (i := 405) (by decide +kernel)) rfl, TW_of (List.mem_of_getElem? (i := 327) (by decide +kernel)) rfl, TW_of (List.mem_of_getElem? (i := 328) (by decide +kernel)) rfl, TW_of (List.mem_of_getElem? (i := 75) (by decide +kernel)) rfl⟩
theorem wJ0_637 : kJ1_indexOf_4cfef ∈ TW ∧ Cond.methodLink RJ0 637 yJ1_indexOf_4cfef ∈ TW ∧ Cond.static yJ1_indexOf_4cfef ∈ TW ∧ Cond.initialized yJ1_indexOf_4cfef.cls ∈ TW := ⟨mJ1_indexOf_4cfef, TW_of (List.mem_of_getElem? (i := 406) (by decide +kernel)) rfl, TW_of (List.mem_of_getElem? (i := 407) (by decide +kernel)) rfl, TW_of (List.mem_of_getElem? (i := 76) (by decide +kernel)) rfl⟩
theorem wJ1_88 : kJ1_canEncode_9a6ad ∈ TW ∧ Cond.methodLink RJ1 88 yJ1_canEncode_9a6ad ∈ TW ∧ Cond.static yJ1_canEncode_9a6ad ∈ TW ∧ Cond.initialized yJ1_canEncode_9a6ad.cls ∈ TW := ⟨mJ1_canEncode_9a6ad, TW_of (List.mem_of_getElem? (i := 409) (by decide +kernel)) rfl, TW_of (List.mem_of_getElem? (i := 410) (by decide +kernel)) rfl, TW_of (List.mem_of_getElem? (i := 76) (by decide +kernel)) rfl⟩
theorem wJ1_95 : kJ1_indexOfChar_4cfef ∈ TW ∧ Cond.methodLink RJ1 95 yJ1_indexOfChar_4cfef ∈ TW ∧ Cond.static yJ1_indexOfChar_4cfef ∈ TW ∧ Cond.initialized yJ1_indexOfChar_4cfef.cls ∈ TW := ⟨mJ1_indexOfChar_4cfef, TW_of (List.mem_of_getElem? (i := 414) (by decide +kernel)) rfl, TW_of (List.mem_of_getElem? (i := 415) (by decide +kernel)) rfl, TW_of (List.mem_of_getElem? (i := 76) (by decide +kernel)) rfl⟩
theorem gJ_9 : Cond.fieldLink RJ0 9 RJ0 "value" "[B" ∈ TW := TW_of (List.mem_of_getElem? (i := 1576) (by decide +kernel)) rfl
theorem gJ_15 : Cond.fieldLink RJ0 15 RJ0 "coder" "B" ∈ TW := TW_of (List.mem_of_getElem? (i := 1577) (by decide +kernel)) rfl
theorem gJ_38 : Cond.fieldLink RJ0 38 RJ0 "COMPACT_STRINGS" "Z" ∈ TW := TW_of (List.mem_of_getElem? (i := 334) (by decide +kernel)) rfl
theorem gJ_1053 : Cond.fieldLink RJ0 1053 RJ3 "SIOOBE_FORMATTER" "Ljava/util/function/BiFunction;" ∈ TW := TW_of (List.mem_of_getElem? (i := 350) (by decide +kernel)) rfl
theorem u32n {n : Nat} (h : n < 4294967296) : (UInt32.ofNat n).toNat = n := UInt32.toNat_ofNat_of_lt' h
theorem rn_k (E : xE) {u : Nat} (h : u < 64) : rn E (.float (UInt32.ofNat u)) = .ref (E.2.2.2.2.1 u) := by rw [rn, u32n (by omega), if_pos h]
theorem rn_v (E : xE) {u : Nat} (h : u < 64) : rn E (.float (UInt32.ofNat (64 + u))) = .ref (E.2.2.2.2.2 u) := by rw [rn, u32n (by omega), if_neg (by omega), Nat.add_sub_cancel_left]
/-- a literal's length, its bytes -/
def sLn (u : Nat) : Int := (xLen.getD u 0 : Int)
def sB (u : Nat) (k : Int) : Int := ((xByt.getD u []).getD k.toNat 0).toInt
section XSTR
variable {E : xE} {p : Program} {e : Env} {R : Room} {s : State} {m : MethodId} {args : Array Value} {below : List Frame} {meth : Method} {c : Code} {Z : State → Prop} {kc ns : Nat} {σ : xM} {ρ : xR} {ks : xKs} {pc : Nat} {L : List (Option Value)} {st : List Value} {cc : ByteArray} {own : String} {ret : Option FieldType} {nL : Nat}
theorem x_callK (C : XC E p R s m args meth c cc own ret nL) {i u d D mc ms n KC KS : Nat} {y : MethodName} {bytes : ByteArray} {maxL : Nat} {r : Option FieldType} {As Bs : List Value} {Q : Option Value → xM → xR → xKs → Prop}
    (hM : Sp E y (.code y bytes maxL r) d mc ms (.float (UInt32.ofNat u) :: As) σ ρ ks Q) (hws : Cond.code y bytes maxL r ∈ TW ∧ Cond.methodLink own i y ∈ TW ∧ Cond.instanceMethod y ∈ TW ∧ Cond.selects RJ0 y y ∈ TW ∧ Cond.initialized y.cls ∈ TW)
    (hy : y.cls ≠ "java/lang/invoke/MethodHandle" ∧ y.cls ≠ "java/lang/invoke/VarHandle" ∧ (parseMethodDescriptor y.desc).map (fun d => d.parameters.length) = some n) (hu : u < 6) (hn : As.length = n) (hst : Bs = As.reverse) (hcat : (st.map fun v => v.category).sum ≤ 8) (hR : xRm R D KC KS) (hd1 : d < D) (hm : maxL ≤ 45) (hf : kc + mc ≤ KC ∧ ns + ms ≤ KS) (hL : L.length = nL)
    (hd : decode cc pc = .ok (.invokevirtual i, 3)) (kk : ∀ r σ' ρ' ks', Q r σ' ρ' ks' → X E p e R s m args below meth c Z (kc + mc) (ns + ms) σ' ρ' ks' (pc + 3) L (r.toList ++ st)) : X E p e R s m args below meth c Z kc ns σ ρ ks pc L (Bs ++ .float (UInt32.ofNat u) :: st) := by
  intro H locs ls h1 h2 h3
  obtain ⟨cell, g1, g2, g3⟩ := vk_recv C.2.2.2.2.2.2.1.1 hu h2
  have hM2 : Met E.1 y (Cond.code y bytes maxL r :: TW) { frames := d, cells := mc, slots := ms, locals := 64 * d } (va_Pc (Value.ref (E.2.2.2.2.1 u) :: As.map (rn E)) (xG E σ ρ ks)) (xQ E Q) mc ms (xA E) := by
    have := hM
    unfold Sp at this
    rw [List.map_cons, rn_k E (by omega)] at this
    exact this
  have hbl : FrameBlind (va_Pc (Value.ref (E.2.2.2.2.1 u) :: As.map (rn E)) (xG E σ ρ ks)) := by
    have := xG.blind (E := E) (σ := σ) (ρ := ρ) (ks := ks) (As := .float (UInt32.ofNat u) :: As)
    rw [List.map_cons, rn_k E (by omega)] at this
    exact this
  refine x_after (y := y) (As := (Value.ref (E.2.2.2.2.1 u) :: As.map (rn E)).toArray) (Q := Q) (va_runV (As := As.map (rn E)) (n := n) (C := RJ0) ⟨C.1, C.2.1, C.2.2.1, C.2.2.2.1, C.2.2.2.2.1⟩ hM2 ⟨callB_of n C.2.2.2.2.1 (fun w hw => ?_) rfl rfl rfl (C.2.2.2.2.1 _ hws.2.2.2.2) (C.2.2.2.2.1 _ hws.2.1) hy ?_, C.2.2.2.2.1 _ hws.2.2.1, C.2.2.2.2.1 _ hws.2.2.2.1⟩ ⟨hbl, ⟨cell, g1, g2, g3⟩, fun U hU hW => ⟨rfl, xG.moved C.2.2.2.2.2.1 C.2.2.2.2.2.2.1 h1 h2 hU hW⟩⟩ rfl (by rw [List.length_map]; exact hn) (h3.1.trans hL) ?_ (lv_room (x_cat hcat)) hd ⟨by rw [hR.2.2.1]; exact hf.1, by rw [hR.2.2.2]; exact hf.2⟩) h2 h3 kk
  · rcases List.mem_cons.mp hw with rfl | hw
    · exact ⟨hws.1, good_of_word (List.mem_filter.mp hws.1).2⟩
    · exact ⟨hw, good_of_word (List.mem_filter.mp hw).2⟩
  · exact x_room hd1 hm ⟨hR.1, hR.2.1⟩
  · show (Bs ++ .float (UInt32.ofNat u) :: st).map (rn E) = _
    rw [List.map_append, hst, List.map_reverse, List.map_cons, rn_k E (by omega)]
/-- its end is a function's, with an answer, and makes nothing -/
theorem x_callK1 (C : XC E p R s m args meth c cc own ret nL) {i u d D n KC KS : Nat} {y : MethodName} {bytes : ByteArray} {maxL : Nat} {r : Option FieldType} {As Bs : List Value} {v : Value} {σ' : xM} {ρ' : xR} {ks' : xKs}
    (hM : Sp E y (.code y bytes maxL r) d 0 0 (.float (UInt32.ofNat u) :: As) σ ρ ks (Fn (some v) σ' ρ' ks')) (hws : Cond.code y bytes maxL r ∈ TW ∧ Cond.methodLink own i y ∈ TW ∧ Cond.instanceMethod y ∈ TW ∧ Cond.selects RJ0 y y ∈ TW ∧ Cond.initialized y.cls ∈ TW)
    (hy : y.cls ≠ "java/lang/invoke/MethodHandle" ∧ y.cls ≠ "java/lang/invoke/VarHandle" ∧ (parseMethodDescriptor y.desc).map (fun d => d.parameters.length) = some n) (hu : u < 6) (hn : As.length = n) (hst : Bs = As.reverse) (hcat : (st.map fun v => v.category).sum ≤ 8) (hR : xRm R D KC KS) (hd1 : d < D) (hm : maxL ≤ 45) (hf : kc + 0 ≤ KC ∧ ns + 0 ≤ KS) (hL : L.length = nL)
    (hd : decode cc pc = .ok (.invokevirtual i, 3)) (kk : X E p e R s m args below meth c Z kc ns σ' ρ' ks' (pc + 3) L (v :: st)) : X E p e R s m args below meth c Z kc ns σ ρ ks pc L (Bs ++ .float (UInt32.ofNat u) :: st) :=
  x_callK C hM hws hy hu hn hst hcat hR hd1 hm hf hL hd (fun r2 σ2 ρ2 ks2 q => by obtain ⟨rfl, rfl, rfl, rfl⟩ := q; exact kk)
theorem x_aloadK_n (C : XC E p R s m args meth c cc own ret nL) {i : Fin 4} {u : UInt32} (hd : decode cc pc = .ok (.aload_n i, 1)) (hv : L[i.1]? = some (some (.float u))) (k : X E p e R s m args below meth c Z kc ns σ ρ ks (pc + 1) L (.float u :: st)) : X E p e R s m args below meth c Z kc ns σ ρ ks pc L st :=
  x_aloadS_n C hd hv k
theorem x_sval (C : XC E p R s m args meth c cc own ret nL) {i u : Nat} (hw : Cond.fieldLink own i RJ0 "value" "[B" ∈ TW) (hu : u < 6) (hd : decode cc pc = .ok (.getfield i, 3)) (k : X E p e R s m args below meth c Z kc ns σ ρ ks (pc + 3) L (.float (UInt32.ofNat (64 + u)) :: st)) : X E p e R s m args below meth c Z kc ns σ ρ ks pc L (.float (UInt32.ofNat u) :: st) := by
  intro H locs ls h1 h2 h3
  have hk := k H locs ls h1 h2 h3
  rw [List.map_cons, rn_v E (by omega)] at hk
  rw [List.map_cons, rn_k E (by omega)]
  exact vk_getf C.1 C.2.1 (C.2.2.2.2.2.2.1.1.1 u hu).2.2.1 h2 C.2.2.2.1 (C.2.2.2.2.1 _ hw) (fun _ h => h) hd hk
theorem x_scod (C : XC E p R s m args meth c cc own ret nL) {i u : Nat} (hw : Cond.fieldLink own i RJ0 "coder" "B" ∈ TW) (hu : u < 6) (hd : decode cc pc = .ok (.getfield i, 3)) (k : X E p e R s m args below meth c Z kc ns σ ρ ks (pc + 3) L (.int (iI 0) :: st)) : X E p e R s m args below meth c Z kc ns σ ρ ks pc L (.float (UInt32.ofNat u) :: st) := by
  intro H locs ls h1 h2 h3
  have hk := k H locs ls h1 h2 h3
  rw [iI_0] at hk
  rw [List.map_cons, rn_k E (by omega)]
  exact vk_getf C.1 C.2.1 (C.2.2.2.2.2.2.1.1.1 u hu).2.1 h2 C.2.2.2.1 (C.2.2.2.2.1 _ hw) (fun _ h => h) hd hk
theorem x_slen (C : XC E p R s m args meth c cc own ret nL) {u : Nat} (hu : u < 6) (hd : decode cc pc = .ok (.arraylength, 1)) (k : X E p e R s m args below meth c Z kc ns σ ρ ks (pc + 1) L (.int (iI (sLn u)) :: st)) : X E p e R s m args below meth c Z kc ns σ ρ ks pc L (.float (UInt32.ofNat (64 + u)) :: st) := by
  intro H locs ls h1 h2 h3
  have hk := k H locs ls h1 h2 h3
  rw [List.map_cons, rn_v E (by omega)]
  exact va_tlen C.1 C.2.1 (C.2.2.2.2.2.2.1.1.1 u hu).2.2.2 h2 (v := iI (sLn u)) (by rcases u with _|_|_|_|_|_|u <;> first | rfl | omega) hd hk
theorem sLn_in {u : Nat} (hu : u < 6) : 3 ≤ sLn u ∧ sLn u ≤ 6 := by rcases u with _|_|_|_|_|_|u <;> first | decide | omega
theorem x_sbyt (C : XC E p R s m args meth c cc own ret nL) {u : Nat} {k0 : Int} (hu : u < 6) (hk : 0 ≤ k0 ∧ k0 < sLn u) (hd : decode cc pc = .ok (.baload, 1)) (k : X E p e R s m args below meth c Z kc ns σ ρ ks (pc + 1) L (.int (iI (sB u k0)) :: st)) : X E p e R s m args below meth c Z kc ns σ ρ ks pc L (.int (iI k0) :: .float (UInt32.ofNat (64 + u)) :: st) := by
  intro H locs ls h1 h2 h3
  have hln := sLn_in hu
  have hk' := k H locs ls h1 h2 h3
  have hcl := iI_clamp hk.1 (by omega)
  rw [List.map_cons, List.map_cons, rn_v E (by omega)]
  refine va_tb C.1 C.2.1 (C.2.2.2.2.2.2.1.1.1 u hu).2.2.2 h2 (i := iI k0) (v := .int (iI (sB u k0))) ?_ ?_ hd hk'
  · exact iI_in hk.1 (show k0 < ((xLen.getD u 0 : Nat) : Int) from hk.2) (by have : ((xLen.getD u 0 : Nat) : Int) ≤ 6 := hln.2; omega)
  · rw [hcl]; unfold sB; rw [iI_of]
theorem x_getC (C : XC E p R s m args meth c cc own ret nL) {i : Nat} (hw : Cond.fieldLink own i RJ0 "COMPACT_STRINGS" "Z" ∈ TW) (hd : decode cc pc = .ok (.getstatic i, 3)) (k : X E p e R s m args below meth c Z kc ns σ ρ ks (pc + 3) L (.int (iI 1) :: st)) : X E p e R s m args below meth c Z kc ns σ ρ ks pc L st := by
  intro H locs ls h1 h2 h3
  have hk := k H locs ls h1 h2 h3
  rw [show iI 1 = 1 by decide +kernel] at hk
  exact va_gets C.1 C.2.1 C.2.2.2.2.2.2.1.2.2.2.2.2.2.1 h2 C.2.2.2.1 (C.2.2.2.2.1 _ hw) (fun _ h => h) hd hk
theorem x_getF (C : XC E p R s m args meth c cc own ret nL) {i : Nat} (hw : Cond.fieldLink own i RJ3 "SIOOBE_FORMATTER" "Ljava/util/function/BiFunction;" ∈ TW) (hd : decode cc pc = .ok (.getstatic i, 3)) (k0 : X E p e R s m args below meth c Z kc ns σ ρ ks (pc + 3) L (.null :: st)) (k : X E p e R s m args below meth c Z kc ns σ ρ ks (pc + 3) L (.float (UInt32.ofNat (64 + 63)) :: st)) : X E p e R s m args below meth c Z kc ns σ ρ ks pc L st := by
  intro H locs ls h1 h2 h3
  rcases C.2.2.2.2.2.2.1.2.2.2.2.2.2.2 with hZ | hZ
  · exact va_gets C.1 C.2.1 hZ h2 C.2.2.2.1 (C.2.2.2.2.1 _ hw) (fun _ h => h) hd (k0 H locs ls h1 h2 h3)
  · have hk := k H locs ls h1 h2 h3
    rw [List.map_cons, rn_v E (by omega)] at hk
    exact va_gets C.1 C.2.1 hZ h2 C.2.2.2.1 (C.2.2.2.2.1 _ hw) (fun _ h => h) hd hk
theorem x_popI (C : XC E p R s m args meth c cc own ret nL) {v : Int32} (hd : decode cc pc = .ok (.pop, 1)) (k : X E p e R s m args below meth c Z kc ns σ ρ ks (pc + 1) L st) : X E p e R s m args below meth c Z kc ns σ ρ ks pc L (.int v :: st) :=
  fun H locs ls h1 h2 h3 => lv_pop C.1 C.2.1 hd rfl (k H locs ls h1 h2 h3)
theorem x_nreturn {ty : FieldType} (C : XC E p R s m args meth c cc own (some ty) nL) {mc ms : Nat} {z : Int} {Q : Option Value → xM → xR → xKs → Prop} (hZ : XZ E below args s mc ms Q = Z) (hz : narrow ty (.int (iI z)) = .int (iI z)) (hd : decode cc pc = .ok (.ireturn, 1)) (h1 : kc ≤ mc) (h2 : ns ≤ ms) (hq : Q (some (.int (iI z))) σ ρ ks) : X E p e R s m args below meth c Z kc ns σ ρ ks pc L [.int (iI z)] := by
  subst hZ
  exact fun H locs ls g1 g2 g3 => W.widen h1 h2 (W.zret C.1 C.2.1 C.2.2.2.2.2.2.2.1 hz (fun t ht hW => ⟨⟨some (.int (iI z)), σ, ρ, ks, rfl, hq, by rw [ht]; exact g1⟩, g2.F ht⟩) g2.2.2 hd C.2.2.2.2.2.2.2.2)
end XSTR
/-- the code of the sign at k -/
theorem sB_all : ∀ u, u < 6 → ∀ k : Nat, k < xLen.getD u 0 → bAnd (sB u k) 255 = sB u k ∧ 32 ≤ sB u k ∧ sB u k ≤ 126 ∧ narrow .char (.int (iI (sB u k))) = .int (iI (sB u k)) := by decide +kernel
theorem sB_k {u : Nat} {k : Int} (hu : u < 6) (hk : 0 ≤ k ∧ k < sLn u) : bAnd (sB u k) 255 = sB u k ∧ 32 ≤ sB u k ∧ sB u k ≤ 126 ∧ narrow .char (.int (iI (sB u k))) = .int (iI (sB u k)) := by
  obtain ⟨n, rfl⟩ : ∃ n : Nat, k = n := ⟨k.toNat, by omega⟩
  exact sB_all u hu n (by have := hk.2; unfold sLn at this; omega)
set_option maxHeartbeats 4000000 in
set_option maxRecDepth 100000 in
theorem s_coder (E : xE) {σ : xM} {ρ : xR} {ks : xKs} {u : Nat} (hu : u < 6) : Sp E yJ0_coder_7d493 kJ0_coder_7d493 0 0 0 [.float (UInt32.ofNat u)] σ ρ ks (Fn (some (.int (iI 0))) σ ρ ks) := by
  refine x_enter (own := RJ0) (L := [_]) (by decide +kernel) rfl (by exact Nat.le_of_ble_eq_true rfl) rfl (fun p e R s m args below meth c Z hZ hC hR hin => ?_)
  refine x_getC hC gJ_38 dJ0_coder_7d493_0 ?_
  refine x_if_eq (tgt := 13) (pc := 3) hC (by omega) dJ0_coder_7d493_3 (by decide) (fun h => by (exfalso; omega)) (fun _ => ?_)
  refine x_aloadK_n (pc := 6) hC dJ0_coder_7d493_6 rfl ?_
  refine x_scod (pc := 7) hC gJ_15 hu dJ0_coder_7d493_7 ?_
  refine x_goto (tgt := 14) (pc := 10) hC dJ0_coder_7d493_10 (by decide) ?_
  refine x_nreturn hC hZ (by decide +kernel) dJ0_coder_7d493_14 (by decide) (by decide) ?_
  exact ⟨rfl, rfl, rfl, rfl⟩
set_option maxHeartbeats 4000000 in
set_option maxRecDepth 100000 in
theorem s_isLatin1 (E : xE) {σ : xM} {ρ : xR} {ks : xKs} {u : Nat} (hu : u < 6) : Sp E yJ0_isLatin1_aae02 kJ0_isLatin1_aae02 0 0 0 [.float (UInt32.ofNat u)] σ ρ ks (Fn (some (.int (iI 1))) σ ρ ks) := by
  refine x_enter (own := RJ0) (L := [_]) (by decide +kernel) rfl (by exact Nat.le_of_ble_eq_true rfl) rfl (fun p e R s m args below meth c Z hZ hC hR hin => ?_)
  refine x_getC hC gJ_38 dJ0_isLatin1_aae02_0 ?_
  refine x_if_eq (tgt := 17) (pc := 3) hC (by omega) dJ0_isLatin1_aae02_3 (by decide) (fun h => by (exfalso; omega)) (fun _ => ?_)
  refine x_aloadK_n (pc := 6) hC dJ0_isLatin1_aae02_6 rfl ?_
  refine x_scod (pc := 7) hC gJ_15 hu dJ0_isLatin1_aae02_7 ?_
  refine x_if_ne (tgt := 17) (pc := 10) hC (by omega) dJ0_isLatin1_aae02_10 (by decide) (fun h => by (exfalso; omega)) (fun _ => ?_)
  refine x_iconst (pc := 13) hC dJ0_isLatin1_aae02_13 ?_
  refine x_goto (tgt := 18) (pc := 14) hC dJ0_isLatin1_aae02_14 (by decide) ?_
  refine x_zreturn hC hZ (by omega) dJ0_isLatin1_aae02_18 (by decide) (by decide) ?_
  exact ⟨rfl, rfl, rfl, rfl⟩
set_option maxHeartbeats 4000000 in
set_option maxRecDepth 100000 in
theorem s_length (E : xE) {σ : xM} {ρ : xR} {ks : xKs} {u : Nat} (hu : u < 6) : Sp E yJ0_length_8abf5 kJ0_length_8abf5 1 0 0 [.float (UInt32.ofNat u)] σ ρ ks (Fn (some (.int (iI (sLn u)))) σ ρ ks) := by
  refine x_enter (own := RJ0) (L := [_]) (by decide +kernel) rfl (by exact Nat.le_of_ble_eq_true rfl) rfl (fun p e R s m args below meth c Z hZ hC hR hin => ?_)
  have hl := sLn_in hu
  refine x_aloadK_n (pc := 0) hC dJ0_length_8abf5_0 rfl ?_
  refine x_sval (pc := 1) hC gJ_9 hu dJ0_length_8abf5_1 ?_
  refine x_slen (pc := 4) hC hu dJ0_length_8abf5_4 ?_
  refine x_aloadK_n (pc := 5) hC dJ0_length_8abf5_5 rfl ?_
  refine x_callK1 (As := []) (Bs := []) (pc := 6) hC (s_coder E hu) wJ0_335 pJ0_coder_7d493 hu rfl rfl (by exact Nat.le_of_ble_eq_true rfl) hR (by decide) (by decide) (by decide) rfl dJ0_length_8abf5_6 ?_
  refine x_ishr (pc := 9) hC dJ0_length_8abf5_9 ?_
  refine x_ireturn hC hZ dJ0_length_8abf5_10 (by decide) (by decide) ?_
  refine ⟨congrArg (fun z => some (Value.int (iI z))) ?_, rfl, rfl, rfl⟩
  rcases u with _|_|_|_|_|_|u <;> first | decide +kernel | omega
set_option maxHeartbeats 4000000 in
set_option maxRecDepth 100000 in
theorem s_checkIndex3 (E : xE) {σ : xM} {ρ : xR} {ks : xKs} {i n : Int} (hi : 0 ≤ i ∧ i < n) (hn : n < 2147483648) {u : UInt32} : Sp E yJ3_checkIndex_8e157 kJ3_checkIndex_8e157 0 0 0 [.int (iI i), .int (iI n), .float u] σ ρ ks (Fn (some (.int (iI i))) σ ρ ks) := by
  refine x_enter (own := RJ3) (L := [_, _, _]) (by decide +kernel) rfl (by exact Nat.le_of_ble_eq_true rfl) rfl (fun p e R s m args below meth c Z hZ hC hR hin => ?_)
  refine x_iload_n (pc := 0) hC dJ3_checkIndex_8e157_0 rfl ?_
  refine x_if_lt (tgt := 9) (pc := 1) hC (by omega) dJ3_checkIndex_8e157_1 (by decide) (fun h => by (exfalso; omega)) (fun _ => ?_)
  refine x_iload_n (pc := 4) hC dJ3_checkIndex_8e157_4 rfl ?_
  refine x_iload_n (pc := 5) hC dJ3_checkIndex_8e157_5 rfl ?_
  refine x_icmp_lt (tgt := 16) (pc := 6) hC (by omega) (by omega) dJ3_checkIndex_8e157_6 (by decide) (fun _ => ?_) (fun h => by (exfalso; omega))
  refine x_iload_n (pc := 16) hC dJ3_checkIndex_8e157_16 rfl ?_
  refine x_ireturn hC hZ dJ3_checkIndex_8e157_17 (by decide) (by decide) ?_
  exact ⟨rfl, rfl, rfl, rfl⟩
set_option maxHeartbeats 4000000 in
set_option maxRecDepth 100000 in
theorem s_checkIndex3n (E : xE) {σ : xM} {ρ : xR} {ks : xKs} {i n : Int} (hi : 0 ≤ i ∧ i < n) (hn : n < 2147483648) : Sp E yJ3_checkIndex_8e157 kJ3_checkIndex_8e157 0 0 0 [.int (iI i), .int (iI n), .null] σ ρ ks (Fn (some (.int (iI i))) σ ρ ks) := by
  refine x_enter (own := RJ3) (L := [_, _, _]) (by decide +kernel) rfl (by exact Nat.le_of_ble_eq_true rfl) rfl (fun p e R s m args below meth c Z hZ hC hR hin => ?_)
  refine x_iload_n (pc := 0) hC dJ3_checkIndex_8e157_0 rfl ?_
  refine x_if_lt (tgt := 9) (pc := 1) hC (by omega) dJ3_checkIndex_8e157_1 (by decide) (fun h => by (exfalso; omega)) (fun _ => ?_)
  refine x_iload_n (pc := 4) hC dJ3_checkIndex_8e157_4 rfl ?_
  refine x_iload_n (pc := 5) hC dJ3_checkIndex_8e157_5 rfl ?_
  refine x_icmp_lt (tgt := 16) (pc := 6) hC (by omega) (by omega) dJ3_checkIndex_8e157_6 (by decide) (fun _ => ?_) (fun h => by (exfalso; omega))
  refine x_iload_n (pc := 16) hC dJ3_checkIndex_8e157_16 rfl ?_
  refine x_ireturn hC hZ dJ3_checkIndex_8e157_17 (by decide) (by decide) ?_
  exact ⟨rfl, rfl, rfl, rfl⟩
set_option maxHeartbeats 4000000 in
set_option maxRecDepth 100000 in
theorem s_checkIndex0 (E : xE) {σ : xM} {ρ : xR} {ks : xKs} {i n : Int} (hi : 0 ≤ i ∧ i < n) (hn : n < 2147483648) : Sp E yJ0_checkIndex_df160 kJ0_checkIndex_df160 1 0 0 [.int (iI i), .int (iI n)] σ ρ ks (Fn none σ ρ ks) := by
  refine x_enter (own := RJ0) (L := [_, _]) (by decide +kernel) rfl (by exact Nat.le_of_ble_eq_true rfl) rfl (fun p e R s m args below meth c Z hZ hC hR hin => ?_)
  refine x_iload_n (pc := 0) hC dJ0_checkIndex_df160_0 rfl ?_
  refine x_iload_n (pc := 1) hC dJ0_checkIndex_df160_1 rfl ?_
  refine x_getF (pc := 2) hC gJ_1053 dJ0_checkIndex_df160_2 ?_ ?_
  · refine x_callS1 (As := [_, _, _]) (Bs := [_, _, _]) (pc := 5) hC (s_checkIndex3n E hi hn) wJ0_1059 pJ3_checkIndex_8e157 rfl rfl (by exact Nat.le_of_ble_eq_true rfl) hR (by decide) (by decide) (by decide) rfl dJ0_checkIndex_df160_5 ?_
    refine x_popI (pc := 8) hC dJ0_checkIndex_df160_8 ?_
    refine x_return hC hZ dJ0_checkIndex_df160_9 (by decide) (by decide) ?_
    exact ⟨rfl, rfl, rfl, rfl⟩
  · refine x_callS1 (As := [_, _, _]) (Bs := [_, _, _]) (pc := 5) hC (s_checkIndex3 E hi hn) wJ0_1059 pJ3_checkIndex_8e157 rfl rfl (by exact Nat.le_of_ble_eq_true rfl) hR (by decide) (by decide) (by decide) rfl dJ0_checkIndex_df160_5 ?_
    refine x_popI (pc := 8) hC dJ0_checkIndex_df160_8 ?_
    refine x_return hC hZ dJ0_checkIndex_df160_9 (by decide) (by decide) ?_
    exact ⟨rfl, rfl, rfl, rfl⟩
set_option maxHeartbeats 4000000 in
set_option maxRecDepth 100000 in
theorem s_charAt1 (E : xE) {σ : xM} {ρ : xR} {ks : xKs} {u : Nat} {k : Int} (hu : u < 6) (hk : 0 ≤ k ∧ k < sLn u) : Sp E yJ1_charAt_3b067 kJ1_charAt_3b067 2 0 0 [.float (UInt32.ofNat (64 + u)), .int (iI k)] σ ρ ks (Fn (some (.int (iI (sB u k)))) σ ρ ks) := by
  refine x_enter (own := RJ1) (L := [_, _]) (by decide +kernel) rfl (by exact Nat.le_of_ble_eq_true rfl) rfl (fun p e R s m args below meth c Z hZ hC hR hin => ?_)
  have hl := sLn_in hu
  obtain ⟨b1, b2, b3, b4⟩ := sB_k hu hk
  refine x_iload_n (pc := 0) hC dJ1_charAt_3b067_0 rfl ?_
  refine x_aloadK_n (pc := 1) hC dJ1_charAt_3b067_1 rfl ?_
  refine x_slen (pc := 2) hC hu dJ1_charAt_3b067_2 ?_
  refine x_callS0 (As := [_, _]) (Bs := [_, _]) (pc := 3) hC (s_checkIndex0 E hk (by omega)) wJ1_9 pJ0_checkIndex_df160 rfl rfl (by exact Nat.le_of_ble_eq_true rfl) hR (by decide) (by decide) (by decide) rfl dJ1_charAt_3b067_3 ?_
  refine x_aloadK_n (pc := 6) hC dJ1_charAt_3b067_6 rfl ?_
  refine x_iload_n (pc := 7) hC dJ1_charAt_3b067_7 rfl ?_
  refine x_sbyt (pc := 8) hC hu hk dJ1_charAt_3b067_8 ?_
  refine x_sipush (pc := 9) hC dJ1_charAt_3b067_9 (by decide +kernel) ?_
  refine x_iand (pc := 12) hC dJ1_charAt_3b067_12 ?_
  rw [b1]
  refine x_i2c (pc := 13) hC (by omega) dJ1_charAt_3b067_13 ?_
  refine x_nreturn hC hZ b4 dJ1_charAt_3b067_14 (by decide) (by decide) ?_
  exact ⟨rfl, rfl, rfl, rfl⟩
set_option maxHeartbeats 4000000 in
set_option maxRecDepth 100000 in
theorem s_charAt (E : xE) {σ : xM} {ρ : xR} {ks : xKs} {u : Nat} {k : Int} (hu : u < 6) (hk : 0 ≤ k ∧ k < sLn u) : Sp E yJ0_charAt_5068e kJ0_charAt_5068e 3 0 0 [.float (UInt32.ofNat u), .int (iI k)] σ ρ ks (Fn (some (.int (iI (sB u k)))) σ ρ ks) := by
  refine x_enter (own := RJ0) (L := [_, _]) (by decide +kernel) rfl (by exact Nat.le_of_ble_eq_true rfl) rfl (fun p e R s m args below meth c Z hZ hC hR hin => ?_)
  obtain ⟨b1, b2, b3, b4⟩ := sB_k hu hk
  refine x_aloadK_n (pc := 0) hC dJ0_charAt_5068e_0 rfl ?_
  refine x_callK1 (As := []) (Bs := []) (pc := 1) hC (s_isLatin1 E hu) wJ0_492 pJ0_isLatin1_aae02 hu rfl rfl (by exact Nat.le_of_ble_eq_true rfl) hR (by decide) (by decide) (by decide) rfl dJ0_charAt_5068e_1 ?_
  refine x_if_eq (tgt := 16) (pc := 4) hC (by omega) dJ0_charAt_5068e_4 (by decide) (fun h => by (exfalso; omega)) (fun _ => ?_)
  refine x_aloadK_n (pc := 7) hC dJ0_charAt_5068e_7 rfl ?_
  refine x_sval (pc := 8) hC gJ_9 hu dJ0_charAt_5068e_8 ?_
  refine x_iload_n (pc := 11) hC dJ0_charAt_5068e_11 rfl ?_
  refine x_callS1 (As := [_, _]) (Bs := [_, _]) (pc := 12) hC (s_charAt1 E hu hk) wJ0_495 pJ1_charAt_3b067 rfl rfl (by exact Nat.le_of_ble_eq_true rfl) hR (by decide) (by decide) (by decide) rfl dJ0_charAt_5068e_12 ?_
  refine x_nreturn hC hZ b4 dJ0_charAt_5068e_15 (by decide) (by decide) ?_
  exact ⟨rfl, rfl, rfl, rfl⟩
