/-! longs, switches, new cells, casts, the JDK's copies and extremes -/
abbrev rgL (z : Int) : Prop := -9223372036854775808 ≤ z ∧ z < 9223372036854775808
theorem lL_toInt {z : Int} (h : rgL z) : (lL z).toInt = z := by
  unfold lL
  rw [Int64.toInt_ofInt, show (Int64.size : Nat) = 18446744073709551616 from rfl]
  exact Int.bmod_eq_of_le (by omega) (by omega)
theorem lL_add (a b : Int) : lL a + lL b = lL (a + b) := by simp [lL, Int64.ofInt_add]
theorem lL_eq {a b : Int} (ha : rgL a) (hb : rgL b) : lL a = lL b ↔ a = b := by
  constructor
  · intro h
    have := congrArg Int64.toInt h
    rwa [lL_toInt ha, lL_toInt hb] at this
  · intro h; rw [h]
theorem lL_lt {a b : Int} (ha : rgL a) (hb : rgL b) : lL a < lL b ↔ a < b := by rw [Int64.lt_iff_toInt_lt, lL_toInt ha, lL_toInt hb]
theorem lL_0 : lL 0 = 0 := by decide +kernel
theorem lL_div {a b : Int} (ha : 0 ≤ a) (ha2 : a < 2147483648) (hb : 0 < b) (hb2 : b < 2147483648) : lL a / lL b = lL (a / b) := by
  have h1 : 0 ≤ a / b := Int.ediv_nonneg ha (by omega)
  have h2 : a / b ≤ a := Int.ediv_le_self _ ha
  rw [← Int64.toInt_inj, Int64.toInt_div, lL_toInt ⟨by omega, by omega⟩, lL_toInt ⟨by omega, by omega⟩, lL_toInt ⟨by omega, by omega⟩, Int.tdiv_eq_ediv_of_nonneg ha]
  exact Int.bmod_eq_of_le (by omega) (by omega)
theorem lL_rem {a b : Int} (ha : 0 ≤ a) (ha2 : a < 2147483648) (hb : 0 < b) (hb2 : b < 2147483648) : lL a - lL a / lL b * lL b = lL (a % b) := by
  rw [lL_div ha ha2 hb hb2]
  have h := Int.emod_add_mul_ediv a b
  rw [Int.mul_comm] at h
  show Int64.ofInt a - Int64.ofInt (a / b) * Int64.ofInt b = Int64.ofInt (a % b)
  rw [← Int64.ofInt_mul, ← Int64.ofInt_sub]
  congr 1
  omega
theorem lL_ne0 {b : Int} (h : 0 < b) (h2 : b < 2147483648) : ¬ lL b = 0 := by
  intro q
  rw [← lL_0, lL_eq ⟨by omega, by omega⟩ ⟨by decide, by decide⟩] at q
  omega
theorem iI_long {z : Int} (h : rg z) : (iI z).toInt64 = lL z := by
  rw [← Int64.toInt_inj, Int32.toInt_toInt64, iI_toInt h, lL_toInt ⟨by omega, by omega⟩]
def cmpL (a b : Int) : Int := if b < a then 1 else if a = b then 0 else -1
theorem lg_cmpL {a b : Int} (ha : rgL a) (hb : rgL b) : lg_cmp (lL a) (lL b) = iI (cmpL a b) := by
  unfold lg_cmp cmpL
  by_cases h1 : b < a
  · simp only [(lL_lt hb ha).mpr h1, h1, if_true]; decide +kernel
  · have h1' : ¬ lL b < lL a := fun q => h1 ((lL_lt hb ha).mp q)
    by_cases h2 : a = b
    · subst h2; simp only [h1', if_false, if_true, h1]; decide +kernel
    · have h2' : ¬ lL a = lL b := fun q => h2 ((lL_eq ha hb).mp q)
      simp only [h1', h2', h1, h2, if_false]; decide +kernel
theorem xL.store2 {E : xE} {ls : Array Slot} {L : List (Option Value)} {i : Nat} {v : Value} (hi : i + 1 < L.length) (hok : xOk L i = true) {l' : List (Nat × Value)} (hl' : (i, rn E v) :: (xPairs E L).filter (fun q => !(q.1 == i) && (!(q.1 == i + 1) && !(q.1 + 1 == i && q.2.category == 2))) = l') (h : lv_has ls L.length l') : xL E ls ((L.set i (some v)).set (i + 1) none) := by
  subst hl'
  refine ⟨by rw [List.length_set, List.length_set]; exact h.1, h.2.1, fun j w hj => ?_⟩
  rw [List.getElem?_set] at hj
  by_cases hj1 : i + 1 = j
  · subst hj1
    rw [if_pos rfl] at hj
    split at hj <;> cases hj
  · rw [if_neg hj1, List.getElem?_set] at hj
    by_cases hji : i = j
    · subst hji
      rw [if_pos rfl, if_pos (by omega)] at hj
      cases hj
      exact h.2.2 (i, rn E v) List.mem_cons_self
    · rw [if_neg hji] at hj
      refine h.2.2 (j, rn E w) (List.mem_cons_of_mem _ (List.mem_filter.mpr ⟨xPairs_mem.mpr ⟨w, hj, rfl⟩, ?_⟩))
      have h1 : (j == i) = false := by simpa using fun q => hji q.symm
      have h2 : (j == i + 1) = false := by simpa using fun q => hj1 q.symm
      show (!(j == i) && (!(j == i + 1) && !(j + 1 == i && (rn E w).category == 2))) = true
      rw [h1, h2, rn_cat]
      by_cases h3 : j + 1 = i
      · subst h3
        rw [xOk, hj] at hok
        have h4 : w.category = 1 := by simpa using hok
        simp [h4]
      · have h4 : (j + 1 == i) = false := by simpa using h3
        simp [h4]
section XMORE
variable {E : xE} {p : Program} {e : Env} {R : Room} {s : State} {m : MethodId} {args : Array Value} {below : List Frame} {meth : Method} {c : Code} {Z : State → Prop} {kc ns : Nat} {σ : xM} {ρ : xR} {ks : xKs} {pc : Nat} {L : List (Option Value)} {st : List Value} {cc : ByteArray} {own : String} {ret : Option FieldType} {nL : Nat}
theorem x_ladd (C : XC E p R s m args meth c cc own ret nL) {a b : Int} (hd : decode cc pc = .ok (.ladd, 1)) (k : X E p e R s m args below meth c Z kc ns σ ρ ks (pc + 1) L (.long (lL (a + b)) :: st)) : X E p e R s m args below meth c Z kc ns σ ρ ks pc L (.long (lL b) :: .long (lL a) :: st) :=
  fun H locs ls h1 h2 h3 => lv_ladd C.1 C.2.1 hd (by rw [lL_add]; exact k H locs ls h1 h2 h3)
theorem x_ldiv (C : XC E p R s m args meth c cc own ret nL) {a b : Int} (h : 0 ≤ a ∧ a < 2147483648 ∧ 0 < b ∧ b < 2147483648) (hd : decode cc pc = .ok (.ldiv, 1)) (k : X E p e R s m args below meth c Z kc ns σ ρ ks (pc + 1) L (.long (lL (a / b)) :: st)) : X E p e R s m args below meth c Z kc ns σ ρ ks pc L (.long (lL b) :: .long (lL a) :: st) :=
  fun H locs ls h1 h2 h3 => lv_ldiv C.1 C.2.1 hd (lL_ne0 h.2.2.1 h.2.2.2) (by rw [lL_div h.1 h.2.1 h.2.2.1 h.2.2.2]; exact k H locs ls h1 h2 h3)
theorem x_lrem (C : XC E p R s m args meth c cc own ret nL) {a b : Int} (h : 0 ≤ a ∧ a < 2147483648 ∧ 0 < b ∧ b < 2147483648) (hd : decode cc pc = .ok (.lrem, 1)) (k : X E p e R s m args below meth c Z kc ns σ ρ ks (pc + 1) L (.long (lL (a % b)) :: st)) : X E p e R s m args below meth c Z kc ns σ ρ ks pc L (.long (lL b) :: .long (lL a) :: st) :=
  fun H locs ls h1 h2 h3 => lv_lrem C.1 C.2.1 hd (lL_ne0 h.2.2.1 h.2.2.2) (by rw [lL_rem h.1 h.2.1 h.2.2.1 h.2.2.2]; exact k H locs ls h1 h2 h3)
theorem x_lcmp (C : XC E p R s m args meth c cc own ret nL) {a b : Int} (ha : rgL a) (hb : rgL b) (hd : decode cc pc = .ok (.lcmp, 1)) (k : X E p e R s m args below meth c Z kc ns σ ρ ks (pc + 1) L (.int (iI (cmpL a b)) :: st)) : X E p e R s m args below meth c Z kc ns σ ρ ks pc L (.long (lL b) :: .long (lL a) :: st) :=
  fun H locs ls h1 h2 h3 => W.lcmp C.1 C.2.1 hd (by rw [lg_cmpL ha hb]; exact k H locs ls h1 h2 h3)
theorem x_i2l (C : XC E p R s m args meth c cc own ret nL) {a : Int} (ha : rg a) (hd : decode cc pc = .ok (.i2l, 1)) (k : X E p e R s m args below meth c Z kc ns σ ρ ks (pc + 1) L (.long (lL a) :: st)) : X E p e R s m args below meth c Z kc ns σ ρ ks pc L (.int (iI a) :: st) :=
  fun H locs ls h1 h2 h3 => lv_i2l C.1 C.2.1 hd (iI_long ha) (k H locs ls h1 h2 h3)
theorem x_i2c (C : XC E p R s m args meth c cc own ret nL) {a : Int} (ha : 0 ≤ a ∧ a < 65536) (hd : decode cc pc = .ok (.i2c, 1)) (k : X E p e R s m args below meth c Z kc ns σ ρ ks (pc + 1) L (.int (iI a) :: st)) : X E p e R s m args below meth c Z kc ns σ ρ ks pc L (.int (iI a) :: st) :=
  fun H locs ls h1 h2 h3 => lv_i2c C.1 C.2.1 hd (lg_i2c_word (by rw [iI_toInt ⟨by omega, by omega⟩]; exact ha.1) (by rw [iI_toInt ⟨by omega, by omega⟩]; exact ha.2)) (k H locs ls h1 h2 h3)
theorem x_lstore (C : XC E p R s m args meth c cc own ret nL) {i : Nat} {v : Int64} {L' : List (Option Value)} (hd : decode cc pc = .ok (.lstore i, 2)) (hi : Nat.ble (i + 2) L.length = true) (ho : xOkS L i = true) (hL : (L.set i (some (.long v))).set (i + 1) none = L') (k : X E p e R s m args below meth c Z kc ns σ ρ ks (pc + 2) L' st) : X E p e R s m args below meth c Z kc ns σ ρ ks pc L (.long v :: st) :=
  fun H locs ls h1 h2 h3 => lv_lstore C.1 C.2.1 hd h3.has (Nat.le_of_ble_eq_true hi) rfl (fun ls' h4 => k H locs ls' h1 h2 (hL ▸ xL.store2 (Nat.le_of_ble_eq_true hi) (xOkS_ok ho).2 rfl h4))
theorem x_lstore_n (C : XC E p R s m args meth c cc own ret nL) {i : Fin 4} {v : Int64} {L' : List (Option Value)} (hd : decode cc pc = .ok (.lstore_n i, 1)) (hi : Nat.ble (i.1 + 2) L.length = true) (ho : xOkS L i.1 = true) (hL : (L.set i.1 (some (.long v))).set (i.1 + 1) none = L') (k : X E p e R s m args below meth c Z kc ns σ ρ ks (pc + 1) L' st) : X E p e R s m args below meth c Z kc ns σ ρ ks pc L (.long v :: st) :=
  fun H locs ls h1 h2 h3 => lv_lstore_n C.1 C.2.1 hd rfl h3.has (Nat.le_of_ble_eq_true hi) rfl (fun ls' h4 => k H locs ls' h1 h2 (hL ▸ xL.store2 (Nat.le_of_ble_eq_true hi) (xOkS_ok ho).2 rfl h4))
theorem x_tabIn (C : XC E p R s m args meth c cc own ret nL) {dflt lo hi a : Int} {offs : Array Int} {len : Nat} (ha : rg a) (hd : decode cc pc = .ok (.tableswitch dflt lo hi offs, len)) (hlo : lo ≤ a) (hhi : a ≤ hi) (n : Nat) (hn : a - lo = n) {off : Int} (ho : offs[n]? = some off) {tgt : Nat} (ht : (pc : Int) + off = (tgt : Int)) (k : X E p e R s m args below meth c Z kc ns σ ρ ks tgt L st) : X E p e R s m args below meth c Z kc ns σ ρ ks pc L (.int (iI a) :: st) :=
  fun H locs ls h1 h2 h3 => lv_tableIn C.1 C.2.1 hd (by rw [iI_toInt ha]; omega) (by rw [iI_toInt ha]; omega) (off := off) (by rw [iI_toInt ha, hn]; exact ho) ht (k H locs ls h1 h2 h3)
theorem x_tabOut (C : XC E p R s m args meth c cc own ret nL) {dflt lo hi a : Int} {offs : Array Int} {len : Nat} (ha : rg a) (hd : decode cc pc = .ok (.tableswitch dflt lo hi offs, len)) (h : a < lo ∨ hi < a) {tgt : Nat} (ht : (pc : Int) + dflt = (tgt : Int)) (k : X E p e R s m args below meth c Z kc ns σ ρ ks tgt L st) : X E p e R s m args below meth c Z kc ns σ ρ ks pc L (.int (iI a) :: st) :=
  fun H locs ls h1 h2 h3 => lv_tableOut C.1 C.2.1 hd (by rw [iI_toInt ha]; exact h) ht (k H locs ls h1 h2 h3)
theorem x_look (C : XC E p R s m args meth c cc own ret nL) {dflt a : Int} {ps : Array (Int × Int)} {len : Nat} (ha : rg a) (hd : decode cc pc = .ok (.lookupswitch dflt ps, len)) (hp : (ps.toList.zip (ps.toList.drop 1)).all (fun (a, next) => a.1 < next.1) = true) {off : Int} (ho : Op.lookupswitch.offset ps.toList dflt a = off) {tgt : Nat} (ht : (pc : Int) + off = (tgt : Int)) (k : X E p e R s m args below meth c Z kc ns σ ρ ks tgt L st) : X E p e R s m args below meth c Z kc ns σ ρ ks pc L (.int (iI a) :: st) :=
  fun H locs ls h1 h2 h3 => lv_lookup C.1 C.2.1 hd hp (by rw [iI_toInt ha]; exact ho) ht (k H locs ls h1 h2 h3)
theorem x_objInit (C : XC E p R s m args meth c cc own ret nL) {i q D KC KS : Nat} (hR : xRm R D KC KS) (hD : 1 ≤ D) (hw : Cond.methodLink own i Lib.objectInit ∈ TW ∧ Cond.instanceMethod Lib.objectInit ∈ TW ∧ Cond.code Lib.objectInit ⟨#[0xb1]⟩ 1 none ∈ TW) (hcat : (st.map fun v => v.category).sum ≤ 8) (hL : L.length = nL) (hd : decode cc pc = .ok (.invokespecial i, 3)) (k : X E p e R s m args below meth c Z kc ns σ ρ ks (pc + 3) L st) : X E p e R s m args below meth c Z kc ns σ ρ ks pc L (.ref q :: st) :=
  fun H locs ls h1 h2 h3 => W.objInit (rest := st.map (rn E)) C.1 C.2.1 C.2.2.2.1 (C.2.2.2.2.1 _ hw.1) (C.2.2.2.2.1 _ hw.2.1) (C.2.2.2.2.1 _ hw.2.2) rfl (by rw [C.2.2.1]; exact h3.1.trans hL) rfl hd (by rw [hR.1]; exact hD) (by have := x_cat (E := E) hcat; rw [hR.2.1]; show 2 * 0 + _ + 12 ≤ _; omega) (k H locs ls h1 h2 h3)
/-- a new object of class ci, its fields at their defaults -/
theorem xH.push {E : xE} {σ : xM} {ρ : xR} {ks : xKs} {H H1 : Heap} {kd : Nat × Nat} (h : xH E σ ρ ks H) (hz : H1.size = H.size + 1) (ho : ∀ q : Nat, q < H.size → H1[q]? = H[q]?) (hn : xAt E H1 ks.length kd (σ ks.length) (ρ ks.length)) : xH E σ ρ (ks ++ [kd]) H1 := by
  refine ⟨by rw [hz, h.1, List.length_append]; rfl, fun j kj hj => ?_⟩
  by_cases hjl : j < ks.length
  · rw [List.getElem?_append_left hjl] at hj
    exact (h.2 j kj hj).kept (ho _ (by rw [h.1]; omega))
  · rw [List.getElem?_append_right (by omega)] at hj
    have h0 : j - ks.length < 1 := (List.getElem?_eq_some_iff.mp hj).1
    have h1 : j = ks.length := by omega
    subst h1
    rw [Nat.sub_self] at hj
    cases hj
    exact hn
/-- memory that differs only beyond the last cell pictures the same -/
theorem xH.beyond {E : xE} {σ σ' : xM} {ρ ρ' : xR} {ks : xKs} {H : Heap} (h : xH E σ ρ ks H) (hσ : ∀ q : Nat, q < ks.length → σ' q = σ q) (hρ : ∀ q : Nat, q < ks.length → ρ' q = ρ q) : xH E σ' ρ' ks H := by
  refine ⟨h.1, fun j kj hj => ?_⟩
  have hl := (List.getElem?_eq_some_iff.mp hj).1
  rw [hσ j hl, hρ j hl]
  exact h.2 j kj hj
def zr (σ : xM) (p : Nat) : xM := fun q j => if q = p then 0 else σ q j
def nr (ρ : xR) (p : Nat) : xR := fun q j => if q = p then none else ρ q j
theorem xdef (E : xE) : ∀ ci, ci < 13 → ∀ k, k < xN ci → defaultValue (xTy ci k) = xfv E ci k 0 none := by
  have h : ∀ ci, ci < 13 → ∀ k, k < xN ci → defaultValue (xTy ci k) = (if xIsR (xTy ci k) then .null else .int 0) := by decide +kernel
  intro ci hci k hk
  rw [h ci hci k hk]
  unfold xfv
  rw [iI_0]; rfl
theorem x_new (C : XC E p R s m args meth c cc own ret nL) {i ci D KC KS : Nat} (hci : ci < 13) (hin : ∀ w ∈ u_ws (xC ci) (xT ci) (xN ci), w ∈ TW) (hw : Cond.classLink own i (xC ci) ∈ TW ∧ Cond.instantiable (xC ci) (xN ci) ∈ TW ∧ Cond.initialized (xC ci) ∈ TW) (hR : xRm R D KC KS) (hf : kc + 1 ≤ KC ∧ ns + xN ci ≤ KS) (hd : decode cc pc = .ok (.new i, 3)) (k : X E p e R s m args below meth c Z (kc + 1) (ns + xN ci) (zr σ ks.length) (nr ρ ks.length) (ks ++ [(0, ci)]) (pc + 3) L (.ref ks.length :: st)) : X E p e R s m args below meth c Z kc ns σ ρ ks pc L st := by
  intro H locs ls h1 h2 h3
  have hKn := C.2.2.2.2.2.1.1 ci _ (xCl hci)
  refine W.newcK C.1 C.2.1 C.2.2.2.1 (C.2.2.2.2.1 _ hw.1) (C.2.2.2.2.1 _ hw.2.1) (C.2.2.2.2.1 _ hw.2.2) rfl hd (by rw [hR.2.2.1]; exact hf.1) (by rw [hR.2.2.2]; exact hf.2) hKn.2.1 h1.1 fun H1 kC hkC e1 z1 o1 => ?_
  refine k H1 locs ls ((h1.beyond (σ' := zr σ ks.length) (ρ' := nr ρ ks.length) (fun q hq => ?_) (fun q hq => ?_)).push (by rw [z1, h1.1]) (fun q hq => o1 q (by rw [h1.1] at hq; exact hq)) ⟨hci, ?_⟩) ⟨Nat.le_trans h2.1 (by rw [h1.1]; omega), fun x a1 a2 => (o1 x (by have := h2.1; rw [h1.1] at this; omega)).trans (h2.2.1 x a1 a2), h2.2.2⟩ h3
  · funext j; simp [zr, Nat.ne_of_lt hq]
  · funext j; simp [nr, Nat.ne_of_lt hq]
  · refine (u_born (xTy ci) C.2.2.2.2.1 hin hKn hkC e1 (xTy_ok ci hci)).to (fun k hk => ?_)
    rw [xdef E ci hci k hk]
    simp [zr, nr]
theorem x_cyI {cA : ClassId} {t : FieldType} (h : s.vm.findClass ("[" ++ t.toString) = some cA) {k : Nat} (C : XC E p R s m args meth c cc own ret nL) (hk : (xTys E)[k]? = some (E.2.2.1 k, t)) (ht : ∀ n, t ≠ .object n) : cA = E.2.2.1 k := by
  have h2 := (C.2.2.2.2.2.1.2 k _ hk).2
  cases t with
  | object n => exact absurd rfl (ht n)
  | _ => exact Option.some.inj (h.symm.trans h2)
theorem x_newI (C : XC E p R s m args meth c cc own ret nL) {n : Nat} {K : Int} (hK : (n : Int) = K) {D KC KS : Nat} (hw : Cond.arrayClass .int ∈ TW) (hn : n ≤ 1000) (hR : xRm R D KC KS) (hf : kc + 1 ≤ KC ∧ ns + n ≤ KS) (hd : decode cc pc = .ok (.newarray .int, 2)) (k : X E p e R s m args below meth c Z (kc + 1) (ns + n) (zr σ ks.length) (nr ρ ks.length) (ks ++ [(1, n)]) (pc + 2) L (.ref ks.length :: st)) : X E p e R s m args below meth c Z kc ns σ ρ ks pc L (.int (iI K) :: st) := by
  subst hK
  intro H locs ls h1 h2 h3
  have hcl := iI_clamp (z := (n : Int)) (by omega) (by omega)
  refine va_newaK (atype := .int) (rest := st.map (rn E)) (N := n) C.1 C.2.1 (C.2.2.2.2.1 _ hw) rfl hd rfl (fun q => iI_in (z := (n : Int)) (n := n + 1) (by omega) (by omega) (by omega) (Or.inl q)) (by rw [hcl]; omega) (by show n * 4 ≤ _; omega) (by rw [hR.2.2.1]; exact hf.1) (by rw [hR.2.2.2]; exact hf.2) h1.1 fun H1 cA e1 z1 o1 hAr hNm => ?_
  have hcA : cA = E.2.2.1 0 := x_cyI (t := .int) (k := 0) hNm C rfl (fun n h => by cases h)
  subst hcA
  refine k H1 locs ls ((h1.beyond (σ' := zr σ ks.length) (ρ' := nr ρ ks.length) (fun q hq => ?_) (fun q hq => ?_)).push (by rw [z1, h1.1]) (fun q hq => o1 q (by rw [h1.1] at hq; exact hq)) ⟨?_, by omega⟩) ⟨Nat.le_trans h2.1 (by rw [h1.1]; omega), fun x a1 a2 => (o1 x (by have := h2.1; rw [h1.1] at this; omega)).trans (h2.2.1 x a1 a2), h2.2.2⟩ h3
  · funext j; simp [zr, Nat.ne_of_lt hq]
  · funext j; simp [nr, Nat.ne_of_lt hq]
  · rw [e1]
    congr 2
    funext j
    simp [zr, iI_0]; rfl
theorem x_newZ (C : XC E p R s m args meth c cc own ret nL) {n : Nat} {K : Int} (hK : (n : Int) = K) {D KC KS : Nat} (hw : Cond.arrayClass .boolean ∈ TW) (hn : n ≤ 1000) (hR : xRm R D KC KS) (hf : kc + 1 ≤ KC ∧ ns + n ≤ KS) (hd : decode cc pc = .ok (.newarray .boolean, 2)) (k : X E p e R s m args below meth c Z (kc + 1) (ns + n) (zr σ ks.length) (nr ρ ks.length) (ks ++ [(2, n)]) (pc + 2) L (.ref ks.length :: st)) : X E p e R s m args below meth c Z kc ns σ ρ ks pc L (.int (iI K) :: st) := by
  subst hK
  intro H locs ls h1 h2 h3
  have hcl := iI_clamp (z := (n : Int)) (by omega) (by omega)
  refine va_newaK (atype := .boolean) (rest := st.map (rn E)) (N := n) C.1 C.2.1 (C.2.2.2.2.1 _ hw) rfl hd rfl (fun q => iI_in (z := (n : Int)) (n := n + 1) (by omega) (by omega) (by omega) (Or.inl q)) (by rw [hcl]; omega) (by show n * 1 ≤ _; omega) (by rw [hR.2.2.1]; exact hf.1) (by rw [hR.2.2.2]; exact hf.2) h1.1 fun H1 cA e1 z1 o1 hAr hNm => ?_
  have hcA : cA = E.2.2.1 1 := x_cyI (t := .boolean) (k := 1) hNm C rfl (fun n h => by cases h)
  subst hcA
  refine k H1 locs ls ((h1.beyond (σ' := zr σ ks.length) (ρ' := nr ρ ks.length) (fun q hq => ?_) (fun q hq => ?_)).push (by rw [z1, h1.1]) (fun q hq => o1 q (by rw [h1.1] at hq; exact hq)) ⟨?_, by omega⟩) ⟨Nat.le_trans h2.1 (by rw [h1.1]; omega), fun x a1 a2 => (o1 x (by have := h2.1; rw [h1.1] at this; omega)).trans (h2.2.1 x a1 a2), h2.2.2⟩ h3
  · funext j; simp [zr, Nat.ne_of_lt hq]
  · funext j; simp [nr, Nat.ne_of_lt hq]
  · rw [e1]
    congr 2
    funext j
    simp [zr, iI_0]; rfl
theorem x_newF (C : XC E p R s m args meth c cc own ret nL) {n i : Nat} {K : Int} (hK : (n : Int) = K) {D KC KS : Nat} (hw : Cond.classLink own i RX0 ∈ TW) (hn : n ≤ 1000) (hR : xRm R D KC KS) (hf : kc + 1 ≤ KC ∧ ns + n ≤ KS) (hd : decode cc pc = .ok (.anewarray i, 3)) (k : X E p e R s m args below meth c Z (kc + 1) (ns + n) (zr σ ks.length) (nr ρ ks.length) (ks ++ [(3, n)]) (pc + 3) L (.ref ks.length :: st)) : X E p e R s m args below meth c Z kc ns σ ρ ks pc L (.int (iI K) :: st) := by
  subst hK
  intro H locs ls h1 h2 h3
  have hcl := iI_clamp (z := (n : Int)) (by omega) (by omega)
  refine W.anew (C := RX0) (rest := st.map (rn E)) C.1 C.2.1 C.2.2.2.1 (C.2.2.2.2.1 _ hw) (va_AO.use C.2.2.2.2.2.2.1.2.2.2.1) rfl hd rfl (fun q => iI_in (z := (n : Int)) (n := n + 1) (by omega) (by omega) (by omega) (Or.inl q)) (by rw [hcl]; omega) (by rw [hR.2.2.1]; exact hf.1) (by rw [hcl, hR.2.2.2]; exact hf.2) fun cA kA comp f1 f2 f3 f4 => ?_
  have hcA : cA = E.2.2.1 2 := by
    obtain ⟨kA', comp', k1, k2, k3, k4⟩ := (C.2.2.2.2.2.1.2 2 _ rfl).2
    exact Option.some.inj (f1.symm.trans k4)
  subst hcA
  rw [hcl, show (n : Int).toNat = n by omega, h1.1]
  generalize hH1 : H.push ({ cls := E.2.2.1 2, slots := Array.replicate n .null, vm := .none } : Cell) = H1
  have z1 : H1.size = H.size + 1 := by rw [← hH1, Array.size_push]
  have e1 : H1[H.size]? = some (arrV (E.2.2.1 2) n (fun _ => .null)) := by rw [← hH1, Array.getElem?_push_size, ← arrV_new]
  have o1 : ∀ q : Nat, q < H.size → H1[q]? = H[q]? := fun q hq => by rw [← hH1, Array.getElem?_push, if_neg (Nat.ne_of_lt hq)]
  refine k H1 locs ls ((h1.beyond (σ' := zr σ ks.length) (ρ' := nr ρ ks.length) (fun q hq => ?_) (fun q hq => ?_)).push z1 o1 ⟨?_, by omega⟩) ⟨Nat.le_trans h2.1 (by rw [z1]; omega), fun x a1 a2 => (o1 x (Nat.lt_of_lt_of_le a1 h2.1)).trans (h2.2.1 x a1 a2), h2.2.2⟩ h3
  · funext j; simp [zr, Nat.ne_of_lt hq]
  · funext j; simp [nr, Nat.ne_of_lt hq]
  · rw [← h1.1, e1]
    congr 2
    funext j
    simp [nr]; rfl
theorem x_instY (C : XC E p R s m args meth c cc own ret nL) {i q : Nat} (hw : Cond.classLink own i RX7 ∈ TW) (hq : ks[q]? = some (0, 7)) (hd : decode cc pc = .ok (.instanceof i, 3)) (k : X E p e R s m args below meth c Z kc ns σ ρ ks (pc + 3) L (.int (iI 1) :: st)) : X E p e R s m args below meth c Z kc ns σ ρ ks pc L (.ref q :: st) := by
  intro H locs ls h1 h2 h3
  obtain ⟨hci, cell, g1, g2, g3, -⟩ := h1.obj hq
  have hcls := (C.2.2.2.2.2.1.1 7 _ (xCl hci)).2
  exact va_instS C.1 C.2.1 C.2.2.2.1 (C.2.2.2.2.1 _ hw) hcls ⟨cell, g1, by rw [g3]; rfl, by rw [g2]; exact hcls.1⟩ hd (k H locs ls h1 h2 h3)
theorem x_instN (C : XC E p R s m args meth c cc own ret nL) {i q ci : Nat} (hw : Cond.classLink own i RX7 ∈ TW) (hq : ks[q]? = some (0, ci)) (hci7 : ci ∈ xNot) (hd : decode cc pc = .ok (.instanceof i, 3)) (k : X E p e R s m args below meth c Z kc ns σ ρ ks (pc + 3) L (.int (iI 0) :: st)) : X E p e R s m args below meth c Z kc ns σ ρ ks pc L (.ref q :: st) := by
  intro H locs ls h1 h2 h3
  obtain ⟨hci, cell, g1, g2, g3, -⟩ := h1.obj hq
  have hcls := (C.2.2.2.2.2.1.1 ci _ (xCl hci)).2
  exact va_instNo C.1 C.2.1 C.2.2.2.1 (C.2.2.2.2.1 _ hw) (C.2.2.2.2.2.2.1.2.2.2.2.2.1 ci hci7) ⟨cell, g1, by rw [g3]; rfl, by rw [g2]; exact hcls.1⟩ hd (by have := k H locs ls h1 h2 h3; rw [iI_0] at this; exact this)
theorem x_cast (C : XC E p R s m args meth c cc own ret nL) {i q : Nat} (hw : Cond.classLink own i RX7 ∈ TW) (hq : ks[q]? = some (0, 7)) (hd : decode cc pc = .ok (.checkcast i, 3)) (k : X E p e R s m args below meth c Z kc ns σ ρ ks (pc + 3) L (.ref q :: st)) : X E p e R s m args below meth c Z kc ns σ ρ ks pc L (.ref q :: st) := by
  intro H locs ls h1 h2 h3
  obtain ⟨hci, cell, g1, g2, g3, -⟩ := h1.obj hq
  have hcls := (C.2.2.2.2.2.1.1 7 _ (xCl hci)).2
  exact va_castS C.1 C.2.1 C.2.2.2.1 (C.2.2.2.2.1 _ hw) hcls ⟨cell, g1, by rw [g3]; rfl, by rw [g2]; exact hcls.1⟩ hd (k H locs ls h1 h2 h3)
/-- a fan's class may stand in a row of fans -/
theorem x_sub (C : XC E p R s m args meth c cc own ret nL) {ci : Nat} (h : ci = 0 ∨ ci ∈ xSub) : ∀ cI : ClassId, s.vm.findClass RX0 = some cI → s.vm.assignable (E.2.1.1 ci) cI = true := by
  intro cI hcI
  rcases h with rfl | h
  · have hcls := (C.2.2.2.2.2.1.1 0 _ (xCl (by omega))).2
    cases hcI.symm.trans hcls.1
    exact va_assign hcls
  · obtain ⟨c0, t0, f1, f2, f3⟩ := Cond.castable_spec (va_Nw.use (A := args) rfl (C.2.2.2.2.2.2.1.2.2.2.2.1 ci h))
    have hci : ci < 13 := (by decide : ∀ c ∈ xSub, c < 13) ci h
    have hcls := (C.2.2.2.2.2.1.1 ci _ (xCl hci)).2
    cases f2.symm.trans hcI
    cases f1.symm.trans hcls.1
    exact f3
def mxI (a b : Int) : Int := if a < b then b else a
def mnI (a b : Int) : Int := if b < a then b else a
theorem x_max (C : XC E p R s m args meth c cc own ret nL) {i D KC KS : Nat} {a b : Int} (hw : Cond.methodLink own i Lib.Math.max.name ∈ TW ∧ Cond.static Lib.Math.max.name ∈ TW ∧ Cond.initialized "java/lang/Math" ∈ TW ∧ Cond.code Lib.Math.max.name Lib.Math.max.code 2 (some .int) ∈ TW) (hR : xRm R D KC KS) (hD : 1 ≤ D) (hf : kc ≤ KC ∧ ns ≤ KS) (hL : L.length = nL) (hcat : (st.map fun v => v.category).sum ≤ 8) (ha : rg a) (hb : rg b) (hd : decode cc pc = .ok (.invokestatic i, 3)) (k : X E p e R s m args below meth c Z kc ns σ ρ ks (pc + 3) L (.int (iI (mxI a b)) :: st)) : X E p e R s m args below meth c Z kc ns σ ρ ks pc L (.int (iI b) :: .int (iI a) :: st) :=
  fun H locs ls h1 h2 h3 => va_mmax (rest := st.map (rn E)) C.1 C.2.1 (by rw [C.2.2.1]; exact (h3.1.trans hL).symm) C.2.2.2.1 (C.2.2.2.2.1 _ hw.1) (C.2.2.2.2.1 _ hw.2.1) (C.2.2.2.2.1 _ hw.2.2.1) (C.2.2.2.2.1 _ hw.2.2.2) (by rw [hR.1]; exact hD) (by have := x_cat (E := E) hcat; rw [hR.2.1]; omega) (by rw [hR.2.2.1]; exact hf.1) (by rw [hR.2.2.2]; exact hf.2) hd (by
    have h0 := k H locs ls h1 h2 h3
    have h9 : (if iI a < iI b then iI b else iI a) = iI (mxI a b) := by
      unfold mxI
      by_cases h : a < b
      · rw [if_pos h, if_pos ((iI_lt ha hb).mpr h)]
      · rw [if_neg h, if_neg (fun q => h ((iI_lt ha hb).mp q))]
    rw [h9]; exact h0)
theorem x_min (C : XC E p R s m args meth c cc own ret nL) {i D KC KS : Nat} {a b : Int} (hw : Cond.methodLink own i Lib.Math.min.name ∈ TW ∧ Cond.static Lib.Math.min.name ∈ TW ∧ Cond.initialized "java/lang/Math" ∈ TW ∧ Cond.code Lib.Math.min.name Lib.Math.min.code 2 (some .int) ∈ TW) (hR : xRm R D KC KS) (hD : 1 ≤ D) (hf : kc ≤ KC ∧ ns ≤ KS) (hL : L.length = nL) (hcat : (st.map fun v => v.category).sum ≤ 8) (ha : rg a) (hb : rg b) (hd : decode cc pc = .ok (.invokestatic i, 3)) (k : X E p e R s m args below meth c Z kc ns σ ρ ks (pc + 3) L (.int (iI (mnI a b)) :: st)) : X E p e R s m args below meth c Z kc ns σ ρ ks pc L (.int (iI b) :: .int (iI a) :: st) :=
  fun H locs ls h1 h2 h3 => va_mmin (rest := st.map (rn E)) C.1 C.2.1 (by rw [C.2.2.1]; exact (h3.1.trans hL).symm) C.2.2.2.1 (C.2.2.2.2.1 _ hw.1) (C.2.2.2.2.1 _ hw.2.1) (C.2.2.2.2.1 _ hw.2.2.1) (C.2.2.2.2.1 _ hw.2.2.2) (by rw [hR.1]; exact hD) (by have := x_cat (E := E) hcat; rw [hR.2.1]; omega) (by rw [hR.2.2.1]; exact hf.1) (by rw [hR.2.2.2]; exact hf.2) hd (by
    have h0 := k H locs ls h1 h2 h3
    have h9 : (if iI b < iI a then iI b else iI a) = iI (mnI a b) := by
      unfold mnI
      by_cases h : b < a
      · rw [if_pos h, if_pos ((iI_lt hb ha).mpr h)]
      · rw [if_neg h, if_neg (fun q => h ((iI_lt hb ha).mp q))]
    rw [h9]; exact h0)
end XMORE
