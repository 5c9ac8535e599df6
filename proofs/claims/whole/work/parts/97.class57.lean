/-! THE LAW'S OWN ROWS: its script, its end; the claim's closing (begun from the kit's skeleton) -/
def R_law : String := "OneFanLaw"
def lw_P (b : Addr) (xs : List Int32) (args : Array Value) (s : State) : Prop := args = #[.ref b] ∧ s.IntsAt b xs ∧ xs.length ≤ 3072 ∧ (Jvm.Cond.and given_1 narrow_1).before args s = true
def lw_Q (_ : Array Value) (s : State) (o : Outcome) (t : State) : Prop := o = .returned (some (.int 1)) ∧ Framed s o t [] 600000 7302250
def lw_Z (below : List Frame) (a : Array Value) (s : State) : State → Prop := fun t => ∃ o, t.status = .running ∧ Ended t below o ∧ lw_Q a s o t
theorem lw_retR {p : Program} {l : Launch} {e : Env} {R : Room} {s : State} {m : MethodId} {below : List Frame} {meth : Method} {c : Code} {b : Nat} (hx : p.tables.exec = Jvm.exec) (hb : c.code = code) (hr : meth.sig.returnType = ret) (hlocks : meth.locks = false) {pc : Nat} {H : Heap} {ls : Array Slot} (hdg : decode code pc = .ok (.ireturn, 1)) : W p l e R s m #[Value.ref b] below meth c H [] 600000 7302250 (lw_Z below #[Value.ref b] s) (F0 m pc ls [.int 1]) := by
  intro T hT X
  obtain ⟨fs, hret, hrun, hended, hW, hframe⟩ := X.leave (v := some (.int 1)) (hlocks := hlocks) (fun h => by rw [hr] at h; cases h)
  have hmeth' : T.vm.method? m = some meth := X.method'
  refine ⟨T.setFrames fs, ?_, .returned (some (.int 1)), hrun, hended, rfl, ⟨_, rfl⟩, hW, hframe⟩
  jvm_step X.here [X.here.top, hx, hb, hdg, hmeth', hr, ret, narrow_b1]
  (try refine ⟨rfl, ?_⟩); (try refine ⟨rfl, ?_⟩)
  first | (intro acts; rw [hret _ acts rfl rfl rfl]) | rw [hret _ _ rfl rfl rfl]
  exact Steps.refl _
def lw_At (p : Program) (s : State) (m : MethodId) (meth : Method) (c : Code) (b L : Nat) (xs : Nat → Int32) : Prop :=
  p.tables.exec = Jvm.exec ∧ c.code = code ∧ meth.sig.returnType = ret ∧ c.maxLocals = 4 ∧ s.vm.findClass R_law = some m.cls ∧ (∀ w ∈ lw_tbl, w.before #[Value.ref b] s = true) ∧ va_X b L xs s s.heap ∧ b < s.heap.size ∧ meth.locks = false ∧ (Jvm.Cond.and given_1 narrow_1).before #[Value.ref b] s = true
/-- a smaller room's walk is the larger one's -/
theorem W.down {p : Program} {l : Launch} {e : Env} {R R' : Room} {s : State} {m : MethodId} {args : Array Value} {below : List Frame} {meth : Method} {c : Code} {H : Heap} {locs : List Loc} {cells slots : Nat} {Q : State → Prop} {g : JFrame} (hf : R.frames ≤ R'.frames) (hl : R.locals ≤ R'.locals) (hc : R.cells ≤ R'.cells) (hs : R.slots ≤ R'.slots) (k : W p l e R s m args below meth c H locs cells slots Q g) : W p l e R' s m args below meth c H locs cells slots Q g := by
  intro T hT X
  refine k T hT ⟨X.admits, X.cas, X.clock, X.frames, ?_, X.hears, X.method, X.code, X.here, X.tail, X.warmed, X.limits, X.bytes, X.same⟩
  have h := X.room
  simp only [State.hasRoom, Bool.and_eq_true, decide_eq_true_eq] at h ⊢
  obtain ⟨⟨⟨⟨y, a1, a2, a3, a4, a5⟩, a6⟩, a7⟩, a8⟩ := h
  exact ⟨⟨⟨⟨by omega, by omega, by omega, by omega, by omega, a5⟩, by omega⟩, by omega⟩, a8⟩
def sc (xs : Nat → Int32) (j : Int) : Int := (xs j.toNat).toInt
theorem sc_rg (xs : Nat → Int32) (j : Int) : rg (sc xs j) := rg_of _
section LAWROWS
variable {E : xE} {p : Program} {e : Env} {R : Room} {s : State} {m : MethodId} {args : Array Value} {below : List Frame} {meth : Method} {c : Code} {Z : State → Prop} {kc ns : Nat} {σ : xM} {ρ : xR} {ks : xKs} {pc : Nat} {L : List (Option Value)} {st : List Value} {cc : ByteArray} {own : String} {ret : Option FieldType} {nL : Nat}
theorem X.wide {kc' ns' : Nat} (h1 : kc ≤ kc') (h2 : ns ≤ ns') (k : X E p e R s m args below meth c Z kc' ns' σ ρ ks pc L st) : X E p e R s m args below meth c Z kc ns σ ρ ks pc L st :=
  fun H locs ls a1 a2 a3 => W.widen h1 h2 (k H locs ls a1 a2 a3)
theorem x_sld (C : XC E p R s m args meth c cc own ret nL) {b N : Nat} {xs : Nat → Int32} (hX : va_X b N xs s s.heap) (hbl : b < s.heap.size) (h62 : E.2.2.2.2.2 62 = b) (h0 : E.2.2.2.1 = s.heap.size) {z : Int} (hz : 0 ≤ z ∧ z < N) (hN : N < 2147483648) (hd : decode cc pc = .ok (.iaload, 1)) (k : X E p e R s m args below meth c Z kc ns σ ρ ks (pc + 1) L (.int (iI (sc xs z)) :: st)) : X E p e R s m args below meth c Z kc ns σ ρ ks pc L (.int (iI z) :: .float 126 :: st) := by
  intro H locs ls h1 h2 h3
  have hk := k H locs ls h1 h2 h3
  have hcl := iI_clamp hz.1 (by omega)
  have e1 : rn E (.float 126) = .ref b := by rw [← h62]; rfl
  have hb2 : ¬ xA E b := by show ¬ E.2.2.2.1 ≤ b; omega
  show W p E.1 e R s m args below meth c H locs kc ns Z (F0 m pc ls (.int (iI z) :: rn E (.float 126) :: st.map (rn E)))
  rw [e1]
  refine va_sld C.1 C.2.1 hX hbl hb2 h2 (iI_in hz.1 hz.2 hN) hd ?_
  rw [hcl]
  have e2 : iI (sc xs z) = xs z.toNat := iI_of _
  rw [← e2]
  exact hk
theorem x_sclen (C : XC E p R s m args meth c cc own ret nL) {b N : Nat} {xs : Nat → Int32} (hX : va_X b N xs s s.heap) (hbl : b < s.heap.size) (h62 : E.2.2.2.2.2 62 = b) (h0 : E.2.2.2.1 = s.heap.size) (hN : N < 2147483648) (hd : decode cc pc = .ok (.arraylength, 1)) (k : X E p e R s m args below meth c Z kc ns σ ρ ks (pc + 1) L (.int (iI N) :: st)) : X E p e R s m args below meth c Z kc ns σ ρ ks pc L (.float 126 :: st) := by
  intro H locs ls h1 h2 h3
  have hk := k H locs ls h1 h2 h3
  have e1 : rn E (.float 126) = .ref b := by rw [← h62]; rfl
  have hb2 : ¬ xA E b := by show ¬ E.2.2.2.1 ≤ b; omega
  show W p E.1 e R s m args below meth c H locs kc ns Z (F0 m pc ls (rn E (.float 126) :: st.map (rn E)))
  rw [e1]
  refine va_slen C.1 C.2.1 hX hbl hb2 h2 hd ?_
  have e2 : Int32.ofNat N = iI N := by
    first
    | rfl
    | (rw [← Int32.toInt_inj, iI_toInt ⟨by omega, by omega⟩, Int32.toInt_ofNat_of_lt (by omega)])
    | (rw [← Int32.toInt_inj, iI_toInt ⟨by omega, by omega⟩]; simp [Int32.toInt_ofNat]; omega)
  rw [e2]
  exact hk
/-- what was answered alike -/
theorem x_same (C : XC E p R s m args meth c cc own ret nL) {a off : Int} {tgt : Nat} (hd : decode cc pc = .ok (.if_icmp .eq off, 3)) (ht : (pc : Int) + off = (tgt : Int)) (k : X E p e R s m args below meth c Z kc ns σ ρ ks tgt L st) : X E p e R s m args below meth c Z kc ns σ ρ ks pc L (.int (iI a) :: .int (iI a) :: st) :=
  fun H locs ls h1 h2 h3 => lv_icmp_eq C.1 C.2.1 hd ht (fun _ => k H locs ls h1 h2 h3) (fun h => absurd rfl h)
theorem x_sameL (C : XC E p R s m args meth c cc own ret nL) {a : Int} (hd : decode cc pc = .ok (.lcmp, 1)) (k : X E p e R s m args below meth c Z kc ns σ ρ ks (pc + 1) L (.int (iI 0) :: st)) : X E p e R s m args below meth c Z kc ns σ ρ ks pc L (.long (lL a) :: .long (lL a) :: st) :=
  fun H locs ls h1 h2 h3 => W.lcmp C.1 C.2.1 hd (by
    have : lg_cmp (lL a) (lL a) = iI 0 := by unfold lg_cmp; simp [iI_0]
    rw [this]; exact k H locs ls h1 h2 h3)
end LAWROWS
theorem x_lawret {E : xE} {p : Program} {e : Env} {R : Room} {s : State} {m : MethodId} {below : List Frame} {meth : Method} {c : Code} {kc ns : Nat} {σ : xM} {ρ : xR} {ks : xKs} {pc b : Nat} {L : List (Option Value)} {nL : Nat} (C : XC E p R s m #[Value.ref b] meth c cL_law RL ret nL) (h0 : E.2.2.2.1 = s.heap.size) (hk : kc ≤ 600000) (hn : ns ≤ 7302250) (hd : decode cL_law pc = .ok (.ireturn, 1)) : X E p e R s m #[Value.ref b] below meth c (lw_Z below #[Value.ref b] s) kc ns σ ρ ks pc L [.int (iI 1)] := by
  intro H locs ls h1 h2 h3
  refine va_forget (fun q hq => ?_) (W.widen (k := 600000) (n := 7302250) hk hn ?_)
  · have : E.2.2.2.1 ≤ q.base := h2.2.2 q hq
    rw [← h0]; exact this
  · have e1 : iI 1 = (1 : Int32) := by decide +kernel
    show W p E.1 e R s m #[Value.ref b] below meth c H [] 600000 7302250 (lw_Z below #[Value.ref b] s) (F0 m pc ls [.int (iI 1)])
    rw [e1]
    exact lw_retR C.1 C.2.1 C.2.2.2.2.2.2.2.1 C.2.2.2.2.2.2.2.2 hd