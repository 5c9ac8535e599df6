theorem bI_01 (P : Prop) [Decidable P] : bI P = 0 ∨ bI P = 1 := by unfold bI; split <;> simp
theorem bI_t {P : Prop} [Decidable P] (h : P) : bI P = 1 := if_pos h
theorem bI_f {P : Prop} [Decidable P] (h : ¬ P) : bI P = 0 := if_neg h
theorem bI_ne {P : Prop} [Decidable P] (h : ¬ bI P = 0) : P := by
  by_cases q : P
  · exact q
  · exact absurd (bI_f q) h
theorem bI_eq {P : Prop} [Decidable P] (h : bI P = 0) : ¬ P := by
  intro q; rw [bI_t q] at h; exact absurd h (by decide)
theorem rg_bI (P : Prop) [Decidable P] : rg (bI P) := by rcases bI_01 P with h | h <;> rw [h] <;> exact ⟨by decide, by decide⟩
section XB
variable {E : xE} {p : Program} {e : Env} {R : Room} {s : State} {m : MethodId} {args : Array Value} {below : List Frame} {meth : Method} {c : Code} {Z : State → Prop} {kc ns : Nat} {σ : xM} {ρ : xR} {ks : xKs} {pc : Nat} {L : List (Option Value)} {st : List Value} {cc : ByteArray} {own : String} {ret : Option FieldType} {nL : Nat}
theorem x_ifB_eq (C : XC E p R s m args meth c cc own ret nL) {P : Prop} [Decidable P] {off : Int} {tgt : Nat} (hd : decode cc pc = .ok (.ifCond .eq off, 3)) (ht : (pc : Int) + off = (tgt : Int)) (kt : ¬ P → X E p e R s m args below meth c Z kc ns σ ρ ks tgt L st) (kf : P → X E p e R s m args below meth c Z kc ns σ ρ ks (pc + 3) L st) : X E p e R s m args below meth c Z kc ns σ ρ ks pc L (.int (iI (bI P)) :: st) :=
  x_if_eq C (rg_bI P) hd ht (fun h => kt (bI_eq h)) (fun h => kf (bI_ne h))
theorem x_ifB_ne (C : XC E p R s m args meth c cc own ret nL) {P : Prop} [Decidable P] {off : Int} {tgt : Nat} (hd : decode cc pc = .ok (.ifCond .ne off, 3)) (ht : (pc : Int) + off = (tgt : Int)) (kt : P → X E p e R s m args below meth c Z kc ns σ ρ ks tgt L st) (kf : ¬ P → X E p e R s m args below meth c Z kc ns σ ρ ks (pc + 3) L st) : X E p e R s m args below meth c Z kc ns σ ρ ks pc L (.int (iI (bI P)) :: st) :=
  x_if_ne C (rg_bI P) hd ht (fun h => kt (bI_ne h)) (fun h => kf (bI_eq h))
end XB
