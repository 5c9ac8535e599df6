/-! a fan of any kind: its class's number -/
def kci (k : Int) : Nat := if k = 0 then 0 else if k = 1 then 6 else if k = 2 then 9 else if k = 3 then 3 else if k = 4 then 10 else if k = 5 then 2 else 7
def famC (ci : Nat) : Prop := ci = 0 ∨ ci = 2 ∨ ci = 3 ∨ ci = 6 ∨ ci = 7 ∨ ci = 9 ∨ ci = 10
theorem kci_fam (k : Int) : famC (kci k) := by unfold kci famC; split; · simp
                                               split; · simp
                                               split; · simp
                                               split; · simp
                                               split; · simp
                                               split <;> simp
def FanAt (σ : xM) (ρ : xR) (ks : xKs) (q : Nat) (f : Int) (z : zS) : Prop := ks[q]? = some (0, kci (z (22 + f))) ∧ FZ σ q f z ∧ (z (22 + f) = 6 → TZ σ ρ ks q f z)
theorem fFX1_83 (ci : Nat) (h : famC ci) : xFd RX1 83 ci 0 := by
  rcases h with rfl | rfl | rfl | rfl | rfl | rfl | rfl
  · exact fX1_83_0
  · exact fX1_83_2
  · exact fX1_83_3
  · exact fX1_83_6
  · exact fX1_83_7
  · exact fX1_83_9
  · exact fX1_83_10
theorem fFX11_85 (ci : Nat) (h : famC ci) : xFd RX11 85 ci 0 := by
  rcases h with rfl | rfl | rfl | rfl | rfl | rfl | rfl
  · exact fX11_85_0
  · exact fX11_85_2
  · exact fX11_85_3
  · exact fX11_85_6
  · exact fX11_85_7
  · exact fX11_85_9
  · exact fX11_85_10
theorem fFX1_86 (ci : Nat) (h : famC ci) : xFd RX1 86 ci 1 := by
  rcases h with rfl | rfl | rfl | rfl | rfl | rfl | rfl
  · exact fX1_86_0
  · exact fX1_86_2
  · exact fX1_86_3
  · exact fX1_86_6
  · exact fX1_86_7
  · exact fX1_86_9
  · exact fX1_86_10
theorem fFX1_89 (ci : Nat) (h : famC ci) : xFd RX1 89 ci 2 := by
  rcases h with rfl | rfl | rfl | rfl | rfl | rfl | rfl
  · exact fX1_89_0
  · exact fX1_89_2
  · exact fX1_89_3
  · exact fX1_89_6
  · exact fX1_89_7
  · exact fX1_89_9
  · exact fX1_89_10
theorem fFX11_90 (ci : Nat) (h : famC ci) : xFd RX11 90 ci 2 := by
  rcases h with rfl | rfl | rfl | rfl | rfl | rfl | rfl
  · exact fX11_90_0
  · exact fX11_90_2
  · exact fX11_90_3
  · exact fX11_90_6
  · exact fX11_90_7
  · exact fX11_90_9
  · exact fX11_90_10
theorem fFX1_92 (ci : Nat) (h : famC ci) : xFd RX1 92 ci 3 := by
  rcases h with rfl | rfl | rfl | rfl | rfl | rfl | rfl
  · exact fX1_92_0
  · exact fX1_92_2
  · exact fX1_92_3
  · exact fX1_92_6
  · exact fX1_92_7
  · exact fX1_92_9
  · exact fX1_92_10
theorem fFX11_93 (ci : Nat) (h : famC ci) : xFd RX11 93 ci 3 := by
  rcases h with rfl | rfl | rfl | rfl | rfl | rfl | rfl
  · exact fX11_93_0
  · exact fX11_93_2
  · exact fX11_93_3
  · exact fX11_93_6
  · exact fX11_93_7
  · exact fX11_93_9
  · exact fX11_93_10
theorem fFX1_95 (ci : Nat) (h : famC ci) : xFd RX1 95 ci 4 := by
  rcases h with rfl | rfl | rfl | rfl | rfl | rfl | rfl
  · exact fX1_95_0
  · exact fX1_95_2
  · exact fX1_95_3
  · exact fX1_95_6
  · exact fX1_95_7
  · exact fX1_95_9
  · exact fX1_95_10
theorem fFX11_96 (ci : Nat) (h : famC ci) : xFd RX11 96 ci 4 := by
  rcases h with rfl | rfl | rfl | rfl | rfl | rfl | rfl
  · exact fX11_96_0
  · exact fX11_96_2
  · exact fX11_96_3
  · exact fX11_96_6
  · exact fX11_96_7
  · exact fX11_96_9
  · exact fX11_96_10
theorem fFX1_98 (ci : Nat) (h : famC ci) : xFd RX1 98 ci 5 := by
  rcases h with rfl | rfl | rfl | rfl | rfl | rfl | rfl
  · exact fX1_98_0
  · exact fX1_98_2
  · exact fX1_98_3
  · exact fX1_98_6
  · exact fX1_98_7
  · exact fX1_98_9
  · exact fX1_98_10
theorem fFX11_99 (ci : Nat) (h : famC ci) : xFd RX11 99 ci 5 := by
  rcases h with rfl | rfl | rfl | rfl | rfl | rfl | rfl
  · exact fX11_99_0
  · exact fX11_99_2
  · exact fX11_99_3
  · exact fX11_99_6
  · exact fX11_99_7
  · exact fX11_99_9
  · exact fX11_99_10
theorem fFX1_108 (ci : Nat) (h : famC ci) : xFd RX1 108 ci 6 := by
  rcases h with rfl | rfl | rfl | rfl | rfl | rfl | rfl
  · exact fX1_108_0
  · exact fX1_108_2
  · exact fX1_108_3
  · exact fX1_108_6
  · exact fX1_108_7
  · exact fX1_108_9
  · exact fX1_108_10
theorem fFX11_102 (ci : Nat) (h : famC ci) : xFd RX11 102 ci 6 := by
  rcases h with rfl | rfl | rfl | rfl | rfl | rfl | rfl
  · exact fX11_102_0
  · exact fX11_102_2
  · exact fX11_102_3
  · exact fX11_102_6
  · exact fX11_102_7
  · exact fX11_102_9
  · exact fX11_102_10
theorem tF_kind (ci : Nat) (h : famC ci) : xIsR (xTy ci 0) = false := by
  rcases h with rfl | rfl | rfl | rfl | rfl | rfl | rfl <;> rfl
theorem tF_number (ci : Nat) (h : famC ci) : xIsR (xTy ci 1) = false := by
  rcases h with rfl | rfl | rfl | rfl | rfl | rfl | rfl <;> rfl
theorem tF_v (ci : Nat) (h : famC ci) : xIsR (xTy ci 2) = false := by
  rcases h with rfl | rfl | rfl | rfl | rfl | rfl | rfl <;> rfl
theorem tF_from (ci : Nat) (h : famC ci) : xIsR (xTy ci 3) = false := by
  rcases h with rfl | rfl | rfl | rfl | rfl | rfl | rfl <;> rfl
theorem tF_to (ci : Nat) (h : famC ci) : xIsR (xTy ci 4) = false := by
  rcases h with rfl | rfl | rfl | rfl | rfl | rfl | rfl <;> rfl
theorem tF_pace (ci : Nat) (h : famC ci) : xIsR (xTy ci 5) = false := by
  rcases h with rfl | rfl | rfl | rfl | rfl | rfl | rfl <;> rfl
theorem tF_isOn (ci : Nat) (h : famC ci) : xIsR (xTy ci 6) = false := by
  rcases h with rfl | rfl | rfl | rfl | rfl | rfl | rfl <;> rfl
theorem x_fanX1_112 {E : xE} {p : Program} {e : Env} {R : Room} {s : State} {m : MethodId} {args : Array Value} {below : List Frame} {meth : Method} {c : Code} {Z : State → Prop} {kc ns : Nat} {σ : xM} {ρ : xR} {ks : xKs} {pc : Nat} {L : List (Option Value)} {st : List Value} {cc : ByteArray} {ret : Option FieldType} {nL : Nat} (C : XC E p R s m args meth c cc RX1 ret nL) {q : Nat} {f : Int} {z : zS} (hfa : FanAt σ ρ ks q f z) (hfo : FanOk z f) (hff : 0 ≤ f ∧ f < 4) {r b : Nat} (hsk : SK ks ρ r b) (hsz : SZ σ r b z) (hsit : SitOk z) {t : Int} (ht : 0 ≤ t ∧ t < 1000000) {D KC KS : Nat} (hR : xRm R D KC KS) (hD : 2 < D) (hcat : (st.map fun v => v.category).sum ≤ 8) (hf : kc ≤ KC ∧ ns ≤ KS) (hL : L.length = nL) (hd : decode cc pc = .ok (.invokevirtual 112, 3))
    (kk : X E p e R s m args below meth c Z kc ns σ ρ ks (pc + 3) L (.int (iI (reachF z f t)) :: st)) : X E p e R s m args below meth c Z kc ns σ ρ ks pc L (.ref r :: .int (iI t) :: .ref q :: st) := by
  obtain ⟨hq, hfz, htz⟩ := hfa
  obtain ⟨hk0, -⟩ := id hfo
  rcases (show z (22 + f) = 0 ∨ z (22 + f) = 1 ∨ z (22 + f) = 2 ∨ z (22 + f) = 3 ∨ z (22 + f) = 4 ∨ z (22 + f) = 5 ∨ z (22 + f) = 6 by omega) with hkd | hkd | hkd | hkd | hkd | hkd | hkd
  · have hq2 : ks[q]? = some (0, 0) := by rw [hq, hkd]; rfl
    exact x_callV1 (As := [_, _]) (Bs := [_, _]) C (c_reach0 E hfz hfo hff hq2 hkd hsk hsz hsit ht) wX1_112_0 pX0_reach hq2 rfl rfl hcat hR hD (by decide) hf hL hd kk
  · have hq2 : ks[q]? = some (0, 6) := by rw [hq, hkd]; rfl
    exact x_callU1 (As := [_, _]) (Bs := [_, _]) C (c_reach6 E hfz hfo hff hq2 hkd hsk hsz hsit ht) wX1_112_6 pX1_112_6 hq2 rfl rfl hcat hR hD (by decide) hf hL hd kk
  · have hq2 : ks[q]? = some (0, 9) := by rw [hq, hkd]; rfl
    exact x_callU1 (As := [_, _]) (Bs := [_, _]) C (c_reach9 E hfz hfo hff hq2 hkd hsk hsz hsit ht) wX1_112_9 pX1_112_9 hq2 rfl rfl hcat hR hD (by decide) hf hL hd kk
  · have hq2 : ks[q]? = some (0, 3) := by rw [hq, hkd]; rfl
    exact x_callU1 (As := [_, _]) (Bs := [_, _]) C (c_reach3 E hfz hfo hff hq2 hkd hsk hsz hsit ht) wX1_112_3 pX1_112_3 hq2 rfl rfl hcat hR hD (by decide) hf hL hd kk
  · have hq2 : ks[q]? = some (0, 10) := by rw [hq, hkd]; rfl
    exact x_callU1 (As := [_, _]) (Bs := [_, _]) C (c_reach10 E hfz hfo hff hq2 hkd hsk hsz hsit ht) wX1_112_10 pX1_112_10 hq2 rfl rfl hcat hR hD (by decide) hf hL hd kk
  · have hq2 : ks[q]? = some (0, 2) := by rw [hq, hkd]; rfl
    exact x_callU1 (As := [_, _]) (Bs := [_, _]) C (c_reach2 E hfz hfo hff hq2 hkd hsk hsz hsit ht) wX1_112_2 pX1_112_2 hq2 rfl rfl hcat hR hD (by decide) hf hL hd kk
  · have hq2 : ks[q]? = some (0, 7) := by rw [hq, hkd]; rfl
    exact x_callU1 (As := [_, _]) (Bs := [_, _]) C (c_reach7 E hfz hfo hff hq2 hkd (htz hkd) hsk hsz hsit ht) wX1_112_7 pX1_112_7 hq2 rfl rfl hcat hR hD (by decide) hf hL hd kk
theorem x_fanX11_111 {E : xE} {p : Program} {e : Env} {R : Room} {s : State} {m : MethodId} {args : Array Value} {below : List Frame} {meth : Method} {c : Code} {Z : State → Prop} {kc ns : Nat} {σ : xM} {ρ : xR} {ks : xKs} {pc : Nat} {L : List (Option Value)} {st : List Value} {cc : ByteArray} {ret : Option FieldType} {nL : Nat} (C : XC E p R s m args meth c cc RX11 ret nL) {q : Nat} {f : Int} {z : zS} (hfa : FanAt σ ρ ks q f z) (hfo : FanOk z f) (hff : 0 ≤ f ∧ f < 4) {r b : Nat} (hsk : SK ks ρ r b) (hsz : SZ σ r b z) (hsit : SitOk z) {t : Int} (ht : 0 ≤ t ∧ t < 1000000) {D KC KS : Nat} (hR : xRm R D KC KS) (hD : 1 < D) (hcat : (st.map fun v => v.category).sum ≤ 8) (hf : kc ≤ KC ∧ ns ≤ KS) (hL : L.length = nL) (hd : decode cc pc = .ok (.invokevirtual 111, 3))
    (kk : X E p e R s m args below meth c Z kc ns σ ρ ks (pc + 3) L (.int (iI (isAtF z f t)) :: st)) : X E p e R s m args below meth c Z kc ns σ ρ ks pc L (.ref r :: .int (iI t) :: .ref q :: st) := by
  obtain ⟨hq, hfz, htz⟩ := hfa
  obtain ⟨hk0, -⟩ := id hfo
  rcases (show z (22 + f) = 0 ∨ z (22 + f) = 1 ∨ z (22 + f) = 2 ∨ z (22 + f) = 3 ∨ z (22 + f) = 4 ∨ z (22 + f) = 5 ∨ z (22 + f) = 6 by omega) with hkd | hkd | hkd | hkd | hkd | hkd | hkd
  · have hq2 : ks[q]? = some (0, 0) := by rw [hq, hkd]; rfl
    exact x_callV1 (As := [_, _]) (Bs := [_, _]) C (c_spot0 E hfz hfo hff hq2 hkd hsk hsz hsit ht) wX11_111_0 pX0_spot hq2 rfl rfl hcat hR hD (by decide) hf hL hd kk
  · have hq2 : ks[q]? = some (0, 6) := by rw [hq, hkd]; rfl
    exact x_callU1 (As := [_, _]) (Bs := [_, _]) C (c_spot6 E hfz hfo hff hq2 hkd hsk hsz hsit ht) wX11_111_6 pX11_111_6 hq2 rfl rfl hcat hR hD (by decide) hf hL hd kk
  · have hq2 : ks[q]? = some (0, 9) := by rw [hq, hkd]; rfl
    exact x_callU1 (As := [_, _]) (Bs := [_, _]) C (c_spot9 E hfz hfo hff hq2 hkd hsk hsz hsit ht) wX11_111_9 pX11_111_9 hq2 rfl rfl hcat hR hD (by decide) hf hL hd kk
  · have hq2 : ks[q]? = some (0, 3) := by rw [hq, hkd]; rfl
    exact x_callU1 (As := [_, _]) (Bs := [_, _]) C (c_spot3 E hfz hfo hff hq2 hkd hsk hsz hsit ht) wX11_111_3 pX11_111_3 hq2 rfl rfl hcat hR hD (by decide) hf hL hd kk
  · have hq2 : ks[q]? = some (0, 10) := by rw [hq, hkd]; rfl
    exact x_callU1 (As := [_, _]) (Bs := [_, _]) C (c_spot10 E hfz hfo hff hq2 hkd hsk hsz hsit ht) wX11_111_10 pX11_111_10 hq2 rfl rfl hcat hR hD (by decide) hf hL hd kk
  · have hq2 : ks[q]? = some (0, 2) := by rw [hq, hkd]; rfl
    exact x_callU1 (As := [_, _]) (Bs := [_, _]) C (c_spot2 E hfz hfo hff hq2 hkd hsk hsz hsit ht) wX11_111_2 pX11_111_2 hq2 rfl rfl hcat hR hD (by decide) hf hL hd kk
  · have hq2 : ks[q]? = some (0, 7) := by rw [hq, hkd]; rfl
    exact x_callU1 (As := [_, _]) (Bs := [_, _]) C (c_spot7 E hfz hfo hff hq2 hkd (htz hkd) hsk hsz hsit ht) wX11_111_7 pX11_111_7 hq2 rfl rfl hcat hR hD (by decide) hf hL hd kk