/-! THE LAW, FROM WHAT THE STATEMENT GIVES -/
theorem lw_mem {w : Cond} (i : Nat) (h : lw_tbl[i]? = some w) : w ∈ lw_tbl := List.mem_of_getElem? h
/-- every class's number and slots -/
theorem lw_cls {s : State} {A : Array Value} (hts : ∀ w ∈ TW, w.before A s = true) : ∃ (dC : Nat → ClassId) (dI : Nat → Nat → Nat), ∀ (k : Nat) (q : vw_C), vwCl[k]? = some q → u_Kn s q.1 q.2.1 q.2.2 (dC k) (dI k) := by
  have h0 : ∀ k : Nat, ∃ q : ClassId × (Nat → Nat), k < 13 → u_Kn s (xC k) (xT k) (xN k) q.1 q.2 := by
    intro k
    by_cases hk : k < 13
    · rcases (show k = 0 ∨ k = 1 ∨ k = 2 ∨ k = 3 ∨ k = 4 ∨ k = 5 ∨ k = 6 ∨ k = 7 ∨ k = 8 ∨ k = 9 ∨ k = 10 ∨ k = 11 ∨ k = 12 by omega) with rfl | rfl | rfl | rfl | rfl | rfl | rfl | rfl | rfl | rfl | rfl | rfl | rfl
      · obtain ⟨c, i, h⟩ := u_known (C := xC 0) (T := xT 0) (N := xN 0) (n := xN 0) hts uwX0 (hts _ nX11_86.2.1)
        exact ⟨(c, i), fun _ => h⟩
      · obtain ⟨c, i, h⟩ := u_known (C := xC 1) (T := xT 1) (N := xN 1) (n := xN 1) hts uwX1 (hts _ nX11_9.2.1)
        exact ⟨(c, i), fun _ => h⟩
      · obtain ⟨c, i, h⟩ := u_known (C := xC 2) (T := xT 2) (N := xN 2) (n := xN 2) hts uwX2 (hts _ nX11_289.2.1)
        exact ⟨(c, i), fun _ => h⟩
      · obtain ⟨c, i, h⟩ := u_known (C := xC 3) (T := xT 3) (N := xN 3) (n := xN 3) hts uwX3 (hts _ nX11_283.2.1)
        exact ⟨(c, i), fun _ => h⟩
      · obtain ⟨c, i, h⟩ := u_known (C := xC 4) (T := xT 4) (N := xN 4) (n := xN 4) hts uwX4 (hts _ nX1_28.2.1)
        exact ⟨(c, i), fun _ => h⟩
      · obtain ⟨c, i, h⟩ := u_known (C := xC 5) (T := xT 5) (N := xN 5) (n := xN 5) hts uwX5 (hts _ nX1_21.2.1)
        exact ⟨(c, i), fun _ => h⟩
      · obtain ⟨c, i, h⟩ := u_known (C := xC 6) (T := xT 6) (N := xN 6) (n := xN 6) hts uwX6 (hts _ nX11_275.2.1)
        exact ⟨(c, i), fun _ => h⟩
      · obtain ⟨c, i, h⟩ := u_known (C := xC 7) (T := xT 7) (N := xN 7) (n := xN 7) hts uwX7 (hts _ nw7.2.1)
        exact ⟨(c, i), fun _ => h⟩
      · obtain ⟨c, i, h⟩ := u_known (C := xC 8) (T := xT 8) (N := xN 8) (n := xN 8) hts uwX8 (hts _ nX11_36.2.1)
        exact ⟨(c, i), fun _ => h⟩
      · obtain ⟨c, i, h⟩ := u_known (C := xC 9) (T := xT 9) (N := xN 9) (n := xN 9) hts uwX9 (hts _ nX11_280.2.1)
        exact ⟨(c, i), fun _ => h⟩
      · obtain ⟨c, i, h⟩ := u_known (C := xC 10) (T := xT 10) (N := xN 10) (n := xN 10) hts uwX10 (hts _ nX11_286.2.1)
        exact ⟨(c, i), fun _ => h⟩
      · obtain ⟨c, i, h⟩ := u_known (C := xC 11) (T := xT 11) (N := xN 11) (n := xN 11) hts uwX11 (hts _ nL_7.2.1)
        exact ⟨(c, i), fun _ => h⟩
      · obtain ⟨c, i, h⟩ := u_known (C := xC 12) (T := xT 12) (N := xN 12) (n := xN 12) hts uwX12 (hts _ nL_10.2.1)
        exact ⟨(c, i), fun _ => h⟩
    · exact ⟨(0, fun _ => 0), fun h => absurd h hk⟩
  obtain ⟨f, hf⟩ := Classical.axiomOfChoice h0
  refine ⟨fun k => (f k).1, fun k => (f k).2, fun k q hq => ?_⟩
  have hk : k < 13 := by
    have := (List.getElem?_eq_some_iff.mp hq).1
    have e : vwCl.length = 13 := by decide
    omega
  rw [xCl hk] at hq
  cases hq
  exact hf k hk
theorem lw_arr {s : State} {A : Array Value} {ty : FieldType} (ht : ty = .int ∨ ty = .boolean) (h : (Cond.arrayClass ty).before A s = true) : ∃ cA, ArrOfT s cA ty ∧ va_RA s cA ty := by
  obtain ⟨cA, kA, comp, h1, h2, h3⟩ := Cond.arrayClass_spec h
  rcases ht with rfl | rfl
  · exact ⟨cA, fun n z => ⟨fun k h => (by cases h), kA, h2, comp, h3⟩, h1⟩
  · exact ⟨cA, fun n z => ⟨fun k h => (by cases h), kA, h2, comp, h3⟩, h1⟩
theorem lw_arrF {s : State} {A : Array Value} (h : (Cond.arrayOver (.object RX0)).before A s = true) : ∃ cA, ArrOfT s cA (.object RX0) ∧ va_RA s cA (.object RX0) := by
  obtain ⟨comp, cA, kA, f1, -, f3, f4, f5⟩ := Cond.arrayOver_spec h
  exact ⟨cA, fun n z => ⟨fun k h => (by cases h), kA, f3, comp, f4⟩, kA, comp, f3, f4, f1, f5⟩
theorem lw_eqs {args : Array Value} {s : State} {t u : Term} {a : Nat} (h : (Cond.eq t u).before args s = true) (ht : t.eval args s none [] s = some (.ref a)) : u.eval args s none [] s = some (.ref a) := by
  cases hv : u.eval args s none [] s with
  | none => simp [Cond.before, Cond.holds, Cond.value, hv, ht] at h
  | some w =>
    simp only [Cond.before, Cond.holds, Cond.value, hv, ht] at h
    cases w <;> simp_all
def lw_tm (i : Nat) : Term := Term.string RX4 ([85, 87, 89, 91, 115, 121].getD i 0)
theorem lw_str {s : State} {A : Array Value} {P : Nat → Prop} (hs : ∀ w ∈ flatC (Jvm.Cond.and given_1 narrow_1), w.before A s = true) (hA : ∀ a : Nat, a < s.heap.size → ¬ P a) : ∃ adK adV : Nat → Nat, vk_S 6 xLen xByt adK adV P s s.heap ∧ ∀ i : Nat, i < 6 → (lw_tm i).eval A s none [] s = some (.ref (adK i)) := by
  refine vk_Sof (args := A) (tm := lw_tm) ?_ ?_ ?_ ?_ ?_ ?_ ?_ hA
  · intro i hi
    rcases (show i = 0 ∨ i = 1 ∨ i = 2 ∨ i = 3 ∨ i = 4 ∨ i = 5 by omega) with rfl | rfl | rfl | rfl | rfl | rfl <;> decide
  · intro i hi
    rcases (show i = 0 ∨ i = 1 ∨ i = 2 ∨ i = 3 ∨ i = 4 ∨ i = 5 by omega) with rfl | rfl | rfl | rfl | rfl | rfl
    · exact hs _ (by decide +kernel)
    · exact hs _ (by decide +kernel)
    · exact hs _ (by decide +kernel)
    · exact hs _ (by decide +kernel)
    · exact hs _ (by decide +kernel)
    · exact hs _ (by decide +kernel)
  · intro i hi
    rcases (show i = 0 ∨ i = 1 ∨ i = 2 ∨ i = 3 ∨ i = 4 ∨ i = 5 by omega) with rfl | rfl | rfl | rfl | rfl | rfl
    · exact hs _ (by decide +kernel)
    · exact hs _ (by decide +kernel)
    · exact hs _ (by decide +kernel)
    · exact hs _ (by decide +kernel)
    · exact hs _ (by decide +kernel)
    · exact hs _ (by decide +kernel)
  · intro i hi
    rcases (show i = 0 ∨ i = 1 ∨ i = 2 ∨ i = 3 ∨ i = 4 ∨ i = 5 by omega) with rfl | rfl | rfl | rfl | rfl | rfl
    · exact hs _ (by decide +kernel)
    · exact hs _ (by decide +kernel)
    · exact hs _ (by decide +kernel)
    · exact hs _ (by decide +kernel)
    · exact hs _ (by decide +kernel)
    · exact hs _ (by decide +kernel)
  · intro i hi
    rcases (show i = 0 ∨ i = 1 ∨ i = 2 ∨ i = 3 ∨ i = 4 ∨ i = 5 by omega) with rfl | rfl | rfl | rfl | rfl | rfl
    · exact hs _ (by decide +kernel)
    · exact hs _ (by decide +kernel)
    · exact hs _ (by decide +kernel)
    · exact hs _ (by decide +kernel)
    · exact hs _ (by decide +kernel)
    · exact hs _ (by decide +kernel)
  · intro i hi j hj
    rcases (show i = 0 ∨ i = 1 ∨ i = 2 ∨ i = 3 ∨ i = 4 ∨ i = 5 by omega) with rfl | rfl | rfl | rfl | rfl | rfl
    · rcases (show j = 0 ∨ j = 1 ∨ j = 2 ∨ j = 3 by (have : xLen.getD 0 0 = 4 := rfl); omega) with rfl | rfl | rfl | rfl
      · exact hs _ (by decide +kernel)
      · exact hs _ (by decide +kernel)
      · exact hs _ (by decide +kernel)
      · exact hs _ (by decide +kernel)
    · rcases (show j = 0 ∨ j = 1 ∨ j = 2 ∨ j = 3 by (have : xLen.getD 1 0 = 4 := rfl); omega) with rfl | rfl | rfl | rfl
      · exact hs _ (by decide +kernel)
      · exact hs _ (by decide +kernel)
      · exact hs _ (by decide +kernel)
      · exact hs _ (by decide +kernel)
    · rcases (show j = 0 ∨ j = 1 ∨ j = 2 ∨ j = 3 ∨ j = 4 by (have : xLen.getD 2 0 = 5 := rfl); omega) with rfl | rfl | rfl | rfl | rfl
      · exact hs _ (by decide +kernel)
      · exact hs _ (by decide +kernel)
      · exact hs _ (by decide +kernel)
      · exact hs _ (by decide +kernel)
      · exact hs _ (by decide +kernel)
    · rcases (show j = 0 ∨ j = 1 ∨ j = 2 ∨ j = 3 ∨ j = 4 by (have : xLen.getD 3 0 = 5 := rfl); omega) with rfl | rfl | rfl | rfl | rfl
      · exact hs _ (by decide +kernel)
      · exact hs _ (by decide +kernel)
      · exact hs _ (by decide +kernel)
      · exact hs _ (by decide +kernel)
      · exact hs _ (by decide +kernel)
    · rcases (show j = 0 ∨ j = 1 ∨ j = 2 ∨ j = 3 ∨ j = 4 ∨ j = 5 by (have : xLen.getD 4 0 = 6 := rfl); omega) with rfl | rfl | rfl | rfl | rfl | rfl
      · exact hs _ (by decide +kernel)
      · exact hs _ (by decide +kernel)
      · exact hs _ (by decide +kernel)
      · exact hs _ (by decide +kernel)
      · exact hs _ (by decide +kernel)
      · exact hs _ (by decide +kernel)
    · rcases (show j = 0 ∨ j = 1 ∨ j = 2 by (have : xLen.getD 5 0 = 3 := rfl); omega) with rfl | rfl | rfl
      · exact hs _ (by decide +kernel)
      · exact hs _ (by decide +kernel)
      · exact hs _ (by decide +kernel)
  · intro i j hi hj hij
    rcases (show i = 0 ∨ i = 1 ∨ i = 2 ∨ i = 3 ∨ i = 4 ∨ i = 5 by omega) with rfl | rfl | rfl | rfl | rfl | rfl
    · rcases (show j = 0 ∨ j = 1 ∨ j = 2 ∨ j = 3 ∨ j = 4 ∨ j = 5 by omega) with rfl | rfl | rfl | rfl | rfl | rfl
      · exact absurd rfl hij
      · exact Or.inl (hs _ (by decide +kernel))
      · exact Or.inl (hs _ (by decide +kernel))
      · exact Or.inl (hs _ (by decide +kernel))
      · exact Or.inl (hs _ (by decide +kernel))
      · exact Or.inl (hs _ (by decide +kernel))
    · rcases (show j = 0 ∨ j = 1 ∨ j = 2 ∨ j = 3 ∨ j = 4 ∨ j = 5 by omega) with rfl | rfl | rfl | rfl | rfl | rfl
      · exact Or.inr (hs _ (by decide +kernel))
      · exact absurd rfl hij
      · exact Or.inl (hs _ (by decide +kernel))
      · exact Or.inl (hs _ (by decide +kernel))
      · exact Or.inl (hs _ (by decide +kernel))
      · exact Or.inl (hs _ (by decide +kernel))
    · rcases (show j = 0 ∨ j = 1 ∨ j = 2 ∨ j = 3 ∨ j = 4 ∨ j = 5 by omega) with rfl | rfl | rfl | rfl | rfl | rfl
      · exact Or.inr (hs _ (by decide +kernel))
      · exact Or.inr (hs _ (by decide +kernel))
      · exact absurd rfl hij
      · exact Or.inl (hs _ (by decide +kernel))
      · exact Or.inl (hs _ (by decide +kernel))
      · exact Or.inl (hs _ (by decide +kernel))
    · rcases (show j = 0 ∨ j = 1 ∨ j = 2 ∨ j = 3 ∨ j = 4 ∨ j = 5 by omega) with rfl | rfl | rfl | rfl | rfl | rfl
      · exact Or.inr (hs _ (by decide +kernel))
      · exact Or.inr (hs _ (by decide +kernel))
      · exact Or.inr (hs _ (by decide +kernel))
      · exact absurd rfl hij
      · exact Or.inl (hs _ (by decide +kernel))
      · exact Or.inl (hs _ (by decide +kernel))
    · rcases (show j = 0 ∨ j = 1 ∨ j = 2 ∨ j = 3 ∨ j = 4 ∨ j = 5 by omega) with rfl | rfl | rfl | rfl | rfl | rfl
      · exact Or.inr (hs _ (by decide +kernel))
      · exact Or.inr (hs _ (by decide +kernel))
      · exact Or.inr (hs _ (by decide +kernel))
      · exact Or.inr (hs _ (by decide +kernel))
      · exact absurd rfl hij
      · exact Or.inl (hs _ (by decide +kernel))
    · rcases (show j = 0 ∨ j = 1 ∨ j = 2 ∨ j = 3 ∨ j = 4 ∨ j = 5 by omega) with rfl | rfl | rfl | rfl | rfl | rfl
      · exact Or.inr (hs _ (by decide +kernel))
      · exact Or.inr (hs _ (by decide +kernel))
      · exact Or.inr (hs _ (by decide +kernel))
      · exact Or.inr (hs _ (by decide +kernel))
      · exact Or.inr (hs _ (by decide +kernel))
      · exact absurd rfl hij
theorem lw_world {s : State} {A : Array Value} (hts : ∀ w ∈ lw_tbl, w.before A s = true) (hg : (Jvm.Cond.and given_1 narrow_1).before A s = true) (l : Launch) (b : Nat) : ∃ E : xE, E.1 = l ∧ E.2.2.2.1 = s.heap.size ∧ E.2.2.2.2.2 62 = b ∧ va_K E.2.1 vwCl (xTys E) s ∧ xS E s s.heap := by
  have hs := flat_of_before _ hg
  have htw : ∀ w ∈ TW, w.before A s = true := fun w hw => hts w (List.mem_filter.mp hw).1
  have hA : ∀ a : Nat, a < s.heap.size → ¬ s.heap.size ≤ a := fun a h => Nat.not_le.mpr h
  obtain ⟨dC, dI, hK⟩ := lw_cls htw
  obtain ⟨cI, hI1, hI2⟩ := lw_arr (Or.inl rfl) (htw _ a_int)
  obtain ⟨cZ, hZ1, hZ2⟩ := lw_arr (Or.inr rfl) (htw _ a_boolean)
  obtain ⟨cF, hF1, hF2⟩ := lw_arrF (hts _ (List.mem_of_getElem? (i := 104) (by decide +kernel)))
  obtain ⟨adK, adV, hS, hev⟩ := lw_str (P := fun q => s.heap.size ≤ q) hs hA
  obtain ⟨fm, hfm⟩ : ∃ fm : Nat, va_Z RJ3 "SIOOBE_FORMATTER" "Ljava/util/function/BiFunction;" .null (fun q => s.heap.size ≤ q) s s.heap ∨ va_Z RJ3 "SIOOBE_FORMATTER" "Ljava/util/function/BiFunction;" (.ref fm) (fun q => s.heap.size ≤ q) s s.heap := by
    rcases va_Zqof (C := RJ3) (n := "SIOOBE_FORMATTER") (d := "Ljava/util/function/BiFunction;") (hts _ (List.mem_of_getElem? (i := 351) (by decide +kernel))) (hts _ (List.mem_of_getElem? (i := 77) (by decide +kernel))) (hs _ (by decide +kernel)) hA with h | ⟨t, h⟩
    · exact ⟨0, Or.inl h⟩
    · exact ⟨t, Or.inr h⟩
  refine ⟨(l, (dC, dI), (fun k => if k = 0 then cI else if k = 1 then cZ else cF), s.heap.size, adK, (fun n => if n = 62 then b else if n = 63 then fm else adV n)), rfl, rfl, rfl, ⟨hK, fun k q hq => ?_⟩, ⟨fun i hi => ?_, hS.2⟩, ?_, ?_, ?_, ?_, ?_, ?_, ?_⟩
  · match k, hq with
    | 0, hq => cases hq; exact ⟨hI1, hI2⟩
    | 1, hq => cases hq; exact ⟨hZ1, hZ2⟩
    | 2, hq => cases hq; exact ⟨hF1, hF2⟩
    | k + 3, hq => simp [xTys] at hq
  · have := hS.1 i hi
    have e : (if i = 62 then b else if i = 63 then fm else adV i) = adV i := by rw [if_neg (by omega), if_neg (by omega)]
    show _ ∧ _ ∧ va_OF "java/lang/String" "value" "[B" (.ref (if i = 62 then b else if i = 63 then fm else adV i)) (adK i) _ s s.heap ∧ va_T .byte (if i = 62 then b else if i = 63 then fm else adV i) _ _ _ s s.heap
    rw [e]
    exact this
  · intro q hq
    unfold xStr at hq
    simp only [List.mem_cons, List.not_mem_nil, or_false] at hq
    rcases hq with rfl | rfl | rfl | rfl | rfl | rfl | rfl | rfl | rfl | rfl | rfl | rfl
    · exact vk_R.of (A := A) (hts _ (List.mem_of_getElem? (i := 322) (by decide +kernel))) (hev 0 (by decide))
    · exact vk_R.of (A := A) (hts _ (List.mem_of_getElem? (i := 323) (by decide +kernel))) (hev 1 (by decide))
    · exact vk_R.of (A := A) (hts _ (List.mem_of_getElem? (i := 324) (by decide +kernel))) (hev 2 (by decide))
    · exact vk_R.of (A := A) (hts _ (List.mem_of_getElem? (i := 325) (by decide +kernel))) (hev 3 (by decide))
    · exact vk_R.of (A := A) (hts _ (List.mem_of_getElem? (i := 396) (by decide +kernel))) (hev 4 (by decide))
    · exact vk_R.of (A := A) (hts _ (List.mem_of_getElem? (i := 452) (by decide +kernel))) (hev 5 (by decide))
    · exact vk_R.of (A := A) (hts _ (List.mem_of_getElem? (i := 1187) (by decide +kernel))) (lw_eqs (hs (Cond.eq (lw_tm 0) (Term.string RX12 105)) (by decide +kernel)) (hev 0 (by decide)))
    · exact vk_R.of (A := A) (hts _ (List.mem_of_getElem? (i := 1206) (by decide +kernel))) (lw_eqs (hs (Cond.eq (lw_tm 1) (Term.string RX12 111)) (by decide +kernel)) (hev 1 (by decide)))
    · exact vk_R.of (A := A) (hts _ (List.mem_of_getElem? (i := 1207) (by decide +kernel))) (lw_eqs (hs (Cond.eq (lw_tm 2) (Term.string RX12 113)) (by decide +kernel)) (hev 2 (by decide)))
    · exact vk_R.of (A := A) (hts _ (List.mem_of_getElem? (i := 1234) (by decide +kernel))) (lw_eqs (hs (Cond.eq (lw_tm 3) (Term.string RX12 119)) (by decide +kernel)) (hev 3 (by decide)))
    · exact vk_R.of (A := A) (hts _ (List.mem_of_getElem? (i := 1228) (by decide +kernel))) (lw_eqs (hs (Cond.eq (lw_tm 4) (Term.string RX12 87)) (by decide +kernel)) (hev 4 (by decide)))
    · exact vk_R.of (A := A) (hts _ (List.mem_of_getElem? (i := 1233) (by decide +kernel))) (lw_eqs (hs (Cond.eq (lw_tm 5) (Term.string RX12 93)) (by decide +kernel)) (hev 5 (by decide)))
  · intro q hq
    unfold xNest at hq
    simp only [List.mem_cons, List.not_mem_nil, or_false] at hq
    rcases hq with rfl | rfl | rfl | rfl | rfl | rfl | rfl
    · exact va_Nw.of rfl (hts _ (List.mem_of_getElem? (i := 99) (by decide +kernel)))
    · exact va_Nw.of rfl (hts _ (List.mem_of_getElem? (i := 250) (by decide +kernel)))
    · exact va_Nw.of rfl (hts _ (List.mem_of_getElem? (i := 253) (by decide +kernel)))
    · exact va_Nw.of rfl (hts _ (List.mem_of_getElem? (i := 294) (by decide +kernel)))
    · exact va_Nw.of rfl (hts _ (List.mem_of_getElem? (i := 1069) (by decide +kernel)))
    · exact va_Nw.of rfl (hts _ (List.mem_of_getElem? (i := 107) (by decide +kernel)))
    · exact va_Nw.of rfl (hts _ (List.mem_of_getElem? (i := 141) (by decide +kernel)))
  · exact va_AO.of (hts _ (List.mem_of_getElem? (i := 104) (by decide +kernel)))
  · intro ci hci
    unfold xSub at hci
    simp only [List.mem_cons, List.not_mem_nil, or_false] at hci
    rcases hci with rfl | rfl | rfl | rfl | rfl | rfl
    · exact va_Nw.of rfl (hts _ (List.mem_of_getElem? (i := 1574) (by decide +kernel)))
    · exact va_Nw.of rfl (hts _ (List.mem_of_getElem? (i := 1572) (by decide +kernel)))
    · exact va_Nw.of rfl (hts _ (List.mem_of_getElem? (i := 1570) (by decide +kernel)))
    · exact va_Nw.of rfl (hts _ (List.mem_of_getElem? (i := 1575) (by decide +kernel)))
    · exact va_Nw.of rfl (hts _ (List.mem_of_getElem? (i := 1571) (by decide +kernel)))
    · exact va_Nw.of rfl (hts _ (List.mem_of_getElem? (i := 1573) (by decide +kernel)))
  · intro ci hci
    unfold xNot at hci
    simp only [List.mem_cons, List.not_mem_nil, or_false] at hci
    rcases hci with rfl | rfl | rfl | rfl | rfl | rfl
    · exact va_Nc.of (args := A) (hs _ (by decide +kernel))
    · exact va_Nc.of (args := A) (hs _ (by decide +kernel))
    · exact va_Nc.of (args := A) (hs _ (by decide +kernel))
    · exact va_Nc.of (args := A) (hs _ (by decide +kernel))
    · exact va_Nc.of (args := A) (hs _ (by decide +kernel))
    · exact va_Nc.of (args := A) (hs _ (by decide +kernel))
  · exact va_Zof (hts _ (List.mem_of_getElem? (i := 335) (by decide +kernel))) (hts _ (List.mem_of_getElem? (i := 75) (by decide +kernel))) (va_eqi (hs _ (by decide +kernel))) hA
  · exact hfm
