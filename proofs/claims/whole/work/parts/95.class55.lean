/-! THE INVARIANT of the reference's row, and that every call keeps it -/
def Inv (z : zS) : Prop := PlOk z ∧ Cn z ∧ SeenOk z ∧ RuleOk z ∧ BookOk z ∧ TapeOk z ∧ z 20 < z 15 ∧ (0 ≤ z 21 ∧ z 21 ≤ 1023) ∧ z 0 ≤ 99999 ∧ ∀ j, (j < 0 ∨ 943 ≤ j) → z j = 0
theorem FansOk.same {z z' : zS} (h : FansOk z) (e13 : z' 13 = z 13) (e : ∀ j, 22 ≤ j → j < 62 → z' j = z j) : FansOk z' := by
  obtain ⟨a, b⟩ := h
  refine ⟨by omega, fun f f0 f1 => ?_⟩
  obtain ⟨b1, b2, b3, b4, b5, b6⟩ := b f f0 (by omega)
  unfold FanOk
  rw [e (22 + f) (by omega) (by omega), e (26 + f) (by omega) (by omega), e (30 + f) (by omega) (by omega), e (34 + f) (by omega) (by omega), e (38 + f) (by omega) (by omega), e (42 + f) (by omega) (by omega)]
  exact ⟨b1, b2, b3, b4, b5, fun k k0 k1 => by rw [e _ (by omega) (by omega)]; exact b6 k k0 k1⟩
theorem SitOk.same {z z' : zS} (h : SitOk z) (e14 : z' 14 = z 14) (e : ∀ j, (1 ≤ j ∧ j < 13 ∨ 62 ≤ j ∧ j < 68) → z' j = z j) : SitOk z' := by
  obtain ⟨a, b⟩ := h
  refine ⟨by omega, fun p p0 p1 => ?_⟩
  rw [e (62 + p) (by omega), e (1 + p) (by omega), e (7 + p) (by omega)]
  exact b p p0 p1
theorem SeenOk.same {z z' : zS} (h : SeenOk z) (e16 : z' 16 = z 16) (e14 : z 14 ≤ z' 14) (e : ∀ j, 68 ≤ j → j < 86 → z' j = z j) : SeenOk z' := by
  obtain ⟨a, b⟩ := h
  refine ⟨by omega, fun k k0 k1 => ?_⟩
  rw [e (68 + k) (by omega) (by omega), e (74 + k) (by omega) (by omega), e (80 + k) (by omega) (by omega)]
  obtain ⟨b1, b2, b3⟩ := b k k0 (by omega)
  exact ⟨by omega, b2, b3⟩
theorem RuleOk.same {z z' : zS} (h : RuleOk z) (e17 : z' 17 = z 17) (e13 : z 13 ≤ z' 13) (e : ∀ j, 86 ≤ j → j < 94 → z' j = z j) : RuleOk z' := by
  obtain ⟨a, b⟩ := h
  refine ⟨by omega, fun k k0 k1 => ?_⟩
  rw [e (86 + k) (by omega) (by omega), e (90 + k) (by omega) (by omega)]
  obtain ⟨b1, b2⟩ := b k k0 (by omega)
  exact ⟨by omega, b2⟩
theorem BookOk.same {z z' : zS} (h : BookOk z) (e18 : z' 18 = z 18) (e13 : z 13 ≤ z' 13) (e : ∀ j, 94 ≤ j → j < 118 → z' j = z j) : BookOk z' := by
  obtain ⟨a, b⟩ := h
  refine ⟨by omega, fun k k0 k1 => ?_⟩
  rw [e (94 + k) (by omega) (by omega), e (102 + k) (by omega) (by omega), e (110 + k) (by omega) (by omega)]
  obtain ⟨b1, b2, b3⟩ := b k k0 (by omega)
  exact ⟨by omega, b2, b3⟩
theorem TapeOk.same {z z' : zS} (h : TapeOk z) (e : ∀ j, 118 ≤ j → j < 218 → z' j = z j) : TapeOk z' := fun j j0 j1 => by
  rw [e _ (by omega) (by omega)]; exact h j j0 j1
theorem Rs.of {z z' : zS} (h20 : z' 20 = z 20) (h : ∀ j, 218 ≤ j → z' j = z j) (h0 : -1 ≤ z 20) : Rs z z' := by
  refine ⟨h20, ?_⟩
  by_cases hm : z 20 = -1
  · exact Or.inl hm
  · exact Or.inr ⟨by omega, fun w hw => h _ (by omega), fun n hn => h _ (by omega)⟩
theorem Inv.upd {z z' : zS} (h : Inv z) (hF : FansOk z') (hS : SitOk z') (hSe : SeenOk z') (hRu : RuleOk z') (hBk : BookOk z') (hTp : TapeOk z') (h15 : z' 15 = z 15) (h20 : z' 20 = z 20) (h19 : 0 ≤ z' 19 ∧ z' 19 ≤ 100) (h21 : 0 ≤ z' 21 ∧ z' 21 ≤ 1023) (h0 : 0 ≤ z' 0 ∧ z' 0 ≤ 99999) (h218 : ∀ j, 218 ≤ j → z' j = z j) (ho : ∀ j, j < 0 → z' j = z j) : Inv z' := by
  obtain ⟨⟨-, -, g3, -⟩, ⟨c1, -⟩, -, -, -, -, g7, -, -, g10⟩ := h
  refine ⟨⟨hF, hS, (Rs.of h20 h218 g3.1.1).room g3, by omega, by omega⟩, ⟨by omega, hSe.1, hRu.1, hBk.1, h19⟩, hSe, hRu, hBk, hTp, by omega, h21, h0.2, fun j hj => ?_⟩
  rcases hj with hj | hj
  · rw [ho j hj]; exact g10 j (Or.inl hj)
  · rw [h218 j (by omega)]; exact g10 j (Or.inr hj)
set_option maxHeartbeats 1000000 in
theorem feed_inv {z : zS} (h : Inv z) (x : Int) : Inv (feedZ z x) := by
  obtain ⟨hP, hCn, hSe, hRu, hBk, hTp, h20, h21, h0, ho⟩ := id h
  obtain ⟨hF, hS, hR, h0a⟩ := id hP
  obtain ⟨n15, n16, n17, n18, n19⟩ := id hCn
  have h13 := hF.1
  have h14 := hS.1
  unfold feedZ
  split
  · exact h
  split
  · exact h
  refine h.upd (hF.same (by (simp (disch := omega) only [up_ne])) (fun j j0 j1 => by simp (disch := omega) only [up_ne])) (hS.same (by (simp (disch := omega) only [up_ne])) (fun j hj => by simp (disch := omega) only [up_ne])) (hSe.same (by (simp (disch := omega) only [up_ne])) (by (simp (disch := omega) only [up_ne]); omega) (fun j j0 j1 => by simp (disch := omega) only [up_ne])) (hRu.same (by (simp (disch := omega) only [up_ne])) (by (simp (disch := omega) only [up_ne]); omega) (fun j j0 j1 => by simp (disch := omega) only [up_ne])) (hBk.same (by (simp (disch := omega) only [up_ne])) (by (simp (disch := omega) only [up_ne]); omega) (fun j j0 j1 => by simp (disch := omega) only [up_ne])) ?_ (by (simp (disch := omega) only [up_ne])) (by (simp (disch := omega) only [up_ne])) (by rw [up_eq]; omega) (by (simp (disch := omega) only [up_ne]); omega) (by (simp (disch := omega) only [up_ne]); omega) (fun j hj => by (simp (disch := omega) only [up_ne])) (fun j hj => by (simp (disch := omega) only [up_ne]))
  intro j j0 j1
  by_cases hj : j = z 19
  · rw [up_ne _ (by omega), hj, up_eq]; omega
  · rw [up_ne _ (by omega), up_ne _ (by omega)]; exact hTp j j0 j1
set_option maxHeartbeats 1000000 in
theorem on_inv {z : zS} (h : Inv z) (f b : Int) : Inv (onZ z f b) := by
  obtain ⟨hP, hCn, hSe, hRu, hBk, hTp, h20, h21, h0, ho⟩ := id h
  obtain ⟨hF, hS, hR, h0a⟩ := id hP
  obtain ⟨n15, n16, n17, n18, n19⟩ := id hCn
  have h13 := hF.1
  have h14 := hS.1
  unfold onZ
  split
  · exact h
  refine h.upd ((hP.on (f := f) (a := if b = 0 then 0 else 1) (by omega) (by split <;> simp)).1) (hS.same (by (simp (disch := omega) only [up_ne])) (fun j hj => by simp (disch := omega) only [up_ne])) (hSe.same (by (simp (disch := omega) only [up_ne])) (by (simp (disch := omega) only [up_ne]); omega) (fun j j0 j1 => by simp (disch := omega) only [up_ne])) (hRu.same (by (simp (disch := omega) only [up_ne])) (by (simp (disch := omega) only [up_ne]); omega) (fun j j0 j1 => by simp (disch := omega) only [up_ne])) (hBk.same (by (simp (disch := omega) only [up_ne])) (by (simp (disch := omega) only [up_ne]); omega) (fun j j0 j1 => by simp (disch := omega) only [up_ne])) (hTp.same (fun j j0 j1 => by simp (disch := omega) only [up_ne])) (by (simp (disch := omega) only [up_ne])) (by (simp (disch := omega) only [up_ne])) (by (simp (disch := omega) only [up_ne]); omega) (by (simp (disch := omega) only [up_ne]); omega) (by (simp (disch := omega) only [up_ne]); omega) (fun j hj => by (simp (disch := omega) only [up_ne])) (fun j hj => by (simp (disch := omega) only [up_ne]))
set_option maxHeartbeats 1000000 in
theorem row_inv {z : zS} (h : Inv z) (f k n : Int) : Inv (rowZ z f k n) := by
  obtain ⟨hP, hCn, hSe, hRu, hBk, hTp, h20, h21, h0, ho⟩ := id h
  obtain ⟨hF, hS, hR, h0a⟩ := id hP
  obtain ⟨n15, n16, n17, n18, n19⟩ := id hCn
  have h13 := hF.1
  have h14 := hS.1
  unfold rowZ
  split
  · exact h
  split
  · exact h
  split
  · exact h
  refine h.upd ?_ (hS.same (by (simp (disch := omega) only [up_ne])) (fun j hj => by simp (disch := omega) only [up_ne])) (hSe.same (by (simp (disch := omega) only [up_ne])) (by (simp (disch := omega) only [up_ne]); omega) (fun j j0 j1 => by simp (disch := omega) only [up_ne])) (hRu.same (by (simp (disch := omega) only [up_ne])) (by (simp (disch := omega) only [up_ne]); omega) (fun j j0 j1 => by simp (disch := omega) only [up_ne])) (hBk.same (by (simp (disch := omega) only [up_ne])) (by (simp (disch := omega) only [up_ne]); omega) (fun j j0 j1 => by simp (disch := omega) only [up_ne])) (hTp.same (fun j j0 j1 => by simp (disch := omega) only [up_ne])) (by (simp (disch := omega) only [up_ne])) (by (simp (disch := omega) only [up_ne])) (by (simp (disch := omega) only [up_ne]); omega) (by (simp (disch := omega) only [up_ne]); omega) (by (simp (disch := omega) only [up_ne]); omega) (fun j hj => by (simp (disch := omega) only [up_ne])) (fun j hj => by (simp (disch := omega) only [up_ne]))
  refine ⟨by rw [up_ne _ (by omega)]; exact h13, fun i i0 i1 => ?_⟩
  rw [up_ne _ (by omega)] at i1
  obtain ⟨b1, b2, b3, b4, b5, b6⟩ := hF.2 i i0 i1
  unfold FanOk
  simp (disch := omega) only [up_ne]
  refine ⟨b1, b2, b3, b4, b5, fun k2 k0 k1 => ?_⟩
  by_cases e : 46 + 4 * i + k2 = 46 + 4 * f + k
  · rw [e, up_eq]; omega
  · rw [up_ne _ e]; exact b6 k2 k0 k1
set_option maxHeartbeats 1000000 in
theorem sitter_inv {z : zS} (h : Inv z) (p x : Int) : Inv (sitterZ z p x) := by
  obtain ⟨hP, hCn, hSe, hRu, hBk, hTp, h20, h21, h0, ho⟩ := id h
  obtain ⟨hF, hS, hR, h0a⟩ := id hP
  obtain ⟨n15, n16, n17, n18, n19⟩ := id hCn
  have h13 := hF.1
  have h14 := hS.1
  unfold sitterZ
  split
  · exact h
  split
  · exact h
  split
  · exact h
  refine h.upd (hF.same (by (simp (disch := omega) only [up_ne])) (fun j j0 j1 => by simp (disch := omega) only [up_ne])) ?_ (hSe.same (by (simp (disch := omega) only [up_ne])) (by (simp (disch := omega) only [up_ne, up_eq]); omega) (fun j j0 j1 => by simp (disch := omega) only [up_ne])) (hRu.same (by (simp (disch := omega) only [up_ne])) (by (simp (disch := omega) only [up_ne]); omega) (fun j j0 j1 => by simp (disch := omega) only [up_ne])) (hBk.same (by (simp (disch := omega) only [up_ne])) (by (simp (disch := omega) only [up_ne]); omega) (fun j j0 j1 => by simp (disch := omega) only [up_ne])) (hTp.same (fun j j0 j1 => by simp (disch := omega) only [up_ne])) (by (simp (disch := omega) only [up_ne])) (by (simp (disch := omega) only [up_ne])) (by (simp (disch := omega) only [up_ne]); omega) (by (simp (disch := omega) only [up_ne]); omega) (by (simp (disch := omega) only [up_ne]); omega) (fun j hj => by (simp (disch := omega) only [up_ne])) (fun j hj => by (simp (disch := omega) only [up_ne]))
  refine ⟨by rw [up_eq]; omega, fun i i0 i1 => ?_⟩
  obtain ⟨b1, b2, b3⟩ := hS.2 i i0 i1
  by_cases e : i = z 14
  · subst e; simp (disch := omega) only [up_ne, up_eq]; omega
  · simp (disch := omega) only [up_ne]; exact ⟨b1, b2, b3⟩
set_option maxHeartbeats 1000000 in
theorem move_inv {z : zS} (h : Inv z) (p x : Int) : Inv (moveZ z p x) := by
  obtain ⟨hP, hCn, hSe, hRu, hBk, hTp, h20, h21, h0, ho⟩ := id h
  obtain ⟨hF, hS, hR, h0a⟩ := id hP
  obtain ⟨n15, n16, n17, n18, n19⟩ := id hCn
  have h13 := hF.1
  have h14 := hS.1
  unfold moveZ
  split
  · exact h
  refine h.upd (hF.same (by (simp (disch := omega) only [up_ne])) (fun j j0 j1 => by simp (disch := omega) only [up_ne])) ((hP.sits (f := p) (a := x) (by omega) (by omega)).2.1) (hSe.same (by (simp (disch := omega) only [up_ne])) (by (simp (disch := omega) only [up_ne]); omega) (fun j j0 j1 => by simp (disch := omega) only [up_ne])) (hRu.same (by (simp (disch := omega) only [up_ne])) (by (simp (disch := omega) only [up_ne]); omega) (fun j j0 j1 => by simp (disch := omega) only [up_ne])) (hBk.same (by (simp (disch := omega) only [up_ne])) (by (simp (disch := omega) only [up_ne]); omega) (fun j j0 j1 => by simp (disch := omega) only [up_ne])) (hTp.same (fun j j0 j1 => by simp (disch := omega) only [up_ne])) (by (simp (disch := omega) only [up_ne])) (by (simp (disch := omega) only [up_ne])) (by (simp (disch := omega) only [up_ne]); omega) (by (simp (disch := omega) only [up_ne]); omega) (by (simp (disch := omega) only [up_ne]); omega) (fun j hj => by (simp (disch := omega) only [up_ne])) (fun j hj => by (simp (disch := omega) only [up_ne]))
set_option maxHeartbeats 1000000 in
theorem heat_inv {z : zS} (h : Inv z) (p x : Int) : Inv (heatZ z p x) := by
  obtain ⟨hP, hCn, hSe, hRu, hBk, hTp, h20, h21, h0, ho⟩ := id h
  obtain ⟨hF, hS, hR, h0a⟩ := id hP
  obtain ⟨n15, n16, n17, n18, n19⟩ := id hCn
  have h13 := hF.1
  have h14 := hS.1
  unfold heatZ
  split
  · exact h
  split
  · exact h
  refine h.upd (hF.same (by (simp (disch := omega) only [up_ne])) (fun j j0 j1 => by simp (disch := omega) only [up_ne])) ?_ (hSe.same (by (simp (disch := omega) only [up_ne])) (by (simp (disch := omega) only [up_ne]); omega) (fun j j0 j1 => by simp (disch := omega) only [up_ne])) (hRu.same (by (simp (disch := omega) only [up_ne])) (by (simp (disch := omega) only [up_ne]); omega) (fun j j0 j1 => by simp (disch := omega) only [up_ne])) (hBk.same (by (simp (disch := omega) only [up_ne])) (by (simp (disch := omega) only [up_ne]); omega) (fun j j0 j1 => by simp (disch := omega) only [up_ne])) (hTp.same (fun j j0 j1 => by simp (disch := omega) only [up_ne])) (by (simp (disch := omega) only [up_ne])) (by (simp (disch := omega) only [up_ne])) (by (simp (disch := omega) only [up_ne]); omega) (by (simp (disch := omega) only [up_ne]); omega) (by (simp (disch := omega) only [up_ne]); omega) (fun j hj => by (simp (disch := omega) only [up_ne])) (fun j hj => by (simp (disch := omega) only [up_ne]))
  refine ⟨by rw [up_ne _ (by omega)]; omega, fun i i0 i1 => ?_⟩
  obtain ⟨b1, b2, b3⟩ := hS.2 i i0 i1
  by_cases e : i = p
  · subst e; simp (disch := omega) only [up_ne, up_eq]; omega
  · simp (disch := omega) only [up_ne]; exact ⟨b1, b2, b3⟩
set_option maxHeartbeats 1000000 in
theorem flown_inv {z : zS} (h : Inv z) (b : Int) : Inv (flownZ z b) := by
  obtain ⟨hP, hCn, hSe, hRu, hBk, hTp, h20, h21, h0, ho⟩ := id h
  obtain ⟨hF, hS, hR, h0a⟩ := id hP
  obtain ⟨n15, n16, n17, n18, n19⟩ := id hCn
  have h13 := hF.1
  have h14 := hS.1
  unfold flownZ
  split
  · exact h
  refine h.upd (hF.same (by (simp (disch := omega) only [up_ne])) (fun j j0 j1 => by simp (disch := omega) only [up_ne])) (hS.same (by (simp (disch := omega) only [up_ne])) (fun j hj => by simp (disch := omega) only [up_ne])) (hSe.same (by (simp (disch := omega) only [up_ne])) (by (simp (disch := omega) only [up_ne]); omega) (fun j j0 j1 => by simp (disch := omega) only [up_ne])) (hRu.same (by (simp (disch := omega) only [up_ne])) (by (simp (disch := omega) only [up_ne]); omega) (fun j j0 j1 => by simp (disch := omega) only [up_ne])) (hBk.same (by (simp (disch := omega) only [up_ne])) (by (simp (disch := omega) only [up_ne]); omega) (fun j j0 j1 => by simp (disch := omega) only [up_ne])) (hTp.same (fun j j0 j1 => by simp (disch := omega) only [up_ne])) (by (simp (disch := omega) only [up_ne])) (by (simp (disch := omega) only [up_ne])) (by (simp (disch := omega) only [up_ne]); omega) (by rw [up_eq]; omega) (by (simp (disch := omega) only [up_ne]); omega) (fun j hj => by (simp (disch := omega) only [up_ne])) (fun j hj => by (simp (disch := omega) only [up_ne]))
set_option maxHeartbeats 1000000 in
theorem see_inv {z : zS} (h : Inv z) (p n x : Int) : Inv (seeZ z p n x) := by
  obtain ⟨hP, hCn, hSe, hRu, hBk, hTp, h20, h21, h0, ho⟩ := id h
  obtain ⟨hF, hS, hR, h0a⟩ := id hP
  obtain ⟨n15, n16, n17, n18, n19⟩ := id hCn
  have h13 := hF.1
  have h14 := hS.1
  unfold seeZ
  split
  · next c0 =>
    refine h.upd (hF.same (by (simp (disch := omega) only [up_ne])) (fun j j0 j1 => by simp (disch := omega) only [up_ne])) (hS.same (by (simp (disch := omega) only [up_ne])) (fun j hj => by simp (disch := omega) only [up_ne])) (⟨by rw [up_eq]; decide, fun i i0 i1 => by rw [up_eq] at i1; omega⟩) (hRu.same (by (simp (disch := omega) only [up_ne])) (by (simp (disch := omega) only [up_ne]); omega) (fun j j0 j1 => by simp (disch := omega) only [up_ne])) (hBk.same (by (simp (disch := omega) only [up_ne])) (by (simp (disch := omega) only [up_ne]); omega) (fun j j0 j1 => by simp (disch := omega) only [up_ne])) (hTp.same (fun j j0 j1 => by simp (disch := omega) only [up_ne])) (by (simp (disch := omega) only [up_ne])) (by (simp (disch := omega) only [up_ne])) (by (simp (disch := omega) only [up_ne]); omega) (by (simp (disch := omega) only [up_ne]); omega) (by (simp (disch := omega) only [up_ne]); omega) (fun j hj => by (simp (disch := omega) only [up_ne])) (fun j hj => by (simp (disch := omega) only [up_ne]))
  split
  · exact h
  split
  · exact h
  split
  · exact h
  refine h.upd (hF.same (by (simp (disch := omega) only [up_ne])) (fun j j0 j1 => by simp (disch := omega) only [up_ne])) (hS.same (by (simp (disch := omega) only [up_ne])) (fun j hj => by simp (disch := omega) only [up_ne])) ?_ (hRu.same (by (simp (disch := omega) only [up_ne])) (by (simp (disch := omega) only [up_ne]); omega) (fun j j0 j1 => by simp (disch := omega) only [up_ne])) (hBk.same (by (simp (disch := omega) only [up_ne])) (by (simp (disch := omega) only [up_ne]); omega) (fun j j0 j1 => by simp (disch := omega) only [up_ne])) (hTp.same (fun j j0 j1 => by simp (disch := omega) only [up_ne])) (by (simp (disch := omega) only [up_ne])) (by (simp (disch := omega) only [up_ne])) (by (simp (disch := omega) only [up_ne]); omega) (by (simp (disch := omega) only [up_ne]); omega) (by (simp (disch := omega) only [up_ne]); omega) (fun j hj => by (simp (disch := omega) only [up_ne])) (fun j hj => by (simp (disch := omega) only [up_ne]))
  refine ⟨by rw [up_eq]; omega, fun i i0 i1 => ?_⟩
  rw [up_eq] at i1
  by_cases e : i = z 16
  · subst e; simp (disch := omega) only [up_ne, up_eq]; omega
  · have := hSe.2 i i0 (by omega)
    simp (disch := omega) only [up_ne]; exact this
set_option maxHeartbeats 1000000 in
theorem rule_inv {z : zS} (h : Inv z) (f x : Int) : Inv (ruleZ z f x) := by
  obtain ⟨hP, hCn, hSe, hRu, hBk, hTp, h20, h21, h0, ho⟩ := id h
  obtain ⟨hF, hS, hR, h0a⟩ := id hP
  obtain ⟨n15, n16, n17, n18, n19⟩ := id hCn
  have h13 := hF.1
  have h14 := hS.1
  unfold ruleZ
  split
  · next c0 =>
    refine h.upd (hF.same (by (simp (disch := omega) only [up_ne])) (fun j j0 j1 => by simp (disch := omega) only [up_ne])) (hS.same (by (simp (disch := omega) only [up_ne])) (fun j hj => by simp (disch := omega) only [up_ne])) (hSe.same (by (simp (disch := omega) only [up_ne])) (by (simp (disch := omega) only [up_ne]); omega) (fun j j0 j1 => by simp (disch := omega) only [up_ne])) (⟨by rw [up_eq]; decide, fun i i0 i1 => by rw [up_eq] at i1; omega⟩) (hBk.same (by (simp (disch := omega) only [up_ne])) (by (simp (disch := omega) only [up_ne]); omega) (fun j j0 j1 => by simp (disch := omega) only [up_ne])) (hTp.same (fun j j0 j1 => by simp (disch := omega) only [up_ne])) (by (simp (disch := omega) only [up_ne])) (by (simp (disch := omega) only [up_ne])) (by (simp (disch := omega) only [up_ne]); omega) (by (simp (disch := omega) only [up_ne]); omega) (by (simp (disch := omega) only [up_ne]); omega) (fun j hj => by (simp (disch := omega) only [up_ne])) (fun j hj => by (simp (disch := omega) only [up_ne]))
  split
  · exact h
  split
  · exact h
  split
  · exact h
  refine h.upd (hF.same (by (simp (disch := omega) only [up_ne])) (fun j j0 j1 => by simp (disch := omega) only [up_ne])) (hS.same (by (simp (disch := omega) only [up_ne])) (fun j hj => by simp (disch := omega) only [up_ne])) (hSe.same (by (simp (disch := omega) only [up_ne])) (by (simp (disch := omega) only [up_ne]); omega) (fun j j0 j1 => by simp (disch := omega) only [up_ne])) ?_ (hBk.same (by (simp (disch := omega) only [up_ne])) (by (simp (disch := omega) only [up_ne]); omega) (fun j j0 j1 => by simp (disch := omega) only [up_ne])) (hTp.same (fun j j0 j1 => by simp (disch := omega) only [up_ne])) (by (simp (disch := omega) only [up_ne])) (by (simp (disch := omega) only [up_ne])) (by (simp (disch := omega) only [up_ne]); omega) (by (simp (disch := omega) only [up_ne]); omega) (by (simp (disch := omega) only [up_ne]); omega) (fun j hj => by (simp (disch := omega) only [up_ne])) (fun j hj => by (simp (disch := omega) only [up_ne]))
  refine ⟨by rw [up_eq]; omega, fun i i0 i1 => ?_⟩
  rw [up_eq] at i1
  by_cases e : i = z 17
  · subst e; simp (disch := omega) only [up_ne, up_eq]; omega
  · have := hRu.2 i i0 (by omega)
    simp (disch := omega) only [up_ne]; exact this
set_option maxHeartbeats 1000000 in
theorem book_inv {z : zS} (h : Inv z) (f x p : Int) : Inv (bookZ z f x p) := by
  obtain ⟨hP, hCn, hSe, hRu, hBk, hTp, h20, h21, h0, ho⟩ := id h
  obtain ⟨hF, hS, hR, h0a⟩ := id hP
  obtain ⟨n15, n16, n17, n18, n19⟩ := id hCn
  have h13 := hF.1
  have h14 := hS.1
  unfold bookZ
  split
  · next c0 =>
    refine h.upd (hF.same (by (simp (disch := omega) only [up_ne])) (fun j j0 j1 => by simp (disch := omega) only [up_ne])) (hS.same (by (simp (disch := omega) only [up_ne])) (fun j hj => by simp (disch := omega) only [up_ne])) (hSe.same (by (simp (disch := omega) only [up_ne])) (by (simp (disch := omega) only [up_ne]); omega) (fun j j0 j1 => by simp (disch := omega) only [up_ne])) (hRu.same (by (simp (disch := omega) only [up_ne])) (by (simp (disch := omega) only [up_ne]); omega) (fun j j0 j1 => by simp (disch := omega) only [up_ne])) (⟨by rw [up_eq]; decide, fun i i0 i1 => by rw [up_eq] at i1; omega⟩) (hTp.same (fun j j0 j1 => by simp (disch := omega) only [up_ne])) (by (simp (disch := omega) only [up_ne])) (by (simp (disch := omega) only [up_ne])) (by (simp (disch := omega) only [up_ne]); omega) (by (simp (disch := omega) only [up_ne]); omega) (by (simp (disch := omega) only [up_ne]); omega) (fun j hj => by (simp (disch := omega) only [up_ne])) (fun j hj => by (simp (disch := omega) only [up_ne]))
  split
  · exact h
  split
  · exact h
  split
  · exact h
  refine h.upd (hF.same (by (simp (disch := omega) only [up_ne])) (fun j j0 j1 => by simp (disch := omega) only [up_ne])) (hS.same (by (simp (disch := omega) only [up_ne])) (fun j hj => by simp (disch := omega) only [up_ne])) (hSe.same (by (simp (disch := omega) only [up_ne])) (by (simp (disch := omega) only [up_ne]); omega) (fun j j0 j1 => by simp (disch := omega) only [up_ne])) (hRu.same (by (simp (disch := omega) only [up_ne])) (by (simp (disch := omega) only [up_ne]); omega) (fun j j0 j1 => by simp (disch := omega) only [up_ne])) ?_ (hTp.same (fun j j0 j1 => by simp (disch := omega) only [up_ne])) (by (simp (disch := omega) only [up_ne])) (by (simp (disch := omega) only [up_ne])) (by (simp (disch := omega) only [up_ne]); omega) (by (simp (disch := omega) only [up_ne]); omega) (by (simp (disch := omega) only [up_ne]); omega) (fun j hj => by (simp (disch := omega) only [up_ne])) (fun j hj => by (simp (disch := omega) only [up_ne]))
  refine ⟨by rw [up_eq]; omega, fun i i0 i1 => ?_⟩
  rw [up_eq] at i1
  by_cases e : i = z 18
  · subst e; simp (disch := omega) only [up_ne, up_eq]; omega
  · have := hBk.2 i i0 (by omega)
    simp (disch := omega) only [up_ne]; exact this
set_option maxHeartbeats 1000000 in
theorem turn_inv {z : zS} (h : Inv z) (f a b c : Int) : Inv (turnZ z f a b c) := by
  obtain ⟨hP, hCn, hSe, hRu, hBk, hTp, h20, h21, h0, ho⟩ := id h
  obtain ⟨hF, hS, hR, h0a⟩ := id hP
  obtain ⟨n15, n16, n17, n18, n19⟩ := id hCn
  have h13 := hF.1
  have h14 := hS.1
  unfold turnZ
  split
  · exact h
  split
  · exact h
  show Inv (up (setY z f a b) (38 + f) c)
  refine h.upd (((hP.set (f := f) (a := a) (b := b) (by omega) (by omega)).pace (f := f) (a := c) (by omega) (by omega)).1) (hS.same (by (unfold setY; simp (disch := omega) only [up_ne])) (fun j hj => by unfold setY; simp (disch := omega) only [up_ne])) (hSe.same (by (unfold setY; simp (disch := omega) only [up_ne])) (by (unfold setY; simp (disch := omega) only [up_ne]); omega) (fun j j0 j1 => by unfold setY; simp (disch := omega) only [up_ne])) (hRu.same (by (unfold setY; simp (disch := omega) only [up_ne])) (by (unfold setY; simp (disch := omega) only [up_ne]); omega) (fun j j0 j1 => by unfold setY; simp (disch := omega) only [up_ne])) (hBk.same (by (unfold setY; simp (disch := omega) only [up_ne])) (by (unfold setY; simp (disch := omega) only [up_ne]); omega) (fun j j0 j1 => by unfold setY; simp (disch := omega) only [up_ne])) (hTp.same (fun j j0 j1 => by unfold setY; simp (disch := omega) only [up_ne])) (by (unfold setY; simp (disch := omega) only [up_ne])) (by (unfold setY; simp (disch := omega) only [up_ne])) (by (unfold setY; simp (disch := omega) only [up_ne]); omega) (by (unfold setY; simp (disch := omega) only [up_ne]); omega) (by (unfold setY; simp (disch := omega) only [up_ne]); omega) (fun j hj => by (unfold setY; simp (disch := omega) only [up_ne])) (fun j hj => by (unfold setY; simp (disch := omega) only [up_ne]))
set_option maxHeartbeats 1000000 in
theorem go_inv {z : zS} (h : Inv z) (n : Int) : Inv (goZ z n) := by
  obtain ⟨hP, hCn, hSe, hRu, hBk, hTp, h20, h21, h0, ho⟩ := id h
  obtain ⟨hF, hS, hR, h0a⟩ := id hP
  obtain ⟨n15, n16, n17, n18, n19⟩ := id hCn
  have h13 := hF.1
  have h14 := hS.1
  unfold goZ
  split
  · exact h
  split
  · exact h
  next hn hk =>
  obtain ⟨p1, p2, p3⟩ := play_pl hP n.toNat (by omega)
  have e : ∀ j, (13 ≤ j ∨ j < 0) → playF z n.toNat j = z j := p3
  exact h.upd p1.1 p1.2.1 (hSe.same (e 16 (by decide)) (by rw [e 14 (by decide)]; omega) (fun j j0 j1 => e j (by omega))) (hRu.same (e 17 (by decide)) (by rw [e 13 (by decide)]; omega) (fun j j0 j1 => e j (by omega))) (hBk.same (e 18 (by decide)) (by rw [e 13 (by decide)]; omega) (fun j j0 j1 => e j (by omega))) (hTp.same (fun j j0 j1 => e j (by omega))) (e 15 (by decide)) (e 20 (by decide)) (by rw [e 19 (by decide)]; exact n19) (by rw [e 21 (by decide)]; exact h21) (by rw [p2]; omega) (fun j hj => e j (by omega)) (fun j hj => e j (by omega))
set_option maxHeartbeats 1000000 in
theorem fan_inv {z : zS} (h : Inv z) (kd v a b c : Int) : Inv (fanZ z kd v a b c) := by
  obtain ⟨hP, hCn, hSe, hRu, hBk, hTp, h20, h21, h0, ho⟩ := id h
  obtain ⟨hF, hS, hR, h0a⟩ := id hP
  obtain ⟨n15, n16, n17, n18, n19⟩ := id hCn
  have h13 := hF.1
  have h14 := hS.1
  unfold fanZ
  split
  · exact h
  split
  · exact h
  split
  · exact h
  next k1 k2 k3 =>
  have e : ∀ j, j ≠ 13 → (j < 22 ∨ 62 ≤ j) → up (row0F (y0F z kd v a b c) (z 13) 4) 13 (z 13 + 1) j = z j := fun j j1 j2 => by
    rw [up_ne _ j1, row0F_o _ _ 4 (by omega)]
    unfold y0F; simp (disch := omega) only [up_ne]
  have e13 : up (row0F (y0F z kd v a b c) (z 13) 4) 13 (z 13 + 1) 13 = z 13 + 1 := up_eq _ _ _
  refine h.upd ?_ (hS.same (e 14 (by decide) (by decide)) (fun j hj => e j (by omega) (by omega))) (hSe.same (e 16 (by decide) (by decide)) (by rw [e 14 (by decide) (by decide)]; omega) (fun j j0 j1 => e j (by omega) (by omega))) (hRu.same (e 17 (by decide) (by decide)) (by rw [e13]; omega) (fun j j0 j1 => e j (by omega) (by omega))) (hBk.same (e 18 (by decide) (by decide)) (by rw [e13]; omega) (fun j j0 j1 => e j (by omega) (by omega))) (hTp.same (fun j j0 j1 => e j (by omega) (by omega))) (e 15 (by decide) (by decide)) (e 20 (by decide) (by decide)) (by rw [e 19 (by decide) (by decide)]; exact n19) (by rw [e 21 (by decide) (by decide)]; exact h21) (by rw [e 0 (by decide) (by decide)]; omega) (fun j hj => e j (by omega) (by omega)) (fun j hj => e j (by omega) (by omega))
  refine ⟨by rw [e13]; omega, fun i i0 i1 => ?_⟩
  rw [e13] at i1
  unfold FanOk
  by_cases hi : i = z 13
  · subst hi
    have hlo : ∀ j, j ≠ 13 → j < 46 → up (row0F (y0F z kd v a b c) (z 13) 4) 13 (z 13 + 1) j = y0F z kd v a b c j := fun j j1 j2 => by rw [up_ne _ j1, row0F_o _ _ 4 (by omega)]
    rw [hlo _ (by omega) (by omega), hlo _ (by omega) (by omega), hlo _ (by omega) (by omega), hlo _ (by omega) (by omega), hlo _ (by omega) (by omega), hlo _ (by omega) (by omega)]
    refine ⟨?_, ?_, ?_, ?_, ?_, fun k q0 q1 => ?_⟩
    · unfold y0F; simp (disch := omega) only [up_ne, up_eq]; omega
    · unfold y0F; simp (disch := omega) only [up_ne, up_eq]; omega
    · unfold y0F; simp (disch := omega) only [up_ne, up_eq]; omega
    · unfold y0F; simp (disch := omega) only [up_ne, up_eq]; omega
    · unfold y0F; rw [up_eq]; exact Or.inr rfl
    · rw [up_ne _ (by omega), row0F_i _ _ k q0 4 (by omega)]; decide
  · have hs : ∀ j, j ≠ 13 → j ≠ 22 + z 13 → j ≠ 26 + z 13 → j ≠ 30 + z 13 → j ≠ 34 + z 13 → j ≠ 38 + z 13 → j ≠ 42 + z 13 → (j < 46 + 4 * z 13 ∨ 46 + 4 * z 13 + 4 ≤ j) → up (row0F (y0F z kd v a b c) (z 13) 4) 13 (z 13 + 1) j = z j := fun j j1 j2 j3 j4 j5 j6 j7 j8 => by
      rw [up_ne _ j1, row0F_o _ _ 4 (by omega)]
      unfold y0F; simp (disch := omega) only [up_ne]
    obtain ⟨b1, b2, b3, b4, b5, b6⟩ := hF.2 i i0 (by omega)
    have hs2 : ∀ w : Int, (w = 22 ∨ w = 26 ∨ w = 30 ∨ w = 34 ∨ w = 38 ∨ w = 42) → up (row0F (y0F z kd v a b c) (z 13) 4) 13 (z 13 + 1) (w + i) = z (w + i) := fun w hw => hs _ (by omega) (by omega) (by omega) (by omega) (by omega) (by omega) (by omega) (by omega)
    rw [hs2 22 (by decide), hs2 26 (by decide), hs2 30 (by decide), hs2 34 (by decide), hs2 38 (by decide), hs2 42 (by decide)]
    exact ⟨b1, b2, b3, b4, b5, fun k q0 q1 => by rw [hs _ (by omega) (by omega) (by omega) (by omega) (by omega) (by omega) (by omega) (by omega)]; exact b6 k q0 q1⟩
set_option maxHeartbeats 1000000 in
theorem room_inv {z : zS} (h : Inv z) (hr : RoomOk (roomZ z)) : Inv (roomZ z) := by
  obtain ⟨hP, hCn, hSe, hRu, hBk, hTp, h20, h21, h0, ho⟩ := id h
  obtain ⟨hF, hS, hR, h0a⟩ := id hP
  obtain ⟨n15, n16, n17, n18, n19⟩ := id hCn
  have h13 := hF.1
  have h14 := hS.1
  by_cases h5 : z 15 = 5
  · have : roomZ z = z := by unfold roomZ; rw [if_pos h5]
    rw [this]; exact h
  obtain ⟨o19, olo, ohi⟩ := rmT_o (by omega) n19 hTp
  have hof := (rmT_fr (by omega) n19 hTp).1
  have hout : ∀ j, (j < 0 ∨ 943 ≤ j) → (rmT z).2.2.2 j = 0 := fun j hj => by
    rw [hof j (by omega) (by omega) (by omega) (by omega) (by omega) (by omega)]
    unfold rmR0; simp (disch := omega) only [up_ne]; exact ho j hj
  obtain ⟨z1, hz1⟩ : ∃ z1, z1 = roomZ z := ⟨_, rfl⟩
  rw [← hz1] at hr ⊢
  have key : (∀ j, j ≠ 15 → j ≠ 19 → j ≠ 20 → j < 218 → z1 j = z j) ∧ z1 19 = 0 ∧ (∀ j, (j < 0 ∨ 943 ≤ j) → z1 j = 0) ∧ ((z1 15 = z 15 ∧ z1 20 = z 20) ∨ (z1 15 = z 15 + 1 ∧ z1 20 = z 15)) := by
    unfold roomZ at hz1
    rw [if_neg h5] at hz1
    by_cases c : (rmT z).2.1 ≠ 0 ∨ (rmT z).1 ≠ z 19
    · rw [if_pos c] at hz1
      rw [hz1]
      exact ⟨fun j j1 j2 j3 j4 => olo j j2 j4, o19, hout, Or.inl ⟨olo 15 (by decide) (by decide), olo 20 (by decide) (by decide)⟩⟩
    · rw [if_neg c] at hz1
      rw [hz1]
      refine ⟨fun j j1 j2 j3 j4 => by rw [up_ne _ j3, up_ne _ j1]; exact olo j j2 j4, by rw [up_ne _ (by decide), up_ne _ (by decide)]; exact o19, fun j hj => by rw [up_ne _ (by omega), up_ne _ (by omega)]; exact hout j hj, Or.inr ⟨by rw [up_ne _ (by decide), up_eq, olo 15 (by decide) (by decide)], up_eq _ _ _⟩⟩
  obtain ⟨e, e19, eo, e1520⟩ := key
  have e' : ∀ j, j < 15 → z1 j = z j := fun j hj => e j (by omega) (by omega) (by omega) (by omega)
  have e2 : ∀ j, 21 ≤ j → j < 218 → z1 j = z j := fun j hj hj2 => e j (by omega) (by omega) (by omega) hj2
  refine ⟨⟨hF.same (e' 13 (by decide)) (fun j j0 j1 => e2 j (by omega) (by omega)), hS.same (e' 14 (by decide)) (fun j hj => e j (by omega) (by omega) (by omega) (by omega)), hr, by rw [e' 0 (by decide)]; exact h0a⟩, ?_, ?_, ?_, ?_, hTp.same (fun j j0 j1 => e2 j (by omega) (by omega)), by omega, by rw [e2 21 (by decide) (by decide)]; exact h21, by rw [e' 0 (by decide)]; exact h0, eo⟩
  · unfold Cn
    rw [e 16 (by decide) (by decide) (by decide) (by decide), e 17 (by decide) (by decide) (by decide) (by decide), e 18 (by decide) (by decide) (by decide) (by decide)]
    exact ⟨by omega, n16, n17, n18, by omega⟩
  · exact hSe.same (e 16 (by decide) (by decide) (by decide) (by decide)) (by rw [e' 14 (by decide)]; omega) (fun j j0 j1 => e2 j (by omega) (by omega))
  · exact hRu.same (e 17 (by decide) (by decide) (by decide) (by decide)) (by rw [e' 13 (by decide)]; omega) (fun j j0 j1 => e2 j (by omega) (by omega))
  · exact hBk.same (e 18 (by decide) (by decide) (by decide) (by decide)) (by rw [e' 13 (by decide)]; omega) (fun j j0 j1 => e2 j (by omega) (by omega))