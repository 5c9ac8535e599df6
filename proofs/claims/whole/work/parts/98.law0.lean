/-! what the calls leave of the fans' kinds -/
theorem feed_13 {z : zS} (hP : PlOk z) (hCn : Cn z) (x : Int) : feedZ z x 13 = z 13 := by
  have h13 := hP.1.1
  have h14 := hP.2.1.1
  obtain ⟨n15, n16, n17, n18, n19⟩ := hCn
  unfold feedZ
  repeat (first | (split; · simp (disch := omega) only [up_ne]) | (split; · rfl))
  simp (disch := omega) only [up_ne]
theorem feed_22 {z : zS} (hP : PlOk z) (hCn : Cn z) {g : Int} (g0 : 0 ≤ g) (g1 : g < 4) (x : Int) : feedZ z x (22 + g) = z (22 + g) := by
  have h13 := hP.1.1
  have h14 := hP.2.1.1
  obtain ⟨n15, n16, n17, n18, n19⟩ := hCn
  unfold feedZ
  repeat (first | (split; · simp (disch := omega) only [up_ne]) | (split; · rfl))
  simp (disch := omega) only [up_ne]
theorem turn_13 {z : zS} (hP : PlOk z) (hCn : Cn z) (f a b c : Int) : turnZ z f a b c 13 = z 13 := by
  have h13 := hP.1.1
  have h14 := hP.2.1.1
  obtain ⟨n15, n16, n17, n18, n19⟩ := hCn
  unfold turnZ turnY
  repeat (first | (split; · simp (disch := omega) only [up_ne]) | (split; · rfl))
  simp (disch := omega) only [up_ne]
theorem turn_22 {z : zS} (hP : PlOk z) (hCn : Cn z) {g : Int} (g0 : 0 ≤ g) (g1 : g < 4) (f a b c : Int) : turnZ z f a b c (22 + g) = z (22 + g) := by
  have h13 := hP.1.1
  have h14 := hP.2.1.1
  obtain ⟨n15, n16, n17, n18, n19⟩ := hCn
  unfold turnZ turnY
  repeat (first | (split; · simp (disch := omega) only [up_ne]) | (split; · rfl))
  simp (disch := omega) only [up_ne]
theorem on_13 {z : zS} (hP : PlOk z) (hCn : Cn z) (f b : Int) : onZ z f b 13 = z 13 := by
  have h13 := hP.1.1
  have h14 := hP.2.1.1
  obtain ⟨n15, n16, n17, n18, n19⟩ := hCn
  unfold onZ
  repeat (first | (split; · simp (disch := omega) only [up_ne]) | (split; · rfl))
  simp (disch := omega) only [up_ne]
theorem on_22 {z : zS} (hP : PlOk z) (hCn : Cn z) {g : Int} (g0 : 0 ≤ g) (g1 : g < 4) (f b : Int) : onZ z f b (22 + g) = z (22 + g) := by
  have h13 := hP.1.1
  have h14 := hP.2.1.1
  obtain ⟨n15, n16, n17, n18, n19⟩ := hCn
  unfold onZ
  repeat (first | (split; · simp (disch := omega) only [up_ne]) | (split; · rfl))
  simp (disch := omega) only [up_ne]
theorem row_13 {z : zS} (hP : PlOk z) (hCn : Cn z) (f k n : Int) : rowZ z f k n 13 = z 13 := by
  have h13 := hP.1.1
  have h14 := hP.2.1.1
  obtain ⟨n15, n16, n17, n18, n19⟩ := hCn
  unfold rowZ
  repeat (first | (split; · simp (disch := omega) only [up_ne]) | (split; · rfl))
  simp (disch := omega) only [up_ne]
theorem row_22 {z : zS} (hP : PlOk z) (hCn : Cn z) {g : Int} (g0 : 0 ≤ g) (g1 : g < 4) (f k n : Int) : rowZ z f k n (22 + g) = z (22 + g) := by
  have h13 := hP.1.1
  have h14 := hP.2.1.1
  obtain ⟨n15, n16, n17, n18, n19⟩ := hCn
  unfold rowZ
  repeat (first | (split; · simp (disch := omega) only [up_ne]) | (split; · rfl))
  simp (disch := omega) only [up_ne]
theorem sitter_13 {z : zS} (hP : PlOk z) (hCn : Cn z) (p x : Int) : sitterZ z p x 13 = z 13 := by
  have h13 := hP.1.1
  have h14 := hP.2.1.1
  obtain ⟨n15, n16, n17, n18, n19⟩ := hCn
  unfold sitterZ
  repeat (first | (split; · simp (disch := omega) only [up_ne]) | (split; · rfl))
  simp (disch := omega) only [up_ne]
theorem sitter_22 {z : zS} (hP : PlOk z) (hCn : Cn z) {g : Int} (g0 : 0 ≤ g) (g1 : g < 4) (p x : Int) : sitterZ z p x (22 + g) = z (22 + g) := by
  have h13 := hP.1.1
  have h14 := hP.2.1.1
  obtain ⟨n15, n16, n17, n18, n19⟩ := hCn
  unfold sitterZ
  repeat (first | (split; · simp (disch := omega) only [up_ne]) | (split; · rfl))
  simp (disch := omega) only [up_ne]
theorem move_13 {z : zS} (hP : PlOk z) (hCn : Cn z) (p x : Int) : moveZ z p x 13 = z 13 := by
  have h13 := hP.1.1
  have h14 := hP.2.1.1
  obtain ⟨n15, n16, n17, n18, n19⟩ := hCn
  unfold moveZ
  repeat (first | (split; · simp (disch := omega) only [up_ne]) | (split; · rfl))
  simp (disch := omega) only [up_ne]
theorem move_22 {z : zS} (hP : PlOk z) (hCn : Cn z) {g : Int} (g0 : 0 ≤ g) (g1 : g < 4) (p x : Int) : moveZ z p x (22 + g) = z (22 + g) := by
  have h13 := hP.1.1
  have h14 := hP.2.1.1
  obtain ⟨n15, n16, n17, n18, n19⟩ := hCn
  unfold moveZ
  repeat (first | (split; · simp (disch := omega) only [up_ne]) | (split; · rfl))
  simp (disch := omega) only [up_ne]
theorem heat_13 {z : zS} (hP : PlOk z) (hCn : Cn z) (p x : Int) : heatZ z p x 13 = z 13 := by
  have h13 := hP.1.1
  have h14 := hP.2.1.1
  obtain ⟨n15, n16, n17, n18, n19⟩ := hCn
  unfold heatZ
  repeat (first | (split; · simp (disch := omega) only [up_ne]) | (split; · rfl))
  simp (disch := omega) only [up_ne]
theorem heat_22 {z : zS} (hP : PlOk z) (hCn : Cn z) {g : Int} (g0 : 0 ≤ g) (g1 : g < 4) (p x : Int) : heatZ z p x (22 + g) = z (22 + g) := by
  have h13 := hP.1.1
  have h14 := hP.2.1.1
  obtain ⟨n15, n16, n17, n18, n19⟩ := hCn
  unfold heatZ
  repeat (first | (split; · simp (disch := omega) only [up_ne]) | (split; · rfl))
  simp (disch := omega) only [up_ne]
theorem flown_13 {z : zS} (hP : PlOk z) (hCn : Cn z) (b : Int) : flownZ z b 13 = z 13 := by
  have h13 := hP.1.1
  have h14 := hP.2.1.1
  obtain ⟨n15, n16, n17, n18, n19⟩ := hCn
  unfold flownZ
  repeat (first | (split; · simp (disch := omega) only [up_ne]) | (split; · rfl))
  simp (disch := omega) only [up_ne]
theorem flown_22 {z : zS} (hP : PlOk z) (hCn : Cn z) {g : Int} (g0 : 0 ≤ g) (g1 : g < 4) (b : Int) : flownZ z b (22 + g) = z (22 + g) := by
  have h13 := hP.1.1
  have h14 := hP.2.1.1
  obtain ⟨n15, n16, n17, n18, n19⟩ := hCn
  unfold flownZ
  repeat (first | (split; · simp (disch := omega) only [up_ne]) | (split; · rfl))
  simp (disch := omega) only [up_ne]
theorem see_13 {z : zS} (hP : PlOk z) (hCn : Cn z) (p n x : Int) : seeZ z p n x 13 = z 13 := by
  have h13 := hP.1.1
  have h14 := hP.2.1.1
  obtain ⟨n15, n16, n17, n18, n19⟩ := hCn
  unfold seeZ
  repeat (first | (split; · simp (disch := omega) only [up_ne]) | (split; · rfl))
  simp (disch := omega) only [up_ne]
theorem see_22 {z : zS} (hP : PlOk z) (hCn : Cn z) {g : Int} (g0 : 0 ≤ g) (g1 : g < 4) (p n x : Int) : seeZ z p n x (22 + g) = z (22 + g) := by
  have h13 := hP.1.1
  have h14 := hP.2.1.1
  obtain ⟨n15, n16, n17, n18, n19⟩ := hCn
  unfold seeZ
  repeat (first | (split; · simp (disch := omega) only [up_ne]) | (split; · rfl))
  simp (disch := omega) only [up_ne]
theorem rule_13 {z : zS} (hP : PlOk z) (hCn : Cn z) (f x : Int) : ruleZ z f x 13 = z 13 := by
  have h13 := hP.1.1
  have h14 := hP.2.1.1
  obtain ⟨n15, n16, n17, n18, n19⟩ := hCn
  unfold ruleZ
  repeat (first | (split; · simp (disch := omega) only [up_ne]) | (split; · rfl))
  simp (disch := omega) only [up_ne]
theorem rule_22 {z : zS} (hP : PlOk z) (hCn : Cn z) {g : Int} (g0 : 0 ≤ g) (g1 : g < 4) (f x : Int) : ruleZ z f x (22 + g) = z (22 + g) := by
  have h13 := hP.1.1
  have h14 := hP.2.1.1
  obtain ⟨n15, n16, n17, n18, n19⟩ := hCn
  unfold ruleZ
  repeat (first | (split; · simp (disch := omega) only [up_ne]) | (split; · rfl))
  simp (disch := omega) only [up_ne]
theorem book_13 {z : zS} (hP : PlOk z) (hCn : Cn z) (f x p : Int) : bookZ z f x p 13 = z 13 := by
  have h13 := hP.1.1
  have h14 := hP.2.1.1
  obtain ⟨n15, n16, n17, n18, n19⟩ := hCn
  unfold bookZ
  repeat (first | (split; · simp (disch := omega) only [up_ne]) | (split; · rfl))
  simp (disch := omega) only [up_ne]
theorem book_22 {z : zS} (hP : PlOk z) (hCn : Cn z) {g : Int} (g0 : 0 ≤ g) (g1 : g < 4) (f x p : Int) : bookZ z f x p (22 + g) = z (22 + g) := by
  have h13 := hP.1.1
  have h14 := hP.2.1.1
  obtain ⟨n15, n16, n17, n18, n19⟩ := hCn
  unfold bookZ
  repeat (first | (split; · simp (disch := omega) only [up_ne]) | (split; · rfl))
  simp (disch := omega) only [up_ne]
theorem go_13 {z : zS} (hP : PlOk z) (hCn : Cn z) (n : Int) : goZ z n 13 = z 13 := by
  unfold goZ; split
  · rfl
  · split
    · rfl
    · exact (play_pl hP n.toNat (by have := hP.2.2.2; omega)).2.2 13 (by decide)
theorem go_22 {z : zS} (hP : PlOk z) (hCn : Cn z) {g : Int} (g0 : 0 ≤ g) (g1 : g < 4) (n : Int) : goZ z n (22 + g) = z (22 + g) := by
  unfold goZ; split
  · rfl
  · split
    · rfl
    · exact (play_pl hP n.toNat (by have := hP.2.2.2; omega)).2.2 (22 + g) (by omega)