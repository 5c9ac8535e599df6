/-! YOUR PART: whole_start -/
theorem whole_start {p : Program} {e : Env} {s : State} {m : MethodId} {below : List Frame} {meth : Method} {c : Code} (l : Launch) (hflags : l.flags = flags0) {b L : Nat} {xs : Nat → Int32} (hL : L ≤ 3072) (C0 : lw_At p s m meth c b L xs) : W p l e room_1 s m #[Value.ref b] below meth c s.heap [] 0 0 (lw_Z below #[Value.ref b] s) (entryFrame m ([Value.ref b] : List Value).toArray 4) := by
  obtain ⟨hx, hb, hr, hml, hown, hts, hX, hbl, hlocks, hgv⟩ := id C0
  obtain ⟨E, rfl, h0, h62, hK, hS⟩ := lw_world hts hgv l b
  have htw : ∀ w ∈ TW, w.before #[Value.ref b] s = true := fun w hw => hts w (List.mem_filter.mp hw).1
  have hl := lv_entry ([.ref b]) (n := 4) (Nat.le_of_ble_eq_true rfl)
  rw [lg_entry_eq]
  generalize (lg_sl ([.ref b]) ++ List.replicate (4 - (lg_sl ([.ref b])).length) Slot.unset).toArray = ls at hl ⊢
  have e1 : rn E (.float 126) = .ref b := by rw [← h62]; rfl
  refine W.down (R := { frames := 1312, cells := 600000, slots := 7302250, locals := 64 * 1312 }) (Nat.le_of_ble_eq_true rfl) (Nat.le_of_ble_eq_true rfl) (Nat.le_of_ble_eq_true rfl) (Nat.le_of_ble_eq_true rfl) ?_
  have hC : XC E p { frames := 1312, cells := 600000, slots := 7302250, locals := 64 * 1312 } s m #[Value.ref b] meth c cL_law RL ret 4 := ⟨hx, hb, hml, hown, htw, hK, hS, hr, hlocks⟩
  refine lw_first hC ⟨rfl, rfl, rfl, rfl⟩ hX hbl h62 h0 hL (fun _ _ => 0) (fun _ _ => none) s.heap [] ls ⟨by rw [h0]; rfl, fun i kd h => by simp at h⟩ va_S.rf ⟨by rw [hl.1]; rfl, hl.2.1, fun i v hv => ?_⟩
  match i, hv with
  | 0, hv =>
    cases hv
    rw [e1]
    exact hl.2.2 (0, .ref b) (by simp [lv_args])
  | 1, hv => cases hv
  | 2, hv => cases hv
  | 3, hv => cases hv
  | i + 4, hv => cases hv
