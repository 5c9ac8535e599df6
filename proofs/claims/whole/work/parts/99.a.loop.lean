/-! THE LAW'S LOOP -/
set_option maxHeartbeats 4000000 in
set_option maxRecDepth 100000 in
theorem lw_loop {E : xE} {p : Program} {e : Env} {R : Room} {s : State} {m : MethodId} {below : List Frame} {meth : Method} {c : Code} {b L : Nat} (hC : XC E p R s m #[Value.ref b] meth c cL_law RL ret 4) (hR : xRm R 1312 600000 7302250) {xs : Nat → Int32} (hX : va_X b L xs s s.heap) (hbl : b < s.heap.size) (h62 : E.2.2.2.2.2 62 = b) (h0 : E.2.2.2.1 = s.heap.size) (hL : L ≤ 3072) : ∀ (n : Nat) (i : Int) (t kc ns : Nat) (σ : xM) (ρ : xR) (ks : xKs) (z : zS), i = 6 * t → t + n = 513 → kc ≤ 100 + 8 * t → ns ≤ 4000 + 200 * t → σ 47 = z → LH σ ρ ks z → X E p e R s m #[Value.ref b] below meth c (lw_Z below #[Value.ref b] s) kc ns σ ρ ks 18 [some (.float 126), some (.ref 0), some (.ref 46), some (.int (iI i))] [] := by
  intro n
  induction n with
  | zero =>
    intro i t kc ns σ ρ ks z hi ht hkc hns hz47 hLH
    have h0i : 0 ≤ i := by omega
    refine x_iload_n (pc := 18) hC dL_law_18 rfl ?_
    refine x_aloadS_n (pc := 19) hC dL_law_19 rfl ?_
    refine x_sclen (pc := 20) hC hX hbl h62 h0 (by omega) dL_law_20 ?_
    refine x_bipush (pc := 21) hC dL_law_21 (by decide +kernel) ?_
    refine x_isub (pc := 23) hC dL_law_23 ?_
    refine x_icmp_gt (tgt := 1640) (pc := 24) hC (by omega) (by omega) dL_law_24 (by decide) (fun c24 => ?_) (fun c24 => by (exfalso; omega))
    refine x_iconst (pc := 1640) hC dL_law_1640 ?_
    exact x_lawret hC h0 (by omega) (by omega) dL_law_1641
  | succ n ih =>
    intro i t kc ns σ ρ ks z hi ht hkc hns hz47 hLH
    have h0i : 0 ≤ i := by omega
    refine x_iload_n (pc := 18) hC dL_law_18 rfl ?_
    refine x_aloadS_n (pc := 19) hC dL_law_19 rfl ?_
    refine x_sclen (pc := 20) hC hX hbl h62 h0 (by omega) dL_law_20 ?_
    refine x_bipush (pc := 21) hC dL_law_21 (by decide +kernel) ?_
    refine x_isub (pc := 23) hC dL_law_23 ?_
    refine x_icmp_gt (tgt := 1640) (pc := 24) hC (by omega) (by omega) dL_law_24 (by decide) (fun c24 => ?_) (fun c24 => ?_)
    · refine x_iconst (pc := 1640) hC dL_law_1640 ?_
      exact x_lawret hC h0 (by omega) (by omega) dL_law_1641
    · refine x_aloadS_n (pc := 27) hC dL_law_27 rfl ?_
      refine x_iload_n (pc := 28) hC dL_law_28 rfl ?_
      refine x_sld (pc := 29) hC hX hbl h62 h0 (by omega) (by omega) dL_law_29 ?_
      refine x_bipush (pc := 30) hC dL_law_30 (by decide +kernel) ?_
      refine x_iand (pc := 32) hC dL_law_32 ?_
      have K : ∀ (σ' : xM) (ρ' : xR) (ks' : xKs) (z' : zS) (kc' ns' : Nat), kc' ≤ kc + 8 → ns' ≤ ns + 200 → σ' 47 = z' → LH σ' ρ' ks' z' → X E p e R s m #[Value.ref b] below meth c (lw_Z below #[Value.ref b] s) kc' ns' σ' ρ' ks' 1634 [some (.float 126), some (.ref 0), some (.ref 46), some (.int (iI i))] [] := by
        intro σ' ρ' ks' z' kc' ns' hk' hn' hz' hH'
        refine x_iinc (L' := [_, _, _, _]) (pc := 1634) hC dL_law_1634 rfl rfl rfl ?_
        refine x_goto (tgt := 18) (pc := 1637) hC dL_law_1637 (by decide) ?_
        exact ih (i + 6) (t + 1) _ _ _ _ _ _ (by omega) (by omega) (by omega) (by omega) hz' hH'
      have hrb : rg (bAnd (sc xs i) 63) := rg_of _
      have csw : bAnd (sc xs i) 63 = 0 ∨ bAnd (sc xs i) 63 = 1 ∨ bAnd (sc xs i) 63 = 2 ∨ bAnd (sc xs i) 63 = 3 ∨ bAnd (sc xs i) 63 = 4 ∨ bAnd (sc xs i) 63 = 5 ∨ bAnd (sc xs i) 63 = 6 ∨ bAnd (sc xs i) 63 = 7 ∨ bAnd (sc xs i) 63 = 8 ∨ bAnd (sc xs i) 63 = 9 ∨ bAnd (sc xs i) 63 = 10 ∨ bAnd (sc xs i) 63 = 11 ∨ bAnd (sc xs i) 63 = 12 ∨ bAnd (sc xs i) 63 = 13 ∨ bAnd (sc xs i) 63 = 14 ∨ bAnd (sc xs i) 63 = 15 ∨ bAnd (sc xs i) 63 = 16 ∨ bAnd (sc xs i) 63 = 17 ∨ bAnd (sc xs i) 63 = 18 ∨ bAnd (sc xs i) 63 = 19 ∨ bAnd (sc xs i) 63 = 20 ∨ bAnd (sc xs i) 63 = 21 ∨ bAnd (sc xs i) 63 = 22 ∨ bAnd (sc xs i) 63 = 23 ∨ bAnd (sc xs i) 63 = 24 ∨ bAnd (sc xs i) 63 = 25 ∨ bAnd (sc xs i) 63 = 26 ∨ bAnd (sc xs i) 63 = 27 ∨ bAnd (sc xs i) 63 = 28 ∨ bAnd (sc xs i) 63 = 29 ∨ bAnd (sc xs i) 63 = 30 ∨ bAnd (sc xs i) 63 = 31 ∨ bAnd (sc xs i) 63 = 32 ∨ bAnd (sc xs i) 63 = 33 ∨ bAnd (sc xs i) 63 = 34 ∨ bAnd (sc xs i) 63 = 35 ∨ bAnd (sc xs i) 63 = 36 ∨ bAnd (sc xs i) 63 = 37 ∨ bAnd (sc xs i) 63 = 38 ∨ bAnd (sc xs i) 63 = 39 ∨ bAnd (sc xs i) 63 = 40 ∨ bAnd (sc xs i) 63 = 41 ∨ bAnd (sc xs i) 63 = 42 ∨ bAnd (sc xs i) 63 = 43 ∨ (bAnd (sc xs i) 63 < 0 ∨ 43 < bAnd (sc xs i) 63) := by omega
      rcases csw with c33 | c33 | c33 | c33 | c33 | c33 | c33 | c33 | c33 | c33 | c33 | c33 | c33 | c33 | c33 | c33 | c33 | c33 | c33 | c33 | c33 | c33 | c33 | c33 | c33 | c33 | c33 | c33 | c33 | c33 | c33 | c33 | c33 | c33 | c33 | c33 | c33 | c33 | c33 | c33 | c33 | c33 | c33 | c33 | c33
      · refine x_tabIn (tgt := 224) (pc := 33) hC (by omega) dL_law_33 (by omega) (by omega) 0 (by omega) rfl (by decide) ?_
        exact lw_feed hC hR hX hbl h62 h0 hL ⟨h0i, by omega⟩ (by omega) (by omega) hz47 hLH K
      · refine x_tabIn (tgt := 247) (pc := 33) hC (by omega) dL_law_33 (by omega) (by omega) 1 (by omega) rfl (by decide) ?_
        exact lw_room hC hR hX hbl h62 h0 hL ⟨h0i, by omega⟩ (by omega) (by omega) hz47 hLH K
      · refine x_tabIn (tgt := 260) (pc := 33) hC (by omega) dL_law_33 (by omega) (by omega) 2 (by omega) rfl (by decide) ?_
        exact lw_fan hC hR hX hbl h62 h0 hL ⟨h0i, by omega⟩ (by omega) (by omega) hz47 hLH K
      · refine x_tabIn (tgt := 323) (pc := 33) hC (by omega) dL_law_33 (by omega) (by omega) 3 (by omega) rfl (by decide) ?_
        exact lw_of hC hR hX hbl h62 h0 hL ⟨h0i, by omega⟩ (by omega) (by omega) hz47 hLH K
      · refine x_tabIn (tgt := 356) (pc := 33) hC (by omega) dL_law_33 (by omega) (by omega) 4 (by omega) rfl (by decide) ?_
        exact lw_turn hC hR hX hbl h62 h0 hL ⟨h0i, by omega⟩ (by omega) (by omega) hz47 hLH K
      · refine x_tabIn (tgt := 409) (pc := 33) hC (by omega) dL_law_33 (by omega) (by omega) 5 (by omega) rfl (by decide) ?_
        exact lw_on hC hR hX hbl h62 h0 hL ⟨h0i, by omega⟩ (by omega) (by omega) hz47 hLH K
      · refine x_tabIn (tgt := 458) (pc := 33) hC (by omega) dL_law_33 (by omega) (by omega) 6 (by omega) rfl (by decide) ?_
        exact lw_row hC hR hX hbl h62 h0 hL ⟨h0i, by omega⟩ (by omega) (by omega) hz47 hLH K
      · refine x_tabIn (tgt := 501) (pc := 33) hC (by omega) dL_law_33 (by omega) (by omega) 7 (by omega) rfl (by decide) ?_
        exact lw_sitter hC hR hX hbl h62 h0 hL ⟨h0i, by omega⟩ (by omega) (by omega) hz47 hLH K
      · refine x_tabIn (tgt := 534) (pc := 33) hC (by omega) dL_law_33 (by omega) (by omega) 8 (by omega) rfl (by decide) ?_
        exact lw_at hC hR hX hbl h62 h0 hL ⟨h0i, by omega⟩ (by omega) (by omega) hz47 hLH K
      · refine x_tabIn (tgt := 567) (pc := 33) hC (by omega) dL_law_33 (by omega) (by omega) 9 (by omega) rfl (by decide) ?_
        exact lw_move hC hR hX hbl h62 h0 hL ⟨h0i, by omega⟩ (by omega) (by omega) hz47 hLH K
      · refine x_tabIn (tgt := 600) (pc := 33) hC (by omega) dL_law_33 (by omega) (by omega) 10 (by omega) rfl (by decide) ?_
        exact lw_heat hC hR hX hbl h62 h0 hL ⟨h0i, by omega⟩ (by omega) (by omega) hz47 hLH K
      · refine x_tabIn (tgt := 633) (pc := 33) hC (by omega) dL_law_33 (by omega) (by omega) 11 (by omega) rfl (by decide) ?_
        exact lw_told hC hR hX hbl h62 h0 hL ⟨h0i, by omega⟩ (by omega) (by omega) hz47 hLH K
      · refine x_tabIn (tgt := 656) (pc := 33) hC (by omega) dL_law_33 (by omega) (by omega) 12 (by omega) rfl (by decide) ?_
        exact lw_go hC hR hX hbl h62 h0 hL ⟨h0i, by omega⟩ (by omega) (by omega) hz47 hLH K
      · refine x_tabIn (tgt := 679) (pc := 33) hC (by omega) dL_law_33 (by omega) (by omega) 13 (by omega) rfl (by decide) ?_
        exact lw_is hC hR hX hbl h62 h0 hL ⟨h0i, by omega⟩ (by omega) (by omega) hz47 hLH K
      · refine x_tabIn (tgt := 712) (pc := 33) hC (by omega) dL_law_33 (by omega) (by omega) 14 (by omega) rfl (by decide) ?_
        exact lw_then hC hR hX hbl h62 h0 hL ⟨h0i, by omega⟩ (by omega) (by omega) hz47 hLH K
      · refine x_tabIn (tgt := 745) (pc := 33) hC (by omega) dL_law_33 (by omega) (by omega) 15 (by omega) rfl (by decide) ?_
        exact lw_hottest hC hR hX hbl h62 h0 hL ⟨h0i, by omega⟩ (by omega) (by omega) hz47 hLH K
      · refine x_tabIn (tgt := 768) (pc := 33) hC (by omega) dL_law_33 (by omega) (by omega) 16 (by omega) rfl (by decide) ?_
        exact lw_tooHot hC hR hX hbl h62 h0 hL ⟨h0i, by omega⟩ (by omega) (by omega) hz47 hLH K
      · refine x_tabIn (tgt := 791) (pc := 33) hC (by omega) dL_law_33 (by omega) (by omega) 17 (by omega) rfl (by decide) ?_
        exact lw_set hC hR hX hbl h62 h0 hL ⟨h0i, by omega⟩ (by omega) (by omega) hz47 hLH K
      · refine x_tabIn (tgt := 834) (pc := 33) hC (by omega) dL_law_33 (by omega) (by omega) 18 (by omega) rfl (by decide) ?_
        exact lw_paced hC hR hX hbl h62 h0 hL ⟨h0i, by omega⟩ (by omega) (by omega) hz47 hLH K
      · refine x_tabIn (tgt := 867) (pc := 33) hC (by omega) dL_law_33 (by omega) (by omega) 19 (by omega) rfl (by decide) ?_
        exact lw_seat hC hR hX hbl h62 h0 hL ⟨h0i, by omega⟩ (by omega) (by omega) hz47 hLH K
      · refine x_tabIn (tgt := 910) (pc := 33) hC (by omega) dL_law_33 (by omega) (by omega) 20 (by omega) rfl (by decide) ?_
        exact lw_change hC hR hX hbl h62 h0 hL ⟨h0i, by omega⟩ (by omega) (by omega) hz47 hLH K
      · refine x_tabIn (tgt := 933) (pc := 33) hC (by omega) dL_law_33 (by omega) (by omega) 21 (by omega) rfl (by decide) ?_
        exact lw_worth hC hR hX hbl h62 h0 hL ⟨h0i, by omega⟩ (by omega) (by omega) hz47 hLH K
      · refine x_tabIn (tgt := 966) (pc := 33) hC (by omega) dL_law_33 (by omega) (by omega) 22 (by omega) rfl (by decide) ?_
        exact lw_round hC hR hX hbl h62 h0 hL ⟨h0i, by omega⟩ (by omega) (by omega) hz47 hLH K
      · refine x_tabIn (tgt := 999) (pc := 33) hC (by omega) dL_law_33 (by omega) (by omega) 23 (by omega) rfl (by decide) ?_
        exact lw_meets hC hR hX hbl h62 h0 hL ⟨h0i, by omega⟩ (by omega) (by omega) hz47 hLH K
      · refine x_tabIn (tgt := 1042) (pc := 33) hC (by omega) dL_law_33 (by omega) (by omega) 24 (by omega) rfl (by decide) ?_
        exact lw_late hC hR hX hbl h62 h0 hL ⟨h0i, by omega⟩ (by omega) (by omega) hz47 hLH K
      · refine x_tabIn (tgt := 1095) (pc := 33) hC (by omega) dL_law_33 (by omega) (by omega) 25 (by omega) rfl (by decide) ?_
        exact lw_period hC hR hX hbl h62 h0 hL ⟨h0i, by omega⟩ (by omega) (by omega) hz47 hLH K
      · refine x_tabIn (tgt := 1118) (pc := 33) hC (by omega) dL_law_33 (by omega) (by omega) 26 (by omega) rfl (by decide) ?_
        exact lw_papers hC hR hX hbl h62 h0 hL ⟨h0i, by omega⟩ (by omega) (by omega) hz47 hLH K
      · refine x_tabIn (tgt := 1141) (pc := 33) hC (by omega) dL_law_33 (by omega) (by omega) 27 (by omega) rfl (by decide) ?_
        exact lw_flown hC hR hX hbl h62 h0 hL ⟨h0i, by omega⟩ (by omega) (by omega) hz47 hLH K
      · refine x_tabIn (tgt := 1164) (pc := 33) hC (by omega) dL_law_33 (by omega) (by omega) 28 (by omega) rfl (by decide) ?_
        exact lw_which hC hR hX hbl h62 h0 hL ⟨h0i, by omega⟩ (by omega) (by omega) hz47 hLH K
      · refine x_tabIn (tgt := 1187) (pc := 33) hC (by omega) dL_law_33 (by omega) (by omega) 29 (by omega) rfl (by decide) ?_
        exact lw_see hC hR hX hbl h62 h0 hL ⟨h0i, by omega⟩ (by omega) (by omega) hz47 hLH K
      · refine x_tabIn (tgt := 1230) (pc := 33) hC (by omega) dL_law_33 (by omega) (by omega) 30 (by omega) rfl (by decide) ?_
        exact lw_sat hC hR hX hbl h62 h0 hL ⟨h0i, by omega⟩ (by omega) (by omega) hz47 hLH K
      · refine x_tabIn (tgt := 1253) (pc := 33) hC (by omega) dL_law_33 (by omega) (by omega) 31 (by omega) rfl (by decide) ?_
        exact lw_odds hC hR hX hbl h62 h0 hL ⟨h0i, by omega⟩ (by omega) (by omega) hz47 hLH K
      · refine x_tabIn (tgt := 1297) (pc := 33) hC (by omega) dL_law_33 (by omega) (by omega) 32 (by omega) rfl (by decide) ?_
        exact lw_mean hC hR hX hbl h62 h0 hL ⟨h0i, by omega⟩ (by omega) (by omega) hz47 hLH K
      · refine x_tabIn (tgt := 1341) (pc := 33) hC (by omega) dL_law_33 (by omega) (by omega) 33 (by omega) rfl (by decide) ?_
        exact lw_even hC hR hX hbl h62 h0 hL ⟨h0i, by omega⟩ (by omega) (by omega) hz47 hLH K
      · refine x_tabIn (tgt := 1364) (pc := 33) hC (by omega) dL_law_33 (by omega) (by omega) 34 (by omega) rfl (by decide) ?_
        exact lw_rule hC hR hX hbl h62 h0 hL ⟨h0i, by omega⟩ (by omega) (by omega) hz47 hLH K
      · refine x_tabIn (tgt := 1397) (pc := 33) hC (by omega) dL_law_33 (by omega) (by omega) 35 (by omega) rfl (by decide) ?_
        exact lw_ruled hC hR hX hbl h62 h0 hL ⟨h0i, by omega⟩ (by omega) (by omega) hz47 hLH K
      · refine x_tabIn (tgt := 1430) (pc := 33) hC (by omega) dL_law_33 (by omega) (by omega) 36 (by omega) rfl (by decide) ?_
        exact lw_book hC hR hX hbl h62 h0 hL ⟨h0i, by omega⟩ (by omega) (by omega) hz47 hLH K
      · refine x_tabIn (tgt := 1473) (pc := 33) hC (by omega) dL_law_33 (by omega) (by omega) 37 (by omega) rfl (by decide) ?_
        exact lw_looked hC hR hX hbl h62 h0 hL ⟨h0i, by omega⟩ (by omega) (by omega) hz47 hLH K
      · refine x_tabIn (tgt := 1486) (pc := 33) hC (by omega) dL_law_33 (by omega) (by omega) 38 (by omega) rfl (by decide) ?_
        exact lw_act hC hR hX hbl h62 h0 hL ⟨h0i, by omega⟩ (by omega) (by omega) hz47 hLH K
      · refine x_tabIn (tgt := 1529) (pc := 33) hC (by omega) dL_law_33 (by omega) (by omega) 39 (by omega) rfl (by decide) ?_
        exact lw_trace hC hR hX hbl h62 h0 hL ⟨h0i, by omega⟩ (by omega) (by omega) hz47 hLH K
      · refine x_tabIn (tgt := 1552) (pc := 33) hC (by omega) dL_law_33 (by omega) (by omega) 40 (by omega) rfl (by decide) ?_
        exact lw_as hC hR hX hbl h62 h0 hL ⟨h0i, by omega⟩ (by omega) (by omega) hz47 hLH K
      · refine x_tabIn (tgt := 1585) (pc := 33) hC (by omega) dL_law_33 (by omega) (by omega) 41 (by omega) rfl (by decide) ?_
        exact lw_image hC hR hX hbl h62 h0 hL ⟨h0i, by omega⟩ (by omega) (by omega) hz47 hLH K
      · refine x_tabIn (tgt := 1598) (pc := 33) hC (by omega) dL_law_33 (by omega) (by omega) 42 (by omega) rfl (by decide) ?_
        exact lw_undo hC hR hX hbl h62 h0 hL ⟨h0i, by omega⟩ (by omega) (by omega) hz47 hLH K
      · refine x_tabIn (tgt := 1611) (pc := 33) hC (by omega) dL_law_33 (by omega) (by omega) 43 (by omega) rfl (by decide) ?_
        exact lw_count hC hR hX hbl h62 h0 hL ⟨h0i, by omega⟩ (by omega) (by omega) hz47 hLH K
      · refine x_tabOut (tgt := 1634) (pc := 33) hC (by omega) dL_law_33 (by omega) (by decide) ?_
        exact K σ ρ ks z kc ns (by omega) (by omega) hz47 hLH