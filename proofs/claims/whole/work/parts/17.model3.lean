set_option maxHeartbeats 4000000 in
set_option maxRecDepth 100000 in
theorem s_looks (E : xE) {σ : xM} {ρ : xR} {ks : xKs} (hk : MK ks) (hw : MW ρ) {q on : Int} (hroom : RoomOk (σ 47)) (hq : 0 ≤ q ∧ q < 6) (hp1 : 0 ≤ σ 47 (62 + q) ∧ σ 47 (62 + q) ≤ 9) (hp2 : 0 ≤ σ 47 (1 + q) ∧ σ 47 (1 + q) ≤ 99) (hp3 : 0 ≤ σ 47 (7 + q) ∧ σ 47 (7 + q) ≤ 9) (hon : 0 ≤ on ∧ on ≤ 4) (ht : 0 ≤ σ 47 0 ∧ σ 47 0 < 1000000) : Sp E yX12_looks kX12_looks 2 0 0 [.ref 46, .int (iI q), .int (iI on)] σ ρ ks (fun r σ' ρ' ks' => r = none ∧ ρ' = ρ ∧ ks' = ks ∧ Lk σ σ' ∧ (∀ j, 0 ≤ j → j < 6 → σ' 50 j = (byF (σ 47) q on) j) ∧ σ' 46 12 = warmF (σ 47) (byF (σ 47) q on) ∧ σ' 46 13 = coolF (σ 47) (byF (σ 47) q on)) := by
  obtain ⟨k46, k47, k48, k49, k50, k51, k52, k53, k54⟩ := id hk
  obtain ⟨w1, w2, w3, w10, w11, w14, w15, w16⟩ := id hw
  refine x_enter (own := RX12) (L := [_, _, _, _, _, _, _, _, _, _, _]) (by decide +kernel) rfl (by exact Nat.le_of_ble_eq_true rfl) rfl (fun p e R s m args below meth c Z hZ hC hR hin => ?_)
  have hr1 := hroom.1
  have hr2 := hroom.2.1
  have hbr := fun x => byF_in (on := on) hq hp1 hp2 hp3 hon x
  have loop : ∀ (n i : Nat) (σ' : xM) (top it : Int), (i : Int) + n = tellsF (σ 47) 228 0 → it = (243 + 140 * σ 47 20) + i → top = lkT (σ 47) (243 + 140 * σ 47 20) i → Lk σ σ' → (∀ j, 0 ≤ j → j < 6 → σ' 50 j = (byF (σ 47) q on) j) → σ' 51 = (lkF (σ 47) (243 + 140 * σ 47 20) (byF (σ 47) q on) (σ 51, 0, 0, 0) i).1 → σ' 46 12 = (lkF (σ 47) (243 + 140 * σ 47 20) (byF (σ 47) q on) (σ 51, 0, 0, 0) i).2.2.1 → σ' 46 13 = (lkF (σ 47) (243 + 140 * σ 47 20) (byF (σ 47) q on) (σ 51, 0, 0, 0) i).2.2.2 → X E p e R s m args below meth c Z 0 0 σ' ρ ks 119 [some (.ref 46), some (.int (iI q)), some (.int (iI on)), some (.int (iI (tellsF (σ 47) 228 0))), some (.int (iI (243 + 140 * σ 47 20))), some (.int (iI top)), some (.int (iI it)), none, none, none, none] [] := by
    intro n
    induction n with
    | zero =>
      intro i σ' top it hn hit htop hL h50 h51 h12 h13
      refine x_iload (pc := 119) hC dX12_looks_119 rfl ?_
      refine x_iload (pc := 121) hC dX12_looks_121 rfl ?_
      refine x_iload_n (pc := 123) hC dX12_looks_123 rfl ?_
      refine x_iadd (pc := 124) hC dX12_looks_124 ?_
      refine x_icmp_ge (tgt := 437) (pc := 125) hC (by omega) (by omega) dX12_looks_125 (by decide) (fun c125 => ?_) (fun c125 => by (exfalso; omega))
      refine x_return hC hZ dX12_looks_437 (by decide) (by decide) ?_
      refine ⟨rfl, rfl, rfl, hL, h50, ?_, ?_⟩
      · rw [h12, (lk_ok (k := (byF (σ 47) q on)) (N := (tellsF (σ 47) 228 0).toNat) (fun n hn => hroom.2.2.1 n (by omega)) (σ 51) i (by omega)).2]
        unfold warmF; rw [show (tellsF (σ 47) 228 0).toNat = i by omega]
      · rw [h13, (lk_ok (k := (byF (σ 47) q on)) (N := (tellsF (σ 47) 228 0).toNat) (fun n hn => hroom.2.2.1 n (by omega)) (σ 51) i (by omega)).2]
        unfold coolF; rw [show (tellsF (σ 47) 228 0).toNat = i by omega]
    | succ n ih =>
      intro i σ' top it hn hit htop hL h50 h51 h12 h13
      refine x_iload (pc := 119) hC dX12_looks_119 rfl ?_
      refine x_iload (pc := 121) hC dX12_looks_121 rfl ?_
      refine x_iload_n (pc := 123) hC dX12_looks_123 rfl ?_
      refine x_iadd (pc := 124) hC dX12_looks_124 ?_
      refine x_icmp_ge (tgt := 437) (pc := 125) hC (by omega) (by omega) dX12_looks_125 (by decide) (fun c125 => by (exfalso; omega)) (fun c125 => ?_)
      have st := hroom.2.2.1 i (by omega)
      have h47 : σ' 47 = σ 47 := hL.1 47 (by decide) (by decide) (by decide)
      have hb := (lk_ok (k := (byF (σ 47) q on)) (N := (tellsF (σ 47) 228 0).toNat) (fun n hn => hroom.2.2.1 n (by omega)) (σ 51) i (by omega)).1
      have hrn := lk_rng (k := (byF (σ 47) q on)) (N := (tellsF (σ 47) 228 0).toNat) (fun n hn => hroom.2.2.1 n (by omega)) (σ 51) i (by omega)
      have hT : lkT (σ 47) (243 + 140 * σ 47 20) (i + 1) = if 0 ≤ σ 47 ((243 + 140 * σ 47 20) + i) then lkT (σ 47) (243 + 140 * σ 47 20) i + 1 else if σ 47 ((243 + 140 * σ 47 20) + i) = -1 then lkT (σ 47) (243 + 140 * σ 47 20) i else if -10 < σ 47 ((243 + 140 * σ 47 20) + i) then lkT (σ 47) (243 + 140 * σ 47 20) i - 1 else 0 := rfl
      have hU : lkF (σ 47) (243 + 140 * σ 47 20) (byF (σ 47) q on) (σ 51, 0, 0, 0) (i + 1) = lk1 (byF (σ 47) q on) (σ 47 ((243 + 140 * σ 47 20) + i)) (lkF (σ 47) (243 + 140 * σ 47 20) (byF (σ 47) q on) (σ 51, 0, 0, 0) i) := rfl
      have hu2 := lkF_top (σ 47) (243 + 140 * σ 47 20) (byF (σ 47) q on) (σ 51, 0, 0, 0) rfl i
      obtain ⟨s1, s2, s3, s4, s5, s6⟩ := st
      rw [← hu2] at hb hT s2 s4 s5 s6 htop
      generalize (lkF (σ 47) (243 + 140 * σ 47 20) (byF (σ 47) q on) (σ 51, 0, 0, 0) i) = u at *
      obtain ⟨u1, u2, u3, u4⟩ := u
      simp only at hb hT s2 s4 s5 s6 htop h51 h12 h13 hrn hu2
      subst hit; subst htop
      rw [← h51] at hb
      refine x_aload_n (pc := 128) hC dX12_looks_128 rfl ?_
      refine x_getr (K := 1) (pc := 129) hC fX12_9_12 (by assumption) dX12_looks_129 rfl rfl (by assumption) ?_
      refine x_iload (pc := 132) hC dX12_looks_132 rfl ?_
      refine x_iald (pc := 134) hC (by assumption) (by omega) dX12_looks_134 ?_
      rw [h47]
      generalize hstep : σ 47 ((243 + 140 * σ 47 20) + i) = step at *
      refine x_istore (L' := [_, _, _, _, _, _, _, _, _, _, _]) (pc := 135) hC dX12_looks_135 rfl rfl ?_
      refine x_iload (pc := 137) hC dX12_looks_137 rfl ?_
      refine x_if_lt (tgt := 236) (pc := 139) hC (by omega) dX12_looks_139 (by decide) (fun c139 => ?_) (fun c139 => ?_)
      · refine x_iload (pc := 236) hC dX12_looks_236 rfl ?_
        refine x_iconst (pc := 238) hC dX12_looks_238 ?_
        refine x_icmp_ne (tgt := 271) (pc := 239) hC (by omega) (by omega) dX12_looks_239 (by decide) (fun c239 => ?_) (fun c239 => ?_)
        · refine x_iload (pc := 271) hC dX12_looks_271 rfl ?_
          refine x_bipush (pc := 273) hC dX12_looks_273 (by decide +kernel) ?_
          refine x_icmp_le (tgt := 357) (pc := 275) hC (by omega) (by omega) dX12_looks_275 (by decide) (fun c275 => ?_) (fun c275 => ?_)
          · refine x_iconst (pc := 357) hC dX12_looks_357 ?_
            refine x_istore (L' := [_, _, _, _, _, _, _, _, _, _, _]) (pc := 358) hC dX12_looks_358 rfl rfl ?_
            refine x_aload_n (pc := 360) hC dX12_looks_360 rfl ?_
            refine x_getr (K := 11) (pc := 361) hC fX12_24_12 (by assumption) dX12_looks_361 rfl rfl (by assumption) ?_
            refine x_iconst (pc := 364) hC dX12_looks_364 ?_
            refine x_zald (pc := 365) hC (by assumption) (by omega) dX12_looks_365 ?_
            have g0 := hb 0 (by omega) (by omega)
            refine x_istore (L' := [_, _, _, _, _, _, _, _, _, _, _]) (pc := 366) hC dX12_looks_366 rfl rfl ?_
            refine x_aload_n (pc := 368) hC dX12_looks_368 rfl ?_
            refine x_dup (pc := 369) hC dX12_looks_369 rfl ?_
            refine x_geti (K := 12) (pc := 370) hC fX12_124_12 (by assumption) dX12_looks_370 rfl rfl ?_
            refine x_iload (pc := 373) hC dX12_looks_373 rfl ?_
            refine x_if_eq (tgt := 394) (pc := 375) hC (by omega) dX12_looks_375 (by decide) (fun c375 => ?_) (fun c375 => ?_)
            · refine x_iconst (pc := 394) hC dX12_looks_394 ?_
              refine x_iadd (pc := 395) hC dX12_looks_395 ?_
              refine x_puti (K := 12) (pc := 396) hC rfl fX12_124_12 rfl (by assumption) dX12_looks_396 rfl ?_
              refine x_aload_n (pc := 399) hC dX12_looks_399 rfl ?_
              refine x_dup (pc := 400) hC dX12_looks_400 rfl ?_
              refine x_geti (K := 13) (pc := 401) hC fX12_127_12 (by assumption) dX12_looks_401 rfl rfl ?_
              refine x_iload (pc := 404) hC dX12_looks_404 rfl ?_
              refine x_if_eq (tgt := 426) (pc := 406) hC (by omega) dX12_looks_406 (by decide) (fun c406 => ?_) (fun c406 => ?_)
              · refine x_iconst (pc := 426) hC dX12_looks_426 ?_
                refine x_iadd (pc := 427) hC dX12_looks_427 ?_
                refine x_puti (K := 13) (pc := 428) hC rfl fX12_127_12 rfl (by assumption) dX12_looks_428 rfl ?_
                refine x_iinc (L' := [_, _, _, _, _, _, _, _, _, _, _]) (pc := 431) hC dX12_looks_431 rfl rfl rfl ?_
                refine x_goto (tgt := 119) (pc := 434) hC dX12_looks_434 (by decide) ?_
                refine X.drop (xLe_s (xLe_s (xLe_s (xLe_s (xLe_s (xLe_s (xLe_s (xLe_n (xLe_n (xLe_n (xLe_n xLe_0))))))))))) (ih (i + 1) _ _ _ (by omega) (by rw [show ((i + 1 : Nat) : Int) = (i : Int) + 1 from rfl, Int.add_assoc]) ?_ ?_ ?_ ?_ ?_ ?_)
                · rw [hT, if_neg (by omega), if_neg (by omega), if_neg (by omega)]
                · exact hL.trans ⟨fun q' a b d => by funext x; simp [wr, a, d], fun x a b => by simp [wr, a, b]⟩
                · intro x a b
                  rw [← h50 x a b]; simp [wr]
                · rw [hU, lk1_D (by omega)]
                  funext x
                  show wr (wr σ' 46 12 _) 46 13 _ 51 x = u1 x
                  simp [wr, h51]
                · rw [h51] at c375
                  rw [hU, lk1_D (by omega)]
                  show wr (wr σ' 46 12 _) 46 13 _ 46 12 = u3 + _
                  rw [wr_k _ _ _ (by decide), wr_eq, h12, if_neg (fun h => h.1 c375)]
                · rw [h51] at c406
                  rw [hU, lk1_D (by omega)]
                  show wr (wr σ' 46 12 _) 46 13 _ 46 13 = u4 + _
                  rw [wr_eq, wr_k _ _ _ (by decide), h13, if_neg (fun h => h.1 c406)]
              · refine x_iload (pc := 409) hC dX12_looks_409 rfl ?_
                refine x_sipush (pc := 411) hC dX12_looks_411 (by decide +kernel) ?_
                refine x_icmp_gt (tgt := 426) (pc := 414) hC (by omega) (by omega) dX12_looks_414 (by decide) (fun c414 => ?_) (fun c414 => ?_)
                · refine x_iconst (pc := 426) hC dX12_looks_426 ?_
                  refine x_iadd (pc := 427) hC dX12_looks_427 ?_
                  refine x_puti (K := 13) (pc := 428) hC rfl fX12_127_12 rfl (by assumption) dX12_looks_428 rfl ?_
                  refine x_iinc (L' := [_, _, _, _, _, _, _, _, _, _, _]) (pc := 431) hC dX12_looks_431 rfl rfl rfl ?_
                  refine x_goto (tgt := 119) (pc := 434) hC dX12_looks_434 (by decide) ?_
                  refine X.drop (xLe_s (xLe_s (xLe_s (xLe_s (xLe_s (xLe_s (xLe_s (xLe_n (xLe_n (xLe_n (xLe_n xLe_0))))))))))) (ih (i + 1) _ _ _ (by omega) (by rw [show ((i + 1 : Nat) : Int) = (i : Int) + 1 from rfl, Int.add_assoc]) ?_ ?_ ?_ ?_ ?_ ?_)
                  · rw [hT, if_neg (by omega), if_neg (by omega), if_neg (by omega)]
                  · exact hL.trans ⟨fun q' a b d => by funext x; simp [wr, a, d], fun x a b => by simp [wr, a, b]⟩
                  · intro x a b
                    rw [← h50 x a b]; simp [wr]
                  · rw [hU, lk1_D (by omega)]
                    funext x
                    show wr (wr σ' 46 12 _) 46 13 _ 51 x = u1 x
                    simp [wr, h51]
                  · rw [h51] at c375
                    rw [hU, lk1_D (by omega)]
                    show wr (wr σ' 46 12 _) 46 13 _ 46 12 = u3 + _
                    rw [wr_k _ _ _ (by decide), wr_eq, h12, if_neg (fun h => h.1 c375)]
                  · rw [h51] at c406
                    rw [hU, lk1_D (by omega)]
                    show wr (wr σ' 46 12 _) 46 13 _ 46 13 = u4 + _
                    rw [wr_eq, wr_k _ _ _ (by decide), h13, if_neg (fun h => absurd h.2 (by omega))]
                · refine x_sipush (pc := 417) hC dX12_looks_417 (by decide +kernel) ?_
                  refine x_iload (pc := 420) hC dX12_looks_420 rfl ?_
                  refine x_isub (pc := 422) hC dX12_looks_422 ?_
                  refine x_goto (tgt := 427) (pc := 423) hC dX12_looks_423 (by decide) ?_
                  refine x_iadd (pc := 427) hC dX12_looks_427 ?_
                  refine x_puti (K := 13) (pc := 428) hC rfl fX12_127_12 rfl (by assumption) dX12_looks_428 rfl ?_
                  refine x_iinc (L' := [_, _, _, _, _, _, _, _, _, _, _]) (pc := 431) hC dX12_looks_431 rfl rfl rfl ?_
                  refine x_goto (tgt := 119) (pc := 434) hC dX12_looks_434 (by decide) ?_
                  refine X.drop (xLe_s (xLe_s (xLe_s (xLe_s (xLe_s (xLe_s (xLe_s (xLe_n (xLe_n (xLe_n (xLe_n xLe_0))))))))))) (ih (i + 1) _ _ _ (by omega) (by rw [show ((i + 1 : Nat) : Int) = (i : Int) + 1 from rfl, Int.add_assoc]) ?_ ?_ ?_ ?_ ?_ ?_)
                  · rw [hT, if_neg (by omega), if_neg (by omega), if_neg (by omega)]
                  · exact hL.trans ⟨fun q' a b d => by funext x; simp [wr, a, d], fun x a b => by simp [wr, a, b]⟩
                  · intro x a b
                    rw [← h50 x a b]; simp [wr]
                  · rw [hU, lk1_D (by omega)]
                    funext x
                    show wr (wr σ' 46 12 _) 46 13 _ 51 x = u1 x
                    simp [wr, h51]
                  · rw [h51] at c375
                    rw [hU, lk1_D (by omega)]
                    show wr (wr σ' 46 12 _) 46 13 _ 46 12 = u3 + _
                    rw [wr_k _ _ _ (by decide), wr_eq, h12, if_neg (fun h => h.1 c375)]
                  · rw [h51] at c406
                    rw [hU, lk1_D (by omega)]
                    show wr (wr σ' 46 12 _) 46 13 _ 46 13 = u4 + _
                    rw [wr_eq, wr_k _ _ _ (by decide), h13, if_pos (And.intro c406 c414)]
            · refine x_iload (pc := 378) hC dX12_looks_378 rfl ?_
              refine x_sipush (pc := 380) hC dX12_looks_380 (by decide +kernel) ?_
              refine x_icmp_le (tgt := 394) (pc := 383) hC (by omega) (by omega) dX12_looks_383 (by decide) (fun c383 => ?_) (fun c383 => ?_)
              · refine x_iconst (pc := 394) hC dX12_looks_394 ?_
                refine x_iadd (pc := 395) hC dX12_looks_395 ?_
                refine x_puti (K := 12) (pc := 396) hC rfl fX12_124_12 rfl (by assumption) dX12_looks_396 rfl ?_
                refine x_aload_n (pc := 399) hC dX12_looks_399 rfl ?_
                refine x_dup (pc := 400) hC dX12_looks_400 rfl ?_
                refine x_geti (K := 13) (pc := 401) hC fX12_127_12 (by assumption) dX12_looks_401 rfl rfl ?_
                refine x_iload (pc := 404) hC dX12_looks_404 rfl ?_
                refine x_if_eq (tgt := 426) (pc := 406) hC (by omega) dX12_looks_406 (by decide) (fun c406 => ?_) (fun c406 => ?_)
                · refine x_iconst (pc := 426) hC dX12_looks_426 ?_
                  refine x_iadd (pc := 427) hC dX12_looks_427 ?_
                  refine x_puti (K := 13) (pc := 428) hC rfl fX12_127_12 rfl (by assumption) dX12_looks_428 rfl ?_
                  refine x_iinc (L' := [_, _, _, _, _, _, _, _, _, _, _]) (pc := 431) hC dX12_looks_431 rfl rfl rfl ?_
                  refine x_goto (tgt := 119) (pc := 434) hC dX12_looks_434 (by decide) ?_
                  refine X.drop (xLe_s (xLe_s (xLe_s (xLe_s (xLe_s (xLe_s (xLe_s (xLe_n (xLe_n (xLe_n (xLe_n xLe_0))))))))))) (ih (i + 1) _ _ _ (by omega) (by rw [show ((i + 1 : Nat) : Int) = (i : Int) + 1 from rfl, Int.add_assoc]) ?_ ?_ ?_ ?_ ?_ ?_)
                  · rw [hT, if_neg (by omega), if_neg (by omega), if_neg (by omega)]
                  · exact hL.trans ⟨fun q' a b d => by funext x; simp [wr, a, d], fun x a b => by simp [wr, a, b]⟩
                  · intro x a b
                    rw [← h50 x a b]; simp [wr]
                  · rw [hU, lk1_D (by omega)]
                    funext x
                    show wr (wr σ' 46 12 _) 46 13 _ 51 x = u1 x
                    simp [wr, h51]
                  · rw [h51] at c375
                    rw [hU, lk1_D (by omega)]
                    show wr (wr σ' 46 12 _) 46 13 _ 46 12 = u3 + _
                    rw [wr_k _ _ _ (by decide), wr_eq, h12, if_neg (fun h => absurd h.2 (by omega))]
                  · rw [h51] at c406
                    rw [hU, lk1_D (by omega)]
                    show wr (wr σ' 46 12 _) 46 13 _ 46 13 = u4 + _
                    rw [wr_eq, wr_k _ _ _ (by decide), h13, if_neg (fun h => h.1 c406)]
                · refine x_iload (pc := 409) hC dX12_looks_409 rfl ?_
                  refine x_sipush (pc := 411) hC dX12_looks_411 (by decide +kernel) ?_
                  refine x_icmp_gt (tgt := 426) (pc := 414) hC (by omega) (by omega) dX12_looks_414 (by decide) (fun c414 => ?_) (fun c414 => ?_)
                  · refine x_iconst (pc := 426) hC dX12_looks_426 ?_
                    refine x_iadd (pc := 427) hC dX12_looks_427 ?_
                    refine x_puti (K := 13) (pc := 428) hC rfl fX12_127_12 rfl (by assumption) dX12_looks_428 rfl ?_
                    refine x_iinc (L' := [_, _, _, _, _, _, _, _, _, _, _]) (pc := 431) hC dX12_looks_431 rfl rfl rfl ?_
                    refine x_goto (tgt := 119) (pc := 434) hC dX12_looks_434 (by decide) ?_
                    refine X.drop (xLe_s (xLe_s (xLe_s (xLe_s (xLe_s (xLe_s (xLe_s (xLe_n (xLe_n (xLe_n (xLe_n xLe_0))))))))))) (ih (i + 1) _ _ _ (by omega) (by rw [show ((i + 1 : Nat) : Int) = (i : Int) + 1 from rfl, Int.add_assoc]) ?_ ?_ ?_ ?_ ?_ ?_)
                    · rw [hT, if_neg (by omega), if_neg (by omega), if_neg (by omega)]
                    · exact hL.trans ⟨fun q' a b d => by funext x; simp [wr, a, d], fun x a b => by simp [wr, a, b]⟩
                    · intro x a b
                      rw [← h50 x a b]; simp [wr]
                    · rw [hU, lk1_D (by omega)]
                      funext x
                      show wr (wr σ' 46 12 _) 46 13 _ 51 x = u1 x
                      simp [wr, h51]
                    · rw [h51] at c375
                      rw [hU, lk1_D (by omega)]
                      show wr (wr σ' 46 12 _) 46 13 _ 46 12 = u3 + _
                      rw [wr_k _ _ _ (by decide), wr_eq, h12, if_neg (fun h => absurd h.2 (by omega))]
                    · rw [h51] at c406
                      rw [hU, lk1_D (by omega)]
                      show wr (wr σ' 46 12 _) 46 13 _ 46 13 = u4 + _
                      rw [wr_eq, wr_k _ _ _ (by decide), h13, if_neg (fun h => absurd h.2 (by omega))]
                  · refine x_sipush (pc := 417) hC dX12_looks_417 (by decide +kernel) ?_
                    refine x_iload (pc := 420) hC dX12_looks_420 rfl ?_
                    refine x_isub (pc := 422) hC dX12_looks_422 ?_
                    refine x_goto (tgt := 427) (pc := 423) hC dX12_looks_423 (by decide) ?_
                    refine x_iadd (pc := 427) hC dX12_looks_427 ?_
                    refine x_puti (K := 13) (pc := 428) hC rfl fX12_127_12 rfl (by assumption) dX12_looks_428 rfl ?_
                    refine x_iinc (L' := [_, _, _, _, _, _, _, _, _, _, _]) (pc := 431) hC dX12_looks_431 rfl rfl rfl ?_
                    refine x_goto (tgt := 119) (pc := 434) hC dX12_looks_434 (by decide) ?_
                    refine X.drop (xLe_s (xLe_s (xLe_s (xLe_s (xLe_s (xLe_s (xLe_s (xLe_n (xLe_n (xLe_n (xLe_n xLe_0))))))))))) (ih (i + 1) _ _ _ (by omega) (by rw [show ((i + 1 : Nat) : Int) = (i : Int) + 1 from rfl, Int.add_assoc]) ?_ ?_ ?_ ?_ ?_ ?_)
                    · rw [hT, if_neg (by omega), if_neg (by omega), if_neg (by omega)]
                    · exact hL.trans ⟨fun q' a b d => by funext x; simp [wr, a, d], fun x a b => by simp [wr, a, b]⟩
                    · intro x a b
                      rw [← h50 x a b]; simp [wr]
                    · rw [hU, lk1_D (by omega)]
                      funext x
                      show wr (wr σ' 46 12 _) 46 13 _ 51 x = u1 x
                      simp [wr, h51]
                    · rw [h51] at c375
                      rw [hU, lk1_D (by omega)]
                      show wr (wr σ' 46 12 _) 46 13 _ 46 12 = u3 + _
                      rw [wr_k _ _ _ (by decide), wr_eq, h12, if_neg (fun h => absurd h.2 (by omega))]
                    · rw [h51] at c406
                      rw [hU, lk1_D (by omega)]
                      show wr (wr σ' 46 12 _) 46 13 _ 46 13 = u4 + _
                      rw [wr_eq, wr_k _ _ _ (by decide), h13, if_pos (And.intro c406 c414)]
              · refine x_bipush (pc := 386) hC dX12_looks_386 (by decide +kernel) ?_
                refine x_iload (pc := 388) hC dX12_looks_388 rfl ?_
                refine x_isub (pc := 390) hC dX12_looks_390 ?_
                refine x_goto (tgt := 395) (pc := 391) hC dX12_looks_391 (by decide) ?_
                refine x_iadd (pc := 395) hC dX12_looks_395 ?_
                refine x_puti (K := 12) (pc := 396) hC rfl fX12_124_12 rfl (by assumption) dX12_looks_396 rfl ?_
                refine x_aload_n (pc := 399) hC dX12_looks_399 rfl ?_
                refine x_dup (pc := 400) hC dX12_looks_400 rfl ?_
                refine x_geti (K := 13) (pc := 401) hC fX12_127_12 (by assumption) dX12_looks_401 rfl rfl ?_
                refine x_iload (pc := 404) hC dX12_looks_404 rfl ?_
                refine x_if_eq (tgt := 426) (pc := 406) hC (by omega) dX12_looks_406 (by decide) (fun c406 => ?_) (fun c406 => ?_)
                · refine x_iconst (pc := 426) hC dX12_looks_426 ?_
                  refine x_iadd (pc := 427) hC dX12_looks_427 ?_
                  refine x_puti (K := 13) (pc := 428) hC rfl fX12_127_12 rfl (by assumption) dX12_looks_428 rfl ?_
                  refine x_iinc (L' := [_, _, _, _, _, _, _, _, _, _, _]) (pc := 431) hC dX12_looks_431 rfl rfl rfl ?_
                  refine x_goto (tgt := 119) (pc := 434) hC dX12_looks_434 (by decide) ?_
                  refine X.drop (xLe_s (xLe_s (xLe_s (xLe_s (xLe_s (xLe_s (xLe_s (xLe_n (xLe_n (xLe_n (xLe_n xLe_0))))))))))) (ih (i + 1) _ _ _ (by omega) (by rw [show ((i + 1 : Nat) : Int) = (i : Int) + 1 from rfl, Int.add_assoc]) ?_ ?_ ?_ ?_ ?_ ?_)
                  · rw [hT, if_neg (by omega), if_neg (by omega), if_neg (by omega)]
                  · exact hL.trans ⟨fun q' a b d => by funext x; simp [wr, a, d], fun x a b => by simp [wr, a, b]⟩
                  · intro x a b
                    rw [← h50 x a b]; simp [wr]
                  · rw [hU, lk1_D (by omega)]
                    funext x
                    show wr (wr σ' 46 12 _) 46 13 _ 51 x = u1 x
                    simp [wr, h51]
                  · rw [h51] at c375
                    rw [hU, lk1_D (by omega)]
                    show wr (wr σ' 46 12 _) 46 13 _ 46 12 = u3 + _
                    rw [wr_k _ _ _ (by decide), wr_eq, h12, if_pos (And.intro c375 c383)]
                  · rw [h51] at c406
                    rw [hU, lk1_D (by omega)]
                    show wr (wr σ' 46 12 _) 46 13 _ 46 13 = u4 + _
                    rw [wr_eq, wr_k _ _ _ (by decide), h13, if_neg (fun h => h.1 c406)]
                · refine x_iload (pc := 409) hC dX12_looks_409 rfl ?_
                  refine x_sipush (pc := 411) hC dX12_looks_411 (by decide +kernel) ?_
                  refine x_icmp_gt (tgt := 426) (pc := 414) hC (by omega) (by omega) dX12_looks_414 (by decide) (fun c414 => ?_) (fun c414 => ?_)
                  · refine x_iconst (pc := 426) hC dX12_looks_426 ?_
                    refine x_iadd (pc := 427) hC dX12_looks_427 ?_
                    refine x_puti (K := 13) (pc := 428) hC rfl fX12_127_12 rfl (by assumption) dX12_looks_428 rfl ?_
                    refine x_iinc (L' := [_, _, _, _, _, _, _, _, _, _, _]) (pc := 431) hC dX12_looks_431 rfl rfl rfl ?_
                    refine x_goto (tgt := 119) (pc := 434) hC dX12_looks_434 (by decide) ?_
                    refine X.drop (xLe_s (xLe_s (xLe_s (xLe_s (xLe_s (xLe_s (xLe_s (xLe_n (xLe_n (xLe_n (xLe_n xLe_0))))))))))) (ih (i + 1) _ _ _ (by omega) (by rw [show ((i + 1 : Nat) : Int) = (i : Int) + 1 from rfl, Int.add_assoc]) ?_ ?_ ?_ ?_ ?_ ?_)
                    · rw [hT, if_neg (by omega), if_neg (by omega), if_neg (by omega)]
                    · exact hL.trans ⟨fun q' a b d => by funext x; simp [wr, a, d], fun x a b => by simp [wr, a, b]⟩
                    · intro x a b
                      rw [← h50 x a b]; simp [wr]
                    · rw [hU, lk1_D (by omega)]
                      funext x
                      show wr (wr σ' 46 12 _) 46 13 _ 51 x = u1 x
                      simp [wr, h51]
                    · rw [h51] at c375
                      rw [hU, lk1_D (by omega)]
                      show wr (wr σ' 46 12 _) 46 13 _ 46 12 = u3 + _
                      rw [wr_k _ _ _ (by decide), wr_eq, h12, if_pos (And.intro c375 c383)]
                    · rw [h51] at c406
                      rw [hU, lk1_D (by omega)]
                      show wr (wr σ' 46 12 _) 46 13 _ 46 13 = u4 + _
                      rw [wr_eq, wr_k _ _ _ (by decide), h13, if_neg (fun h => absurd h.2 (by omega))]
                  · refine x_sipush (pc := 417) hC dX12_looks_417 (by decide +kernel) ?_
                    refine x_iload (pc := 420) hC dX12_looks_420 rfl ?_
                    refine x_isub (pc := 422) hC dX12_looks_422 ?_
                    refine x_goto (tgt := 427) (pc := 423) hC dX12_looks_423 (by decide) ?_
                    refine x_iadd (pc := 427) hC dX12_looks_427 ?_
                    refine x_puti (K := 13) (pc := 428) hC rfl fX12_127_12 rfl (by assumption) dX12_looks_428 rfl ?_
                    refine x_iinc (L' := [_, _, _, _, _, _, _, _, _, _, _]) (pc := 431) hC dX12_looks_431 rfl rfl rfl ?_
                    refine x_goto (tgt := 119) (pc := 434) hC dX12_looks_434 (by decide) ?_
                    refine X.drop (xLe_s (xLe_s (xLe_s (xLe_s (xLe_s (xLe_s (xLe_s (xLe_n (xLe_n (xLe_n (xLe_n xLe_0))))))))))) (ih (i + 1) _ _ _ (by omega) (by rw [show ((i + 1 : Nat) : Int) = (i : Int) + 1 from rfl, Int.add_assoc]) ?_ ?_ ?_ ?_ ?_ ?_)
                    · rw [hT, if_neg (by omega), if_neg (by omega), if_neg (by omega)]
                    · exact hL.trans ⟨fun q' a b d => by funext x; simp [wr, a, d], fun x a b => by simp [wr, a, b]⟩
                    · intro x a b
                      rw [← h50 x a b]; simp [wr]
                    · rw [hU, lk1_D (by omega)]
                      funext x
                      show wr (wr σ' 46 12 _) 46 13 _ 51 x = u1 x
                      simp [wr, h51]
                    · rw [h51] at c375
                      rw [hU, lk1_D (by omega)]
                      show wr (wr σ' 46 12 _) 46 13 _ 46 12 = u3 + _
                      rw [wr_k _ _ _ (by decide), wr_eq, h12, if_pos (And.intro c375 c383)]
                    · rw [h51] at c406
                      rw [hU, lk1_D (by omega)]
                      show wr (wr σ' 46 12 _) 46 13 _ 46 13 = u4 + _
                      rw [wr_eq, wr_k _ _ _ (by decide), h13, if_pos (And.intro c406 c414)]
          · refine x_iinc (L' := [_, _, _, _, _, _, _, _, _, _, _]) (pc := 278) hC dX12_looks_278 rfl rfl rfl ?_
            refine x_aload_n (pc := 281) hC dX12_looks_281 rfl ?_
            refine x_getr (K := 11) (pc := 282) hC fX12_24_12 (by assumption) dX12_looks_282 rfl rfl (by assumption) ?_
            refine x_iload (pc := 285) hC dX12_looks_285 rfl ?_
            refine x_iconst (pc := 287) hC dX12_looks_287 ?_
            refine x_isub (pc := 288) hC dX12_looks_288 ?_
            refine x_iload (pc := 289) hC dX12_looks_289 rfl ?_
            refine x_bipush (pc := 291) hC dX12_looks_291 (by decide +kernel) ?_
            refine x_icmp_ne (tgt := 326) (pc := 293) hC (by omega) (by omega) dX12_looks_293 (by decide) (fun c293 => ?_) (fun c293 => ?_)
            · refine x_aload_n (pc := 326) hC dX12_looks_326 rfl ?_
              refine x_getr (K := 11) (pc := 327) hC fX12_24_12 (by assumption) dX12_looks_327 rfl rfl (by assumption) ?_
              refine x_iload (pc := 330) hC dX12_looks_330 rfl ?_
              refine x_iconst (pc := 332) hC dX12_looks_332 ?_
              refine x_isub (pc := 333) hC dX12_looks_333 ?_
              refine x_zald (pc := 334) hC (by assumption) (by omega) dX12_looks_334 ?_
              have g2 := hb (top + -1 - 1) (by omega) (by omega)
              refine x_if_ne (tgt := 348) (pc := 335) hC (by omega) dX12_looks_335 (by decide) (fun c335 => ?_) (fun c335 => ?_)
              · refine x_iconst (pc := 348) hC dX12_looks_348 ?_
                refine x_goto (tgt := 353) (pc := 349) hC dX12_looks_349 (by decide) ?_
                refine x_zast (pc := 353) hC (by assumption) (by omega) (by omega) dX12_looks_353 ?_
                refine x_goto (tgt := 431) (pc := 354) hC dX12_looks_354 (by decide) ?_
                refine x_iinc (L' := [_, _, _, _, _, _, _, _, _, _, _]) (pc := 431) hC dX12_looks_431 rfl rfl rfl ?_
                refine x_goto (tgt := 119) (pc := 434) hC dX12_looks_434 (by decide) ?_
                refine X.drop (xLe_s (xLe_s (xLe_s (xLe_s (xLe_s (xLe_s (xLe_s (xLe_n (xLe_n (xLe_n (xLe_n xLe_0))))))))))) (ih (i + 1) _ _ _ (by omega) (by rw [show ((i + 1 : Nat) : Int) = (i : Int) + 1 from rfl, Int.add_assoc]) ?_ ?_ ?_ ?_ ?_ ?_)
                · rw [hT, if_neg (by omega), if_neg (by omega), if_pos (by omega)]; omega
                · exact hL.trans ⟨fun q' a b d => by funext x; simp [wr, a, d], fun x a b => by simp [wr, a, b]⟩
                · intro x a b
                  rw [← h50 x a b]; simp [wr]
                · rw [h51] at c335; (try rw [show top + -1 - 1 = top - 2 by omega] at c335); (try rw [show top + -1 = top - 1 by omega] at c335)
                  rw [hU, lk1_C (by omega) (by omega)]
                  show wr σ' 51 _ _ 51 = up u1 _ _
                  dsimp only
                  rw [wr_sw, sw_eq, h51, show top + -1 - 1 = top - 2 by omega]
                  congr 1
                  symm
                  exact bI_t (by rw [if_neg c293]; exact Or.inl c335)
                · rw [hU, lk1_C (by omega) (by omega)]
                  simp [wr, h12]
                · rw [hU, lk1_C (by omega) (by omega)]
                  simp [wr, h13]
              · refine x_aload_n (pc := 338) hC dX12_looks_338 rfl ?_
                refine x_getr (K := 11) (pc := 339) hC fX12_24_12 (by assumption) dX12_looks_339 rfl rfl (by assumption) ?_
                refine x_iload (pc := 342) hC dX12_looks_342 rfl ?_
                refine x_zald (pc := 344) hC (by assumption) (by omega) dX12_looks_344 ?_
                have g1 := hb (top + -1) (by omega) (by omega)
                refine x_if_eq (tgt := 352) (pc := 345) hC (by omega) dX12_looks_345 (by decide) (fun c345 => ?_) (fun c345 => ?_)
                · refine x_iconst (pc := 352) hC dX12_looks_352 ?_
                  refine x_zast (pc := 353) hC (by assumption) (by omega) (by omega) dX12_looks_353 ?_
                  refine x_goto (tgt := 431) (pc := 354) hC dX12_looks_354 (by decide) ?_
                  refine x_iinc (L' := [_, _, _, _, _, _, _, _, _, _, _]) (pc := 431) hC dX12_looks_431 rfl rfl rfl ?_
                  refine x_goto (tgt := 119) (pc := 434) hC dX12_looks_434 (by decide) ?_
                  refine X.drop (xLe_s (xLe_s (xLe_s (xLe_s (xLe_s (xLe_s (xLe_s (xLe_n (xLe_n (xLe_n (xLe_n xLe_0))))))))))) (ih (i + 1) _ _ _ (by omega) (by rw [show ((i + 1 : Nat) : Int) = (i : Int) + 1 from rfl, Int.add_assoc]) ?_ ?_ ?_ ?_ ?_ ?_)
                  · rw [hT, if_neg (by omega), if_neg (by omega), if_pos (by omega)]; omega
                  · exact hL.trans ⟨fun q' a b d => by funext x; simp [wr, a, d], fun x a b => by simp [wr, a, b]⟩
                  · intro x a b
                    rw [← h50 x a b]; simp [wr]
                  · rw [h51] at c335; (try rw [show top + -1 - 1 = top - 2 by omega] at c335); (try rw [show top + -1 = top - 1 by omega] at c335); rw [h51] at c345; (try rw [show top + -1 - 1 = top - 2 by omega] at c345); (try rw [show top + -1 = top - 1 by omega] at c345)
                    rw [hU, lk1_C (by omega) (by omega)]
                    show wr σ' 51 _ _ 51 = up u1 _ _
                    dsimp only
                    rw [wr_sw, sw_eq, h51, show top + -1 - 1 = top - 2 by omega]
                    congr 1
                    symm
                    exact bI_f (by rw [if_neg c293]; exact fun h => h.elim (fun g => g c335) (fun g => g c345))
                  · rw [hU, lk1_C (by omega) (by omega)]
                    simp [wr, h12]
                  · rw [hU, lk1_C (by omega) (by omega)]
                    simp [wr, h13]
                · refine x_iconst (pc := 348) hC dX12_looks_348 ?_
                  refine x_goto (tgt := 353) (pc := 349) hC dX12_looks_349 (by decide) ?_
                  refine x_zast (pc := 353) hC (by assumption) (by omega) (by omega) dX12_looks_353 ?_
                  refine x_goto (tgt := 431) (pc := 354) hC dX12_looks_354 (by decide) ?_
                  refine x_iinc (L' := [_, _, _, _, _, _, _, _, _, _, _]) (pc := 431) hC dX12_looks_431 rfl rfl rfl ?_
                  refine x_goto (tgt := 119) (pc := 434) hC dX12_looks_434 (by decide) ?_
                  refine X.drop (xLe_s (xLe_s (xLe_s (xLe_s (xLe_s (xLe_s (xLe_s (xLe_n (xLe_n (xLe_n (xLe_n xLe_0))))))))))) (ih (i + 1) _ _ _ (by omega) (by rw [show ((i + 1 : Nat) : Int) = (i : Int) + 1 from rfl, Int.add_assoc]) ?_ ?_ ?_ ?_ ?_ ?_)
                  · rw [hT, if_neg (by omega), if_neg (by omega), if_pos (by omega)]; omega
                  · exact hL.trans ⟨fun q' a b d => by funext x; simp [wr, a, d], fun x a b => by simp [wr, a, b]⟩
                  · intro x a b
                    rw [← h50 x a b]; simp [wr]
                  · rw [h51] at c335; (try rw [show top + -1 - 1 = top - 2 by omega] at c335); (try rw [show top + -1 = top - 1 by omega] at c335); rw [h51] at c345; (try rw [show top + -1 - 1 = top - 2 by omega] at c345); (try rw [show top + -1 = top - 1 by omega] at c345)
                    rw [hU, lk1_C (by omega) (by omega)]
                    show wr σ' 51 _ _ 51 = up u1 _ _
                    dsimp only
                    rw [wr_sw, sw_eq, h51, show top + -1 - 1 = top - 2 by omega]
                    congr 1
                    symm
                    exact bI_t (by rw [if_neg c293]; exact Or.inr c345)
                  · rw [hU, lk1_C (by omega) (by omega)]
                    simp [wr, h12]
                  · rw [hU, lk1_C (by omega) (by omega)]
                    simp [wr, h13]
            · refine x_aload_n (pc := 296) hC dX12_looks_296 rfl ?_
              refine x_getr (K := 11) (pc := 297) hC fX12_24_12 (by assumption) dX12_looks_297 rfl rfl (by assumption) ?_
              refine x_iload (pc := 300) hC dX12_looks_300 rfl ?_
              refine x_iconst (pc := 302) hC dX12_looks_302 ?_
              refine x_isub (pc := 303) hC dX12_looks_303 ?_
              refine x_zald (pc := 304) hC (by assumption) (by omega) dX12_looks_304 ?_
              have g2 := hb (top + -1 - 1) (by omega) (by omega)
              refine x_if_eq (tgt := 322) (pc := 305) hC (by omega) dX12_looks_305 (by decide) (fun c305 => ?_) (fun c305 => ?_)
              · refine x_iconst (pc := 322) hC dX12_looks_322 ?_
                refine x_goto (tgt := 353) (pc := 323) hC dX12_looks_323 (by decide) ?_
                refine x_zast (pc := 353) hC (by assumption) (by omega) (by omega) dX12_looks_353 ?_
                refine x_goto (tgt := 431) (pc := 354) hC dX12_looks_354 (by decide) ?_
                refine x_iinc (L' := [_, _, _, _, _, _, _, _, _, _, _]) (pc := 431) hC dX12_looks_431 rfl rfl rfl ?_
                refine x_goto (tgt := 119) (pc := 434) hC dX12_looks_434 (by decide) ?_
                refine X.drop (xLe_s (xLe_s (xLe_s (xLe_s (xLe_s (xLe_s (xLe_s (xLe_n (xLe_n (xLe_n (xLe_n xLe_0))))))))))) (ih (i + 1) _ _ _ (by omega) (by rw [show ((i + 1 : Nat) : Int) = (i : Int) + 1 from rfl, Int.add_assoc]) ?_ ?_ ?_ ?_ ?_ ?_)
                · rw [hT, if_neg (by omega), if_neg (by omega), if_pos (by omega)]; omega
                · exact hL.trans ⟨fun q' a b d => by funext x; simp [wr, a, d], fun x a b => by simp [wr, a, b]⟩
                · intro x a b
                  rw [← h50 x a b]; simp [wr]
                · rw [h51] at c305; (try rw [show top + -1 - 1 = top - 2 by omega] at c305); (try rw [show top + -1 = top - 1 by omega] at c305)
                  rw [hU, lk1_C (by omega) (by omega)]
                  show wr σ' 51 _ _ 51 = up u1 _ _
                  dsimp only
                  rw [wr_sw, sw_eq, h51, show top + -1 - 1 = top - 2 by omega]
                  congr 1
                  symm
                  exact bI_f (by rw [if_pos c293]; exact fun h => h.1 c305)
                · rw [hU, lk1_C (by omega) (by omega)]
                  simp [wr, h12]
                · rw [hU, lk1_C (by omega) (by omega)]
                  simp [wr, h13]
              · refine x_aload_n (pc := 308) hC dX12_looks_308 rfl ?_
                refine x_getr (K := 11) (pc := 309) hC fX12_24_12 (by assumption) dX12_looks_309 rfl rfl (by assumption) ?_
                refine x_iload (pc := 312) hC dX12_looks_312 rfl ?_
                refine x_zald (pc := 314) hC (by assumption) (by omega) dX12_looks_314 ?_
                have g1 := hb (top + -1) (by omega) (by omega)
                refine x_if_eq (tgt := 322) (pc := 315) hC (by omega) dX12_looks_315 (by decide) (fun c315 => ?_) (fun c315 => ?_)
                · refine x_iconst (pc := 322) hC dX12_looks_322 ?_
                  refine x_goto (tgt := 353) (pc := 323) hC dX12_looks_323 (by decide) ?_
                  refine x_zast (pc := 353) hC (by assumption) (by omega) (by omega) dX12_looks_353 ?_
                  refine x_goto (tgt := 431) (pc := 354) hC dX12_looks_354 (by decide) ?_
                  refine x_iinc (L' := [_, _, _, _, _, _, _, _, _, _, _]) (pc := 431) hC dX12_looks_431 rfl rfl rfl ?_
                  refine x_goto (tgt := 119) (pc := 434) hC dX12_looks_434 (by decide) ?_
                  refine X.drop (xLe_s (xLe_s (xLe_s (xLe_s (xLe_s (xLe_s (xLe_s (xLe_n (xLe_n (xLe_n (xLe_n xLe_0))))))))))) (ih (i + 1) _ _ _ (by omega) (by rw [show ((i + 1 : Nat) : Int) = (i : Int) + 1 from rfl, Int.add_assoc]) ?_ ?_ ?_ ?_ ?_ ?_)
                  · rw [hT, if_neg (by omega), if_neg (by omega), if_pos (by omega)]; omega
                  · exact hL.trans ⟨fun q' a b d => by funext x; simp [wr, a, d], fun x a b => by simp [wr, a, b]⟩
                  · intro x a b
                    rw [← h50 x a b]; simp [wr]
                  · rw [h51] at c305; (try rw [show top + -1 - 1 = top - 2 by omega] at c305); (try rw [show top + -1 = top - 1 by omega] at c305); rw [h51] at c315; (try rw [show top + -1 - 1 = top - 2 by omega] at c315); (try rw [show top + -1 = top - 1 by omega] at c315)
                    rw [hU, lk1_C (by omega) (by omega)]
                    show wr σ' 51 _ _ 51 = up u1 _ _
                    dsimp only
                    rw [wr_sw, sw_eq, h51, show top + -1 - 1 = top - 2 by omega]
                    congr 1
                    symm
                    exact bI_f (by rw [if_pos c293]; exact fun h => h.2 c315)
                  · rw [hU, lk1_C (by omega) (by omega)]
                    simp [wr, h12]
                  · rw [hU, lk1_C (by omega) (by omega)]
                    simp [wr, h13]
                · refine x_iconst (pc := 318) hC dX12_looks_318 ?_
                  refine x_goto (tgt := 353) (pc := 319) hC dX12_looks_319 (by decide) ?_
                  refine x_zast (pc := 353) hC (by assumption) (by omega) (by omega) dX12_looks_353 ?_
                  refine x_goto (tgt := 431) (pc := 354) hC dX12_looks_354 (by decide) ?_
                  refine x_iinc (L' := [_, _, _, _, _, _, _, _, _, _, _]) (pc := 431) hC dX12_looks_431 rfl rfl rfl ?_
                  refine x_goto (tgt := 119) (pc := 434) hC dX12_looks_434 (by decide) ?_
                  refine X.drop (xLe_s (xLe_s (xLe_s (xLe_s (xLe_s (xLe_s (xLe_s (xLe_n (xLe_n (xLe_n (xLe_n xLe_0))))))))))) (ih (i + 1) _ _ _ (by omega) (by rw [show ((i + 1 : Nat) : Int) = (i : Int) + 1 from rfl, Int.add_assoc]) ?_ ?_ ?_ ?_ ?_ ?_)
                  · rw [hT, if_neg (by omega), if_neg (by omega), if_pos (by omega)]; omega
                  · exact hL.trans ⟨fun q' a b d => by funext x; simp [wr, a, d], fun x a b => by simp [wr, a, b]⟩
                  · intro x a b
                    rw [← h50 x a b]; simp [wr]
                  · rw [h51] at c305; (try rw [show top + -1 - 1 = top - 2 by omega] at c305); (try rw [show top + -1 = top - 1 by omega] at c305); rw [h51] at c315; (try rw [show top + -1 - 1 = top - 2 by omega] at c315); (try rw [show top + -1 = top - 1 by omega] at c315)
                    rw [hU, lk1_C (by omega) (by omega)]
                    show wr σ' 51 _ _ 51 = up u1 _ _
                    dsimp only
                    rw [wr_sw, sw_eq, h51, show top + -1 - 1 = top - 2 by omega]
                    congr 1
                    symm
                    exact bI_t (by rw [if_pos c293]; exact And.intro c305 c315)
                  · rw [hU, lk1_C (by omega) (by omega)]
                    simp [wr, h12]
                  · rw [hU, lk1_C (by omega) (by omega)]
                    simp [wr, h13]
        · refine x_aload_n (pc := 242) hC dX12_looks_242 rfl ?_
          refine x_getr (K := 11) (pc := 243) hC fX12_24_12 (by assumption) dX12_looks_243 rfl rfl (by assumption) ?_
          refine x_iload (pc := 246) hC dX12_looks_246 rfl ?_
          refine x_iconst (pc := 248) hC dX12_looks_248 ?_
          refine x_isub (pc := 249) hC dX12_looks_249 ?_
          refine x_aload_n (pc := 250) hC dX12_looks_250 rfl ?_
          refine x_getr (K := 11) (pc := 251) hC fX12_24_12 (by assumption) dX12_looks_251 rfl rfl (by assumption) ?_
          refine x_iload (pc := 254) hC dX12_looks_254 rfl ?_
          refine x_iconst (pc := 256) hC dX12_looks_256 ?_
          refine x_isub (pc := 257) hC dX12_looks_257 ?_
          refine x_zald (pc := 258) hC (by assumption) (by omega) dX12_looks_258 ?_
          have g1 := hb (top - 1) (by omega) (by omega)
          refine x_if_ne (tgt := 266) (pc := 259) hC (by omega) dX12_looks_259 (by decide) (fun c259 => ?_) (fun c259 => ?_)
          · refine x_iconst (pc := 266) hC dX12_looks_266 ?_
            refine x_zast (pc := 267) hC (by assumption) (by omega) (by omega) dX12_looks_267 ?_
            refine x_goto (tgt := 431) (pc := 268) hC dX12_looks_268 (by decide) ?_
            refine x_iinc (L' := [_, _, _, _, _, _, _, _, _, _, _]) (pc := 431) hC dX12_looks_431 rfl rfl rfl ?_
            refine x_goto (tgt := 119) (pc := 434) hC dX12_looks_434 (by decide) ?_
            refine X.drop (xLe_s (xLe_s (xLe_s (xLe_s (xLe_s (xLe_s (xLe_s (xLe_n (xLe_n (xLe_n (xLe_n xLe_0))))))))))) (ih (i + 1) _ _ _ (by omega) (by rw [show ((i + 1 : Nat) : Int) = (i : Int) + 1 from rfl, Int.add_assoc]) ?_ ?_ ?_ ?_ ?_ ?_)
            · rw [hT, if_neg (by omega), if_pos (by omega)]
            · exact hL.trans ⟨fun q' a b d => by funext x; simp [wr, a, d], fun x a b => by simp [wr, a, b]⟩
            · intro x a b
              rw [← h50 x a b]; simp [wr]
            · rw [h51] at c259
              rw [hU, lk1_B (by omega)]
              show wr σ' 51 _ _ 51 = up u1 _ _
              rw [wr_sw, sw_eq, h51, bI_f c259]
            · rw [hU, lk1_B (by omega)]
              simp [wr, h12]
            · rw [hU, lk1_B (by omega)]
              simp [wr, h13]
          · refine x_iconst (pc := 262) hC dX12_looks_262 ?_
            refine x_goto (tgt := 267) (pc := 263) hC dX12_looks_263 (by decide) ?_
            refine x_zast (pc := 267) hC (by assumption) (by omega) (by omega) dX12_looks_267 ?_
            refine x_goto (tgt := 431) (pc := 268) hC dX12_looks_268 (by decide) ?_
            refine x_iinc (L' := [_, _, _, _, _, _, _, _, _, _, _]) (pc := 431) hC dX12_looks_431 rfl rfl rfl ?_
            refine x_goto (tgt := 119) (pc := 434) hC dX12_looks_434 (by decide) ?_
            refine X.drop (xLe_s (xLe_s (xLe_s (xLe_s (xLe_s (xLe_s (xLe_s (xLe_n (xLe_n (xLe_n (xLe_n xLe_0))))))))))) (ih (i + 1) _ _ _ (by omega) (by rw [show ((i + 1 : Nat) : Int) = (i : Int) + 1 from rfl, Int.add_assoc]) ?_ ?_ ?_ ?_ ?_ ?_)
            · rw [hT, if_neg (by omega), if_pos (by omega)]
            · exact hL.trans ⟨fun q' a b d => by funext x; simp [wr, a, d], fun x a b => by simp [wr, a, b]⟩
            · intro x a b
              rw [← h50 x a b]; simp [wr]
            · rw [h51] at c259
              rw [hU, lk1_B (by omega)]
              show wr σ' 51 _ _ 51 = up u1 _ _
              rw [wr_sw, sw_eq, h51, bI_t c259]
            · rw [hU, lk1_B (by omega)]
              simp [wr, h12]
            · rw [hU, lk1_B (by omega)]
              simp [wr, h13]
      · refine x_aload_n (pc := 142) hC dX12_looks_142 rfl ?_
        refine x_getr (K := 10) (pc := 143) hC fX12_21_12 (by assumption) dX12_looks_143 rfl rfl (by assumption) ?_
        refine x_iload (pc := 146) hC dX12_looks_146 rfl ?_
        refine x_bipush (pc := 148) hC dX12_looks_148 (by decide +kernel) ?_
        refine x_irem (pc := 150) hC (by omega) dX12_looks_150 ?_
        refine x_iald (pc := 151) hC (by assumption) (by omega) dX12_looks_151 ?_
        rw [h50 (step % 8) (by omega) (by omega)]
        have hbz := hbr (step % 8)
        refine x_istore (L' := [_, _, _, _, _, _, _, _, _, _, _]) (pc := 152) hC dX12_looks_152 rfl rfl ?_
        refine x_iload (pc := 154) hC dX12_looks_154 rfl ?_
        refine x_bipush (pc := 156) hC dX12_looks_156 (by decide +kernel) ?_
        refine x_idiv (pc := 158) hC (by omega) dX12_looks_158 ?_
        refine x_iconst (pc := 159) hC dX12_looks_159 ?_
        refine x_irem (pc := 160) hC (by omega) dX12_looks_160 ?_
        refine x_istore (L' := [_, _, _, _, _, _, _, _, _, _, _]) (pc := 161) hC dX12_looks_161 rfl rfl ?_
        refine x_iload (pc := 163) hC dX12_looks_163 rfl ?_
        refine x_bipush (pc := 165) hC dX12_looks_165 (by decide +kernel) ?_
        refine x_idiv (pc := 167) hC (by omega) dX12_looks_167 ?_
        refine x_istore (L' := [_, _, _, _, _, _, _, _, _, _, _]) (pc := 168) hC dX12_looks_168 rfl rfl ?_
        refine x_aload_n (pc := 170) hC dX12_looks_170 rfl ?_
        refine x_getr (K := 11) (pc := 171) hC fX12_24_12 (by assumption) dX12_looks_171 rfl rfl (by assumption) ?_
        refine x_iload (pc := 174) hC dX12_looks_174 rfl ?_
        refine x_iload (pc := 176) hC dX12_looks_176 rfl ?_
        refine x_if_ne (tgt := 196) (pc := 178) hC (by omega) dX12_looks_178 (by decide) (fun c178 => ?_) (fun c178 => ?_)
        · refine x_iload (pc := 196) hC dX12_looks_196 rfl ?_
          refine x_iconst (pc := 198) hC dX12_looks_198 ?_
          refine x_icmp_ne (tgt := 217) (pc := 199) hC (by omega) (by omega) dX12_looks_199 (by decide) (fun c199 => ?_) (fun c199 => ?_)
          · refine x_iload (pc := 217) hC dX12_looks_217 rfl ?_
            refine x_iload (pc := 219) hC dX12_looks_219 rfl ?_
            refine x_icmp_le (tgt := 228) (pc := 221) hC (by omega) (by omega) dX12_looks_221 (by decide) (fun c221 => ?_) (fun c221 => ?_)
            · refine x_iconst (pc := 228) hC dX12_looks_228 ?_
              refine x_zast (pc := 229) hC (by assumption) (by omega) (by omega) dX12_looks_229 ?_
              refine x_iinc (L' := [_, _, _, _, _, _, _, _, _, _, _]) (pc := 230) hC dX12_looks_230 rfl rfl rfl ?_
              refine x_goto (tgt := 431) (pc := 233) hC dX12_looks_233 (by decide) ?_
              refine x_iinc (L' := [_, _, _, _, _, _, _, _, _, _, _]) (pc := 431) hC dX12_looks_431 rfl rfl rfl ?_
              refine x_goto (tgt := 119) (pc := 434) hC dX12_looks_434 (by decide) ?_
              refine X.drop (xLe_s (xLe_s (xLe_s (xLe_s (xLe_s (xLe_s (xLe_s (xLe_n (xLe_n (xLe_n (xLe_n xLe_0))))))))))) (ih (i + 1) _ _ _ (by omega) (by rw [show ((i + 1 : Nat) : Int) = (i : Int) + 1 from rfl, Int.add_assoc]) ?_ ?_ ?_ ?_ ?_ ?_)
              · rw [hT, if_pos (by omega)]
              · exact hL.trans ⟨fun q' a b d => by funext x; simp [wr, a, d], fun x a b => by simp [wr, a, b]⟩
              · intro x a b
                rw [← h50 x a b]; simp [wr]
              · rw [hU, lk1_A (by omega)]
                show wr σ' 51 _ _ 51 = up u1 _ _
                rw [wr_sw, sw_eq, h51, bI_f (by omega)]
              · rw [hU, lk1_A (by omega)]
                simp [wr, h12]
              · rw [hU, lk1_A (by omega)]
                simp [wr, h13]
            · refine x_iconst (pc := 224) hC dX12_looks_224 ?_
              refine x_goto (tgt := 229) (pc := 225) hC dX12_looks_225 (by decide) ?_
              refine x_zast (pc := 229) hC (by assumption) (by omega) (by omega) dX12_looks_229 ?_
              refine x_iinc (L' := [_, _, _, _, _, _, _, _, _, _, _]) (pc := 230) hC dX12_looks_230 rfl rfl rfl ?_
              refine x_goto (tgt := 431) (pc := 233) hC dX12_looks_233 (by decide) ?_
              refine x_iinc (L' := [_, _, _, _, _, _, _, _, _, _, _]) (pc := 431) hC dX12_looks_431 rfl rfl rfl ?_
              refine x_goto (tgt := 119) (pc := 434) hC dX12_looks_434 (by decide) ?_
              refine X.drop (xLe_s (xLe_s (xLe_s (xLe_s (xLe_s (xLe_s (xLe_s (xLe_n (xLe_n (xLe_n (xLe_n xLe_0))))))))))) (ih (i + 1) _ _ _ (by omega) (by rw [show ((i + 1 : Nat) : Int) = (i : Int) + 1 from rfl, Int.add_assoc]) ?_ ?_ ?_ ?_ ?_ ?_)
              · rw [hT, if_pos (by omega)]
              · exact hL.trans ⟨fun q' a b d => by funext x; simp [wr, a, d], fun x a b => by simp [wr, a, b]⟩
              · intro x a b
                rw [← h50 x a b]; simp [wr]
              · rw [hU, lk1_A (by omega)]
                show wr σ' 51 _ _ 51 = up u1 _ _
                rw [wr_sw, sw_eq, h51, bI_t (by omega)]
              · rw [hU, lk1_A (by omega)]
                simp [wr, h12]
              · rw [hU, lk1_A (by omega)]
                simp [wr, h13]
          · refine x_iload (pc := 202) hC dX12_looks_202 rfl ?_
            refine x_iload (pc := 204) hC dX12_looks_204 rfl ?_
            refine x_icmp_ne (tgt := 213) (pc := 206) hC (by omega) (by omega) dX12_looks_206 (by decide) (fun c206 => ?_) (fun c206 => ?_)
            · refine x_iconst (pc := 213) hC dX12_looks_213 ?_
              refine x_goto (tgt := 229) (pc := 214) hC dX12_looks_214 (by decide) ?_
              refine x_zast (pc := 229) hC (by assumption) (by omega) (by omega) dX12_looks_229 ?_
              refine x_iinc (L' := [_, _, _, _, _, _, _, _, _, _, _]) (pc := 230) hC dX12_looks_230 rfl rfl rfl ?_
              refine x_goto (tgt := 431) (pc := 233) hC dX12_looks_233 (by decide) ?_
              refine x_iinc (L' := [_, _, _, _, _, _, _, _, _, _, _]) (pc := 431) hC dX12_looks_431 rfl rfl rfl ?_
              refine x_goto (tgt := 119) (pc := 434) hC dX12_looks_434 (by decide) ?_
              refine X.drop (xLe_s (xLe_s (xLe_s (xLe_s (xLe_s (xLe_s (xLe_s (xLe_n (xLe_n (xLe_n (xLe_n xLe_0))))))))))) (ih (i + 1) _ _ _ (by omega) (by rw [show ((i + 1 : Nat) : Int) = (i : Int) + 1 from rfl, Int.add_assoc]) ?_ ?_ ?_ ?_ ?_ ?_)
              · rw [hT, if_pos (by omega)]
              · exact hL.trans ⟨fun q' a b d => by funext x; simp [wr, a, d], fun x a b => by simp [wr, a, b]⟩
              · intro x a b
                rw [← h50 x a b]; simp [wr]
              · rw [hU, lk1_A (by omega)]
                show wr σ' 51 _ _ 51 = up u1 _ _
                rw [wr_sw, sw_eq, h51, bI_f (by omega)]
              · rw [hU, lk1_A (by omega)]
                simp [wr, h12]
              · rw [hU, lk1_A (by omega)]
                simp [wr, h13]
            · refine x_iconst (pc := 209) hC dX12_looks_209 ?_
              refine x_goto (tgt := 229) (pc := 210) hC dX12_looks_210 (by decide) ?_
              refine x_zast (pc := 229) hC (by assumption) (by omega) (by omega) dX12_looks_229 ?_
              refine x_iinc (L' := [_, _, _, _, _, _, _, _, _, _, _]) (pc := 230) hC dX12_looks_230 rfl rfl rfl ?_
              refine x_goto (tgt := 431) (pc := 233) hC dX12_looks_233 (by decide) ?_
              refine x_iinc (L' := [_, _, _, _, _, _, _, _, _, _, _]) (pc := 431) hC dX12_looks_431 rfl rfl rfl ?_
              refine x_goto (tgt := 119) (pc := 434) hC dX12_looks_434 (by decide) ?_
              refine X.drop (xLe_s (xLe_s (xLe_s (xLe_s (xLe_s (xLe_s (xLe_s (xLe_n (xLe_n (xLe_n (xLe_n xLe_0))))))))))) (ih (i + 1) _ _ _ (by omega) (by rw [show ((i + 1 : Nat) : Int) = (i : Int) + 1 from rfl, Int.add_assoc]) ?_ ?_ ?_ ?_ ?_ ?_)
              · rw [hT, if_pos (by omega)]
              · exact hL.trans ⟨fun q' a b d => by funext x; simp [wr, a, d], fun x a b => by simp [wr, a, b]⟩
              · intro x a b
                rw [← h50 x a b]; simp [wr]
              · rw [hU, lk1_A (by omega)]
                show wr σ' 51 _ _ 51 = up u1 _ _
                rw [wr_sw, sw_eq, h51, bI_t (by omega)]
              · rw [hU, lk1_A (by omega)]
                simp [wr, h12]
              · rw [hU, lk1_A (by omega)]
                simp [wr, h13]
        · refine x_iload (pc := 181) hC dX12_looks_181 rfl ?_
          refine x_iload (pc := 183) hC dX12_looks_183 rfl ?_
          refine x_icmp_ge (tgt := 192) (pc := 185) hC (by omega) (by omega) dX12_looks_185 (by decide) (fun c185 => ?_) (fun c185 => ?_)
          · refine x_iconst (pc := 192) hC dX12_looks_192 ?_
            refine x_goto (tgt := 229) (pc := 193) hC dX12_looks_193 (by decide) ?_
            refine x_zast (pc := 229) hC (by assumption) (by omega) (by omega) dX12_looks_229 ?_
            refine x_iinc (L' := [_, _, _, _, _, _, _, _, _, _, _]) (pc := 230) hC dX12_looks_230 rfl rfl rfl ?_
            refine x_goto (tgt := 431) (pc := 233) hC dX12_looks_233 (by decide) ?_
            refine x_iinc (L' := [_, _, _, _, _, _, _, _, _, _, _]) (pc := 431) hC dX12_looks_431 rfl rfl rfl ?_
            refine x_goto (tgt := 119) (pc := 434) hC dX12_looks_434 (by decide) ?_
            refine X.drop (xLe_s (xLe_s (xLe_s (xLe_s (xLe_s (xLe_s (xLe_s (xLe_n (xLe_n (xLe_n (xLe_n xLe_0))))))))))) (ih (i + 1) _ _ _ (by omega) (by rw [show ((i + 1 : Nat) : Int) = (i : Int) + 1 from rfl, Int.add_assoc]) ?_ ?_ ?_ ?_ ?_ ?_)
            · rw [hT, if_pos (by omega)]
            · exact hL.trans ⟨fun q' a b d => by funext x; simp [wr, a, d], fun x a b => by simp [wr, a, b]⟩
            · intro x a b
              rw [← h50 x a b]; simp [wr]
            · rw [hU, lk1_A (by omega)]
              show wr σ' 51 _ _ 51 = up u1 _ _
              rw [wr_sw, sw_eq, h51, bI_f (by omega)]
            · rw [hU, lk1_A (by omega)]
              simp [wr, h12]
            · rw [hU, lk1_A (by omega)]
              simp [wr, h13]
          · refine x_iconst (pc := 188) hC dX12_looks_188 ?_
            refine x_goto (tgt := 229) (pc := 189) hC dX12_looks_189 (by decide) ?_
            refine x_zast (pc := 229) hC (by assumption) (by omega) (by omega) dX12_looks_229 ?_
            refine x_iinc (L' := [_, _, _, _, _, _, _, _, _, _, _]) (pc := 230) hC dX12_looks_230 rfl rfl rfl ?_
            refine x_goto (tgt := 431) (pc := 233) hC dX12_looks_233 (by decide) ?_
            refine x_iinc (L' := [_, _, _, _, _, _, _, _, _, _, _]) (pc := 431) hC dX12_looks_431 rfl rfl rfl ?_
            refine x_goto (tgt := 119) (pc := 434) hC dX12_looks_434 (by decide) ?_
            refine X.drop (xLe_s (xLe_s (xLe_s (xLe_s (xLe_s (xLe_s (xLe_s (xLe_n (xLe_n (xLe_n (xLe_n xLe_0))))))))))) (ih (i + 1) _ _ _ (by omega) (by rw [show ((i + 1 : Nat) : Int) = (i : Int) + 1 from rfl, Int.add_assoc]) ?_ ?_ ?_ ?_ ?_ ?_)
            · rw [hT, if_pos (by omega)]
            · exact hL.trans ⟨fun q' a b d => by funext x; simp [wr, a, d], fun x a b => by simp [wr, a, b]⟩
            · intro x a b
              rw [← h50 x a b]; simp [wr]
            · rw [hU, lk1_A (by omega)]
              show wr σ' 51 _ _ 51 = up u1 _ _
              rw [wr_sw, sw_eq, h51, bI_t (by omega)]
            · rw [hU, lk1_A (by omega)]
              simp [wr, h12]
            · rw [hU, lk1_A (by omega)]
              simp [wr, h13]
  refine x_aload_n (pc := 0) hC dX12_looks_0 rfl ?_
  refine x_getr (K := 10) (pc := 1) hC fX12_21_12 (by assumption) dX12_looks_1 rfl rfl (by assumption) ?_
  refine x_iconst (pc := 4) hC dX12_looks_4 ?_
  refine x_iload_n (pc := 5) hC dX12_looks_5 rfl ?_
  refine x_iast (pc := 6) hC (by assumption) (by omega) dX12_looks_6 ?_
  refine x_aload_n (pc := 7) hC dX12_looks_7 rfl ?_
  refine x_getr (K := 10) (pc := 8) hC fX12_21_12 (by assumption) dX12_looks_8 rfl rfl (by assumption) ?_
  refine x_iconst (pc := 11) hC dX12_looks_11 ?_
  refine x_aload_n (pc := 12) hC dX12_looks_12 rfl ?_
  refine x_getr (K := 1) (pc := 13) hC fX12_9_12 (by assumption) dX12_looks_13 rfl rfl (by assumption) ?_
  refine x_bipush (pc := 16) hC dX12_looks_16 (by decide +kernel) ?_
  refine x_iload_n (pc := 18) hC dX12_looks_18 rfl ?_
  refine x_iadd (pc := 19) hC dX12_looks_19 ?_
  refine x_iald (pc := 20) hC (by assumption) (by omega) dX12_looks_20 ?_
  refine x_iast (pc := 21) hC (by assumption) (by omega) dX12_looks_21 ?_
  refine x_aload_n (pc := 22) hC dX12_looks_22 rfl ?_
  refine x_getr (K := 10) (pc := 23) hC fX12_21_12 (by assumption) dX12_looks_23 rfl rfl (by assumption) ?_
  refine x_iconst (pc := 26) hC dX12_looks_26 ?_
  refine x_aload_n (pc := 27) hC dX12_looks_27 rfl ?_
  refine x_getr (K := 1) (pc := 28) hC fX12_9_12 (by assumption) dX12_looks_28 rfl rfl (by assumption) ?_
  refine x_iconst (pc := 31) hC dX12_looks_31 ?_
  refine x_iload_n (pc := 32) hC dX12_looks_32 rfl ?_
  refine x_iadd (pc := 33) hC dX12_looks_33 ?_
  refine x_iald (pc := 34) hC (by assumption) (by omega) dX12_looks_34 ?_
  refine x_bipush (pc := 35) hC dX12_looks_35 (by decide +kernel) ?_
  refine x_idiv (pc := 37) hC (by simp only [wr_p _ (show (47 : Nat) ≠ 50 by decide)]; omega) dX12_looks_37 ?_
  refine x_iast (pc := 38) hC (by assumption) (by omega) dX12_looks_38 ?_
  refine x_aload_n (pc := 39) hC dX12_looks_39 rfl ?_
  refine x_getr (K := 10) (pc := 40) hC fX12_21_12 (by assumption) dX12_looks_40 rfl rfl (by assumption) ?_
  refine x_iconst (pc := 43) hC dX12_looks_43 ?_
  refine x_aload_n (pc := 44) hC dX12_looks_44 rfl ?_
  refine x_getr (K := 1) (pc := 45) hC fX12_9_12 (by assumption) dX12_looks_45 rfl rfl (by assumption) ?_
  refine x_bipush (pc := 48) hC dX12_looks_48 (by decide +kernel) ?_
  refine x_iload_n (pc := 50) hC dX12_looks_50 rfl ?_
  refine x_iadd (pc := 51) hC dX12_looks_51 ?_
  refine x_iald (pc := 52) hC (by assumption) (by omega) dX12_looks_52 ?_
  refine x_iast (pc := 53) hC (by assumption) (by omega) dX12_looks_53 ?_
  refine x_aload_n (pc := 54) hC dX12_looks_54 rfl ?_
  refine x_getr (K := 10) (pc := 55) hC fX12_21_12 (by assumption) dX12_looks_55 rfl rfl (by assumption) ?_
  refine x_iconst (pc := 58) hC dX12_looks_58 ?_
  refine x_aload_n (pc := 59) hC dX12_looks_59 rfl ?_
  refine x_getr (K := 1) (pc := 60) hC fX12_9_12 (by assumption) dX12_looks_60 rfl rfl (by assumption) ?_
  refine x_iconst (pc := 63) hC dX12_looks_63 ?_
  refine x_iald (pc := 64) hC (by assumption) (by omega) dX12_looks_64 ?_
  refine x_bipush (pc := 65) hC dX12_looks_65 (by decide +kernel) ?_
  refine x_irem (pc := 67) hC (by simp only [wr_p _ (show (47 : Nat) ≠ 50 by decide)]; omega) dX12_looks_67 ?_
  refine x_iast (pc := 68) hC (by assumption) (by omega) dX12_looks_68 ?_
  refine x_aload_n (pc := 69) hC dX12_looks_69 rfl ?_
  refine x_getr (K := 10) (pc := 70) hC fX12_21_12 (by assumption) dX12_looks_70 rfl rfl (by assumption) ?_
  refine x_iconst (pc := 73) hC dX12_looks_73 ?_
  refine x_iload_n (pc := 74) hC dX12_looks_74 rfl ?_
  refine x_iast (pc := 75) hC (by assumption) (by omega) dX12_looks_75 ?_
  refine x_aload_n (pc := 76) hC dX12_looks_76 rfl ?_
  refine x_iconst (pc := 77) hC dX12_looks_77 ?_
  refine x_puti (K := 12) (pc := 78) hC rfl fX12_124_12 rfl (by assumption) dX12_looks_78 rfl ?_
  refine x_aload_n (pc := 81) hC dX12_looks_81 rfl ?_
  refine x_iconst (pc := 82) hC dX12_looks_82 ?_
  refine x_puti (K := 13) (pc := 83) hC rfl fX12_127_12 rfl (by assumption) dX12_looks_83 rfl ?_
  refine X.gen (P := fun σ' => (∀ q', q' ≠ 46 → q' ≠ 50 → σ' q' = σ q') ∧ (∀ j, j ≠ 12 → j ≠ 13 → σ' 46 j = σ 46 j) ∧ (∀ j, 0 ≤ j → j < 6 → σ' 50 j = byF (σ 47) q on j) ∧ σ' 46 12 = 0 ∧ σ' 46 13 = 0) ⟨fun q' a b => by funext x; simp [wr, a, b], fun j a b => by simp [wr, a, b], fun j a b => by rcases (show j = 0 ∨ j = 1 ∨ j = 2 ∨ j = 3 ∨ j = 4 ∨ j = 5 by omega) with rfl | rfl | rfl | rfl | rfl | rfl <;> simp [wr, byF], by simp [wr], by simp [wr]⟩ (fun σ1 hg => ?_)
  obtain ⟨g1, g2, g3, g4, g5⟩ := hg
  have e47 : σ1 47 = σ 47 := g1 47 (by decide) (by decide)
  refine x_aload_n (pc := 86) hC dX12_looks_86 rfl ?_
  refine x_sipush (pc := 87) hC dX12_looks_87 (by decide +kernel) ?_
  refine x_iconst (pc := 90) hC dX12_looks_90 ?_
  refine x_callV1 (As := [_, _]) (Bs := [_, _]) (pc := 91) hC (s_tellsOf E hk hw (by rw [e47]; omega) (by omega)) wX12_130_12 pX12_tellsOf (by assumption) rfl rfl (by exact Nat.le_of_ble_eq_true rfl) hR (by decide) (by decide) (by decide) rfl dX12_looks_91 ?_
  rw [e47]
  refine x_istore_n (L' := [_, _, _, _, _, _, _, _, _, _, _]) (pc := 94) hC dX12_looks_94 rfl rfl ?_
  refine x_sipush (pc := 95) hC dX12_looks_95 (by decide +kernel) ?_
  refine x_sipush (pc := 98) hC dX12_looks_98 (by decide +kernel) ?_
  refine x_aload_n (pc := 101) hC dX12_looks_101 rfl ?_
  refine x_getr (K := 1) (pc := 102) hC fX12_9_12 (by assumption) dX12_looks_102 rfl rfl (by assumption) ?_
  refine x_bipush (pc := 105) hC dX12_looks_105 (by decide +kernel) ?_
  refine x_iald (pc := 107) hC (by assumption) (by omega) dX12_looks_107 ?_
  rw [e47]
  refine x_imul (pc := 108) hC dX12_looks_108 ?_
  refine x_iadd (pc := 109) hC dX12_looks_109 ?_
  refine x_istore (L' := [_, _, _, _, _, _, _, _, _, _, _]) (pc := 110) hC dX12_looks_110 rfl rfl ?_
  refine x_iconst (pc := 112) hC dX12_looks_112 ?_
  refine x_istore (L' := [_, _, _, _, _, _, _, _, _, _, _]) (pc := 113) hC dX12_looks_113 rfl rfl ?_
  refine x_iload (pc := 115) hC dX12_looks_115 rfl ?_
  refine x_istore (L' := [_, _, _, _, _, _, _, _, _, _, _]) (pc := 117) hC dX12_looks_117 rfl rfl ?_
  refine X.drop (xLe_s (xLe_s (xLe_s (xLe_s (xLe_s (xLe_s (xLe_s (xLe_n (xLe_n (xLe_n (xLe_n xLe_0))))))))))) (loop (tellsF (σ 47) 228 0).toNat 0 σ1 0 _ (by omega) (by simp) rfl ⟨fun q' a b d => g1 q' a b, g2⟩ g3 (g1 51 (by decide) (by decide)) g4 g5)
