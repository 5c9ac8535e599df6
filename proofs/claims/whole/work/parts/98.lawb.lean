/-! THE LAW, its cases 4 to 7 -/
set_option maxHeartbeats 4000000 in
set_option maxRecDepth 100000 in
theorem lw_turn {E : xE} {p : Program} {e : Env} {R : Room} {s : State} {m : MethodId} {args : Array Value} {below : List Frame} {meth : Method} {c : Code} {Z : State → Prop} (hC : XC E p R s m args meth c cL_law RL ret 4) (hR : xRm R 1312 600000 7302250) {b L : Nat} {xs : Nat → Int32} (hX : va_X b L xs s s.heap) (hbl : b < s.heap.size) (h62 : E.2.2.2.2.2 62 = b) (h0 : E.2.2.2.1 = s.heap.size) (hL : L ≤ 3072) {i : Int} (hi : 0 ≤ i ∧ i + 6 ≤ L) {kc ns : Nat} (hkc : kc ≤ 100000) (hns : ns ≤ 1000000) {σ : xM} {ρ : xR} {ks : xKs} {z : zS} (hz47 : σ 47 = z) (hLH : LH σ ρ ks z)
    (K : ∀ (σ' : xM) (ρ' : xR) (ks' : xKs) (z' : zS) (kc' ns' : Nat), kc' ≤ kc + 8 → ns' ≤ ns + 200 → σ' 47 = z' → LH σ' ρ' ks' z' → X E p e R s m args below meth c Z kc' ns' σ' ρ' ks' 1634 [some (.float 126), some (.ref 0), some (.ref 46), some (.int (iI i))] []) : X E p e R s m args below meth c Z kc ns σ ρ ks 356 [some (.float 126), some (.ref 0), some (.ref 46), some (.int (iI i))] [] := by
  obtain ⟨a1, a2, a3, a4, a5, a6, a7, a8, a9⟩ := id hLH
  obtain ⟨hP, hCn, hSe, hRu, hBk, hTp, h20, h21, hz0, hout⟩ := id a5
  have hz0' := hP.2.2.2
  obtain ⟨n15, n16, n17, n18, n19⟩ := id hCn
  have k0 : ks[0]? = some (0, 11) := a4.1
  have k46 : ks[46]? = some (0, 12) := a2.1
  refine x_aload_n (pc := 356) hC dL_law_356 rfl ?_
  refine x_aloadS_n (pc := 357) hC dL_law_357 rfl ?_
  refine x_iload_n (pc := 358) hC dL_law_358 rfl ?_
  refine x_iconst (pc := 359) hC dL_law_359 ?_
  refine x_iadd (pc := 360) hC dL_law_360 ?_
  refine x_sld (pc := 361) hC hX hbl h62 h0 (by omega) (by omega) dL_law_361 ?_
  refine x_aloadS_n (pc := 362) hC dL_law_362 rfl ?_
  refine x_iload_n (pc := 363) hC dL_law_363 rfl ?_
  refine x_iconst (pc := 364) hC dL_law_364 ?_
  refine x_iadd (pc := 365) hC dL_law_365 ?_
  refine x_sld (pc := 366) hC hX hbl h62 h0 (by omega) (by omega) dL_law_366 ?_
  refine x_aloadS_n (pc := 367) hC dL_law_367 rfl ?_
  refine x_iload_n (pc := 368) hC dL_law_368 rfl ?_
  refine x_iconst (pc := 369) hC dL_law_369 ?_
  refine x_iadd (pc := 370) hC dL_law_370 ?_
  refine x_sld (pc := 371) hC hX hbl h62 h0 (by omega) (by omega) dL_law_371 ?_
  refine x_aloadS_n (pc := 372) hC dL_law_372 rfl ?_
  refine x_iload_n (pc := 373) hC dL_law_373 rfl ?_
  refine x_iconst (pc := 374) hC dL_law_374 ?_
  refine x_iadd (pc := 375) hC dL_law_375 ?_
  refine x_sld (pc := 376) hC hX hbl h62 h0 (by omega) (by omega) dL_law_376 ?_
  refine x_callV (As := [_, _, _, _]) (Bs := [_, _, _, _]) (pc := 377) hC (c_turn E a4 a6 hP (sc_rg xs (i + 1)) (sc_rg xs (i + 2)) (sc_rg xs (i + 3)) (sc_rg xs (i + 4)) (by omega)) wL_33_11 pX11_turn (by assumption) rfl rfl (by exact Nat.le_of_ble_eq_true rfl) hR (by omega) (by decide) (by omega) rfl dL_law_377 (fun r377 σ377 ρ377 ks377 q377 => ?_)
  obtain ⟨rfl, hz1, hx, e377, f377⟩ := q377
  obtain rfl := e377.symm
  obtain rfl := f377.symm
  have hI1 : Inv (turnZ z (sc xs (i + 1)) (sc xs (i + 2)) (sc xs (i + 3)) (sc xs (i + 4))) := turn_inv a5 _ _ _ _
  have hH1 : LH σ377 ρ ks (turnZ z (sc xs (i + 1)) (sc xs (i + 2)) (sc xs (i + 3)) (sc xs (i + 4))) := hLH.hx hx hz1 hI1 (turn_13 hP hCn _ _ _ _) (fun f f0 f1 => turn_22 hP hCn f0 f1 _ _ _ _)
  have g47 : σ377 47 = z := (hLH.hx46 hx 47 (by decide) (by decide)).trans hz47
  obtain ⟨b1, b2, b3, b4, b5, b6, b7, b8, b9⟩ := id hH1
  refine x_aload_n (pc := 380) hC dL_law_380 rfl ?_
  refine x_aloadS_n (pc := 381) hC dL_law_381 rfl ?_
  refine x_iload_n (pc := 382) hC dL_law_382 rfl ?_
  refine x_iconst (pc := 383) hC dL_law_383 ?_
  refine x_iadd (pc := 384) hC dL_law_384 ?_
  refine x_sld (pc := 385) hC hX hbl h62 h0 (by omega) (by omega) dL_law_385 ?_
  refine x_aloadS_n (pc := 386) hC dL_law_386 rfl ?_
  refine x_iload_n (pc := 387) hC dL_law_387 rfl ?_
  refine x_iconst (pc := 388) hC dL_law_388 ?_
  refine x_iadd (pc := 389) hC dL_law_389 ?_
  refine x_sld (pc := 390) hC hX hbl h62 h0 (by omega) (by omega) dL_law_390 ?_
  refine x_aloadS_n (pc := 391) hC dL_law_391 rfl ?_
  refine x_iload_n (pc := 392) hC dL_law_392 rfl ?_
  refine x_iconst (pc := 393) hC dL_law_393 ?_
  refine x_iadd (pc := 394) hC dL_law_394 ?_
  refine x_sld (pc := 395) hC hX hbl h62 h0 (by omega) (by omega) dL_law_395 ?_
  refine x_aloadS_n (pc := 396) hC dL_law_396 rfl ?_
  refine x_iload_n (pc := 397) hC dL_law_397 rfl ?_
  refine x_iconst (pc := 398) hC dL_law_398 ?_
  refine x_iadd (pc := 399) hC dL_law_399 ?_
  refine x_sld (pc := 400) hC hX hbl h62 h0 (by omega) (by omega) dL_law_400 ?_
  refine x_callV1 (As := [_, _, _, _]) (Bs := [_, _, _, _]) (pc := 401) hC (s_turn E b2 b3 (sc_rg xs (i + 1)) (sc_rg xs (i + 2)) (sc_rg xs (i + 3)) (sc_rg xs (i + 4)) (by rw [g47]; exact hP.1) (by rw [g47]; exact hP.2.1) (by rw [g47]; omega)) wL_37_12 pX12_turn (by assumption) rfl rfl (by exact Nat.le_of_ble_eq_true rfl) hR (by omega) (by decide) (by omega) rfl dL_law_401 ?_
  rw [g47]
  refine x_same (tgt := 1634) (pc := 404) hC dL_law_404 (by decide) ?_
  exact K _ _ _ _ _ _ (by omega) (by omega) rfl hH1.swz

set_option maxHeartbeats 4000000 in
set_option maxRecDepth 100000 in
theorem lw_on {E : xE} {p : Program} {e : Env} {R : Room} {s : State} {m : MethodId} {args : Array Value} {below : List Frame} {meth : Method} {c : Code} {Z : State → Prop} (hC : XC E p R s m args meth c cL_law RL ret 4) (hR : xRm R 1312 600000 7302250) {b L : Nat} {xs : Nat → Int32} (hX : va_X b L xs s s.heap) (hbl : b < s.heap.size) (h62 : E.2.2.2.2.2 62 = b) (h0 : E.2.2.2.1 = s.heap.size) (hL : L ≤ 3072) {i : Int} (hi : 0 ≤ i ∧ i + 6 ≤ L) {kc ns : Nat} (hkc : kc ≤ 100000) (hns : ns ≤ 1000000) {σ : xM} {ρ : xR} {ks : xKs} {z : zS} (hz47 : σ 47 = z) (hLH : LH σ ρ ks z)
    (K : ∀ (σ' : xM) (ρ' : xR) (ks' : xKs) (z' : zS) (kc' ns' : Nat), kc' ≤ kc + 8 → ns' ≤ ns + 200 → σ' 47 = z' → LH σ' ρ' ks' z' → X E p e R s m args below meth c Z kc' ns' σ' ρ' ks' 1634 [some (.float 126), some (.ref 0), some (.ref 46), some (.int (iI i))] []) : X E p e R s m args below meth c Z kc ns σ ρ ks 409 [some (.float 126), some (.ref 0), some (.ref 46), some (.int (iI i))] [] := by
  obtain ⟨a1, a2, a3, a4, a5, a6, a7, a8, a9⟩ := id hLH
  obtain ⟨hP, hCn, hSe, hRu, hBk, hTp, h20, h21, hz0, hout⟩ := id a5
  have hz0' := hP.2.2.2
  obtain ⟨n15, n16, n17, n18, n19⟩ := id hCn
  have k0 : ks[0]? = some (0, 11) := a4.1
  have k46 : ks[46]? = some (0, 12) := a2.1
  have r2 := sc_rg xs (i + 2)
  refine x_aload_n (pc := 409) hC dL_law_409 rfl ?_
  refine x_aloadS_n (pc := 410) hC dL_law_410 rfl ?_
  refine x_iload_n (pc := 411) hC dL_law_411 rfl ?_
  refine x_iconst (pc := 412) hC dL_law_412 ?_
  refine x_iadd (pc := 413) hC dL_law_413 ?_
  refine x_sld (pc := 414) hC hX hbl h62 h0 (by omega) (by omega) dL_law_414 ?_
  refine x_aloadS_n (pc := 415) hC dL_law_415 rfl ?_
  refine x_iload_n (pc := 416) hC dL_law_416 rfl ?_
  refine x_iconst (pc := 417) hC dL_law_417 ?_
  refine x_iadd (pc := 418) hC dL_law_418 ?_
  refine x_sld (pc := 419) hC hX hbl h62 h0 (by omega) (by omega) dL_law_419 ?_
  refine x_if_eq (tgt := 427) (pc := 420) hC (by omega) dL_law_420 (by decide) (fun c420 => ?_) (fun c420 => ?_)
  · refine x_iconst (pc := 427) hC dL_law_427 ?_
    refine x_callV (As := [_, _]) (Bs := [_, _]) (pc := 428) hC (c_on E a4 a6 hP (sc_rg xs (i + 1)) (by decide)) wL_38_11 pX11_on (by assumption) rfl rfl (by exact Nat.le_of_ble_eq_true rfl) hR (by omega) (by decide) (by omega) rfl dL_law_428 (fun r428 σ428 ρ428 ks428 q428 => ?_)
    obtain ⟨rfl, hz1, hx, e428, f428⟩ := q428
    obtain rfl := e428.symm
    obtain rfl := f428.symm
    have hI1 : Inv (onZ z (sc xs (i + 1)) 0) := on_inv a5 _ _
    have hH1 : LH σ428 ρ ks (onZ z (sc xs (i + 1)) 0) := hLH.hx hx hz1 hI1 (on_13 hP hCn _ _) (fun f f0 f1 => on_22 hP hCn f0 f1 _ _)
    have g47 : σ428 47 = z := (hLH.hx46 hx 47 (by decide) (by decide)).trans hz47
    obtain ⟨b1, b2, b3, b4, b5, b6, b7, b8, b9⟩ := id hH1
    refine x_aload_n (pc := 431) hC dL_law_431 rfl ?_
    refine x_aloadS_n (pc := 432) hC dL_law_432 rfl ?_
    refine x_iload_n (pc := 433) hC dL_law_433 rfl ?_
    refine x_iconst (pc := 434) hC dL_law_434 ?_
    refine x_iadd (pc := 435) hC dL_law_435 ?_
    refine x_sld (pc := 436) hC hX hbl h62 h0 (by omega) (by omega) dL_law_436 ?_
    refine x_aloadS_n (pc := 437) hC dL_law_437 rfl ?_
    refine x_iload_n (pc := 438) hC dL_law_438 rfl ?_
    refine x_iconst (pc := 439) hC dL_law_439 ?_
    refine x_iadd (pc := 440) hC dL_law_440 ?_
    refine x_sld (pc := 441) hC hX hbl h62 h0 (by omega) (by omega) dL_law_441 ?_
    refine x_if_eq (tgt := 449) (pc := 442) hC (by omega) dL_law_442 (by decide) (fun c442 => ?_) (fun c442 => by (exfalso; omega))
    refine x_iconst (pc := 449) hC dL_law_449 ?_
    refine x_callV1 (As := [_, _]) (Bs := [_, _]) (pc := 450) hC (s_on E b2 b3 (sc_rg xs (i + 1)) (by decide) (by rw [g47]; exact hP.1)) wL_42_12 pX12_on (by assumption) rfl rfl (by exact Nat.le_of_ble_eq_true rfl) hR (by omega) (by decide) (by omega) rfl dL_law_450 ?_
    rw [g47]
    refine x_same (tgt := 1634) (pc := 453) hC dL_law_453 (by decide) ?_
    exact K _ _ _ _ _ _ (by omega) (by omega) rfl hH1.swz
  · refine x_iconst (pc := 423) hC dL_law_423 ?_
    refine x_goto (tgt := 428) (pc := 424) hC dL_law_424 (by decide) ?_
    refine x_callV (As := [_, _]) (Bs := [_, _]) (pc := 428) hC (c_on E a4 a6 hP (sc_rg xs (i + 1)) (by decide)) wL_38_11 pX11_on (by assumption) rfl rfl (by exact Nat.le_of_ble_eq_true rfl) hR (by omega) (by decide) (by omega) rfl dL_law_428 (fun r428 σ428 ρ428 ks428 q428 => ?_)
    obtain ⟨rfl, hz1, hx, e428, f428⟩ := q428
    obtain rfl := e428.symm
    obtain rfl := f428.symm
    have hI1 : Inv (onZ z (sc xs (i + 1)) 1) := on_inv a5 _ _
    have hH1 : LH σ428 ρ ks (onZ z (sc xs (i + 1)) 1) := hLH.hx hx hz1 hI1 (on_13 hP hCn _ _) (fun f f0 f1 => on_22 hP hCn f0 f1 _ _)
    have g47 : σ428 47 = z := (hLH.hx46 hx 47 (by decide) (by decide)).trans hz47
    obtain ⟨b1, b2, b3, b4, b5, b6, b7, b8, b9⟩ := id hH1
    refine x_aload_n (pc := 431) hC dL_law_431 rfl ?_
    refine x_aloadS_n (pc := 432) hC dL_law_432 rfl ?_
    refine x_iload_n (pc := 433) hC dL_law_433 rfl ?_
    refine x_iconst (pc := 434) hC dL_law_434 ?_
    refine x_iadd (pc := 435) hC dL_law_435 ?_
    refine x_sld (pc := 436) hC hX hbl h62 h0 (by omega) (by omega) dL_law_436 ?_
    refine x_aloadS_n (pc := 437) hC dL_law_437 rfl ?_
    refine x_iload_n (pc := 438) hC dL_law_438 rfl ?_
    refine x_iconst (pc := 439) hC dL_law_439 ?_
    refine x_iadd (pc := 440) hC dL_law_440 ?_
    refine x_sld (pc := 441) hC hX hbl h62 h0 (by omega) (by omega) dL_law_441 ?_
    refine x_if_eq (tgt := 449) (pc := 442) hC (by omega) dL_law_442 (by decide) (fun c442 => by (exfalso; omega)) (fun c442 => ?_)
    refine x_iconst (pc := 445) hC dL_law_445 ?_
    refine x_goto (tgt := 450) (pc := 446) hC dL_law_446 (by decide) ?_
    refine x_callV1 (As := [_, _]) (Bs := [_, _]) (pc := 450) hC (s_on E b2 b3 (sc_rg xs (i + 1)) (by decide) (by rw [g47]; exact hP.1)) wL_42_12 pX12_on (by assumption) rfl rfl (by exact Nat.le_of_ble_eq_true rfl) hR (by omega) (by decide) (by omega) rfl dL_law_450 ?_
    rw [g47]
    refine x_same (tgt := 1634) (pc := 453) hC dL_law_453 (by decide) ?_
    exact K _ _ _ _ _ _ (by omega) (by omega) rfl hH1.swz

set_option maxHeartbeats 4000000 in
set_option maxRecDepth 100000 in
theorem lw_row {E : xE} {p : Program} {e : Env} {R : Room} {s : State} {m : MethodId} {args : Array Value} {below : List Frame} {meth : Method} {c : Code} {Z : State → Prop} (hC : XC E p R s m args meth c cL_law RL ret 4) (hR : xRm R 1312 600000 7302250) {b L : Nat} {xs : Nat → Int32} (hX : va_X b L xs s s.heap) (hbl : b < s.heap.size) (h62 : E.2.2.2.2.2 62 = b) (h0 : E.2.2.2.1 = s.heap.size) (hL : L ≤ 3072) {i : Int} (hi : 0 ≤ i ∧ i + 6 ≤ L) {kc ns : Nat} (hkc : kc ≤ 100000) (hns : ns ≤ 1000000) {σ : xM} {ρ : xR} {ks : xKs} {z : zS} (hz47 : σ 47 = z) (hLH : LH σ ρ ks z)
    (K : ∀ (σ' : xM) (ρ' : xR) (ks' : xKs) (z' : zS) (kc' ns' : Nat), kc' ≤ kc + 8 → ns' ≤ ns + 200 → σ' 47 = z' → LH σ' ρ' ks' z' → X E p e R s m args below meth c Z kc' ns' σ' ρ' ks' 1634 [some (.float 126), some (.ref 0), some (.ref 46), some (.int (iI i))] []) : X E p e R s m args below meth c Z kc ns σ ρ ks 458 [some (.float 126), some (.ref 0), some (.ref 46), some (.int (iI i))] [] := by
  obtain ⟨a1, a2, a3, a4, a5, a6, a7, a8, a9⟩ := id hLH
  obtain ⟨hP, hCn, hSe, hRu, hBk, hTp, h20, h21, hz0, hout⟩ := id a5
  have hz0' := hP.2.2.2
  obtain ⟨n15, n16, n17, n18, n19⟩ := id hCn
  have k0 : ks[0]? = some (0, 11) := a4.1
  have k46 : ks[46]? = some (0, 12) := a2.1
  refine x_aload_n (pc := 458) hC dL_law_458 rfl ?_
  refine x_aloadS_n (pc := 459) hC dL_law_459 rfl ?_
  refine x_iload_n (pc := 460) hC dL_law_460 rfl ?_
  refine x_iconst (pc := 461) hC dL_law_461 ?_
  refine x_iadd (pc := 462) hC dL_law_462 ?_
  refine x_sld (pc := 463) hC hX hbl h62 h0 (by omega) (by omega) dL_law_463 ?_
  refine x_aloadS_n (pc := 464) hC dL_law_464 rfl ?_
  refine x_iload_n (pc := 465) hC dL_law_465 rfl ?_
  refine x_iconst (pc := 466) hC dL_law_466 ?_
  refine x_iadd (pc := 467) hC dL_law_467 ?_
  refine x_sld (pc := 468) hC hX hbl h62 h0 (by omega) (by omega) dL_law_468 ?_
  refine x_aloadS_n (pc := 469) hC dL_law_469 rfl ?_
  refine x_iload_n (pc := 470) hC dL_law_470 rfl ?_
  refine x_iconst (pc := 471) hC dL_law_471 ?_
  refine x_iadd (pc := 472) hC dL_law_472 ?_
  refine x_sld (pc := 473) hC hX hbl h62 h0 (by omega) (by omega) dL_law_473 ?_
  refine x_callV (As := [_, _, _]) (Bs := [_, _, _]) (pc := 474) hC (c_row E a4 a6 hP (sc_rg xs (i + 1)) (sc_rg xs (i + 2)) (sc_rg xs (i + 3))) wL_43_11 pX11_row (by assumption) rfl rfl (by exact Nat.le_of_ble_eq_true rfl) hR (by omega) (by decide) (by omega) rfl dL_law_474 (fun r474 σ474 ρ474 ks474 q474 => ?_)
  obtain ⟨rfl, hz1, hx, e474, f474⟩ := q474
  obtain rfl := e474.symm
  obtain rfl := f474.symm
  have hI1 : Inv (rowZ z (sc xs (i + 1)) (sc xs (i + 2)) (sc xs (i + 3))) := row_inv a5 _ _ _
  have hH1 : LH σ474 ρ ks (rowZ z (sc xs (i + 1)) (sc xs (i + 2)) (sc xs (i + 3))) := hLH.hx hx hz1 hI1 (row_13 hP hCn _ _ _) (fun f f0 f1 => row_22 hP hCn f0 f1 _ _ _)
  have g47 : σ474 47 = z := (hLH.hx46 hx 47 (by decide) (by decide)).trans hz47
  obtain ⟨b1, b2, b3, b4, b5, b6, b7, b8, b9⟩ := id hH1
  refine x_aload_n (pc := 477) hC dL_law_477 rfl ?_
  refine x_aloadS_n (pc := 478) hC dL_law_478 rfl ?_
  refine x_iload_n (pc := 479) hC dL_law_479 rfl ?_
  refine x_iconst (pc := 480) hC dL_law_480 ?_
  refine x_iadd (pc := 481) hC dL_law_481 ?_
  refine x_sld (pc := 482) hC hX hbl h62 h0 (by omega) (by omega) dL_law_482 ?_
  refine x_aloadS_n (pc := 483) hC dL_law_483 rfl ?_
  refine x_iload_n (pc := 484) hC dL_law_484 rfl ?_
  refine x_iconst (pc := 485) hC dL_law_485 ?_
  refine x_iadd (pc := 486) hC dL_law_486 ?_
  refine x_sld (pc := 487) hC hX hbl h62 h0 (by omega) (by omega) dL_law_487 ?_
  refine x_aloadS_n (pc := 488) hC dL_law_488 rfl ?_
  refine x_iload_n (pc := 489) hC dL_law_489 rfl ?_
  refine x_iconst (pc := 490) hC dL_law_490 ?_
  refine x_iadd (pc := 491) hC dL_law_491 ?_
  refine x_sld (pc := 492) hC hX hbl h62 h0 (by omega) (by omega) dL_law_492 ?_
  refine x_callV1 (As := [_, _, _]) (Bs := [_, _, _]) (pc := 493) hC (s_row E b2 b3 (sc_rg xs (i + 1)) (sc_rg xs (i + 2)) (sc_rg xs (i + 3)) (by rw [g47]; exact hP.1)) wL_47_12 pX12_row (by assumption) rfl rfl (by exact Nat.le_of_ble_eq_true rfl) hR (by omega) (by decide) (by omega) rfl dL_law_493 ?_
  rw [g47]
  refine x_same (tgt := 1634) (pc := 496) hC dL_law_496 (by decide) ?_
  exact K _ _ _ _ _ _ (by omega) (by omega) rfl hH1.swz

set_option maxHeartbeats 4000000 in
set_option maxRecDepth 100000 in
theorem lw_sitter {E : xE} {p : Program} {e : Env} {R : Room} {s : State} {m : MethodId} {args : Array Value} {below : List Frame} {meth : Method} {c : Code} {Z : State → Prop} (hC : XC E p R s m args meth c cL_law RL ret 4) (hR : xRm R 1312 600000 7302250) {b L : Nat} {xs : Nat → Int32} (hX : va_X b L xs s s.heap) (hbl : b < s.heap.size) (h62 : E.2.2.2.2.2 62 = b) (h0 : E.2.2.2.1 = s.heap.size) (hL : L ≤ 3072) {i : Int} (hi : 0 ≤ i ∧ i + 6 ≤ L) {kc ns : Nat} (hkc : kc ≤ 100000) (hns : ns ≤ 1000000) {σ : xM} {ρ : xR} {ks : xKs} {z : zS} (hz47 : σ 47 = z) (hLH : LH σ ρ ks z)
    (K : ∀ (σ' : xM) (ρ' : xR) (ks' : xKs) (z' : zS) (kc' ns' : Nat), kc' ≤ kc + 8 → ns' ≤ ns + 200 → σ' 47 = z' → LH σ' ρ' ks' z' → X E p e R s m args below meth c Z kc' ns' σ' ρ' ks' 1634 [some (.float 126), some (.ref 0), some (.ref 46), some (.int (iI i))] []) : X E p e R s m args below meth c Z kc ns σ ρ ks 501 [some (.float 126), some (.ref 0), some (.ref 46), some (.int (iI i))] [] := by
  obtain ⟨a1, a2, a3, a4, a5, a6, a7, a8, a9⟩ := id hLH
  obtain ⟨hP, hCn, hSe, hRu, hBk, hTp, h20, h21, hz0, hout⟩ := id a5
  have hz0' := hP.2.2.2
  obtain ⟨n15, n16, n17, n18, n19⟩ := id hCn
  have k0 : ks[0]? = some (0, 11) := a4.1
  have k46 : ks[46]? = some (0, 12) := a2.1
  refine x_aload_n (pc := 501) hC dL_law_501 rfl ?_
  refine x_aloadS_n (pc := 502) hC dL_law_502 rfl ?_
  refine x_iload_n (pc := 503) hC dL_law_503 rfl ?_
  refine x_iconst (pc := 504) hC dL_law_504 ?_
  refine x_iadd (pc := 505) hC dL_law_505 ?_
  refine x_sld (pc := 506) hC hX hbl h62 h0 (by omega) (by omega) dL_law_506 ?_
  refine x_aloadS_n (pc := 507) hC dL_law_507 rfl ?_
  refine x_iload_n (pc := 508) hC dL_law_508 rfl ?_
  refine x_iconst (pc := 509) hC dL_law_509 ?_
  refine x_iadd (pc := 510) hC dL_law_510 ?_
  refine x_sld (pc := 511) hC hX hbl h62 h0 (by omega) (by omega) dL_law_511 ?_
  refine x_callV (As := [_, _]) (Bs := [_, _]) (pc := 512) hC (c_sitter E a4 a6 hP hCn (sc_rg xs (i + 1)) (sc_rg xs (i + 2))) wL_48_11 pX11_sitter (by assumption) rfl rfl (by exact Nat.le_of_ble_eq_true rfl) hR (by omega) (by decide) (by omega) rfl dL_law_512 (fun r512 σ512 ρ512 ks512 q512 => ?_)
  obtain ⟨rfl, hz1, hx, e512, f512⟩ := q512
  obtain rfl := e512.symm
  obtain rfl := f512.symm
  have hI1 : Inv (sitterZ z (sc xs (i + 1)) (sc xs (i + 2))) := sitter_inv a5 _ _
  have hH1 : LH σ512 ρ ks (sitterZ z (sc xs (i + 1)) (sc xs (i + 2))) := hLH.hx hx hz1 hI1 (sitter_13 hP hCn _ _) (fun f f0 f1 => sitter_22 hP hCn f0 f1 _ _)
  have g47 : σ512 47 = z := (hLH.hx46 hx 47 (by decide) (by decide)).trans hz47
  obtain ⟨b1, b2, b3, b4, b5, b6, b7, b8, b9⟩ := id hH1
  refine x_aload_n (pc := 515) hC dL_law_515 rfl ?_
  refine x_aloadS_n (pc := 516) hC dL_law_516 rfl ?_
  refine x_iload_n (pc := 517) hC dL_law_517 rfl ?_
  refine x_iconst (pc := 518) hC dL_law_518 ?_
  refine x_iadd (pc := 519) hC dL_law_519 ?_
  refine x_sld (pc := 520) hC hX hbl h62 h0 (by omega) (by omega) dL_law_520 ?_
  refine x_aloadS_n (pc := 521) hC dL_law_521 rfl ?_
  refine x_iload_n (pc := 522) hC dL_law_522 rfl ?_
  refine x_iconst (pc := 523) hC dL_law_523 ?_
  refine x_iadd (pc := 524) hC dL_law_524 ?_
  refine x_sld (pc := 525) hC hX hbl h62 h0 (by omega) (by omega) dL_law_525 ?_
  refine x_callV1 (As := [_, _]) (Bs := [_, _]) (pc := 526) hC (s_sitter E b2 b3 (sc_rg xs (i + 1)) (sc_rg xs (i + 2)) (by rw [g47]; exact hP.2.1)) wL_51_12 pX12_sitter (by assumption) rfl rfl (by exact Nat.le_of_ble_eq_true rfl) hR (by omega) (by decide) (by omega) rfl dL_law_526 ?_
  rw [g47]
  refine x_same (tgt := 1634) (pc := 529) hC dL_law_529 (by decide) ?_
  exact K _ _ _ _ _ _ (by omega) (by omega) rfl hH1.swz
