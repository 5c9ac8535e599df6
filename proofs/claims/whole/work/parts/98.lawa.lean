/-! THE LAW, its cases 0 to 3 -/
set_option maxHeartbeats 4000000 in
set_option maxRecDepth 100000 in
theorem lw_feed {E : xE} {p : Program} {e : Env} {R : Room} {s : State} {m : MethodId} {args : Array Value} {below : List Frame} {meth : Method} {c : Code} {Z : State → Prop} (hC : XC E p R s m args meth c cL_law RL ret 4) (hR : xRm R 1312 600000 7302250) {b L : Nat} {xs : Nat → Int32} (hX : va_X b L xs s s.heap) (hbl : b < s.heap.size) (h62 : E.2.2.2.2.2 62 = b) (h0 : E.2.2.2.1 = s.heap.size) (hL : L ≤ 3072) {i : Int} (hi : 0 ≤ i ∧ i + 6 ≤ L) {kc ns : Nat} (hkc : kc ≤ 100000) (hns : ns ≤ 1000000) {σ : xM} {ρ : xR} {ks : xKs} {z : zS} (hz47 : σ 47 = z) (hLH : LH σ ρ ks z)
    (K : ∀ (σ' : xM) (ρ' : xR) (ks' : xKs) (z' : zS) (kc' ns' : Nat), kc' ≤ kc + 8 → ns' ≤ ns + 200 → σ' 47 = z' → LH σ' ρ' ks' z' → X E p e R s m args below meth c Z kc' ns' σ' ρ' ks' 1634 [some (.float 126), some (.ref 0), some (.ref 46), some (.int (iI i))] []) : X E p e R s m args below meth c Z kc ns σ ρ ks 224 [some (.float 126), some (.ref 0), some (.ref 46), some (.int (iI i))] [] := by
  obtain ⟨a1, a2, a3, a4, a5, a6, a7, a8, a9⟩ := id hLH
  obtain ⟨hP, hCn, hSe, hRu, hBk, hTp, h20, h21, hz0, hout⟩ := id a5
  have hz0' := hP.2.2.2
  obtain ⟨n15, n16, n17, n18, n19⟩ := id hCn
  have k0 : ks[0]? = some (0, 11) := a4.1
  have k46 : ks[46]? = some (0, 12) := a2.1
  refine x_aload_n (pc := 224) hC dL_law_224 rfl ?_
  refine x_aloadS_n (pc := 225) hC dL_law_225 rfl ?_
  refine x_iload_n (pc := 226) hC dL_law_226 rfl ?_
  refine x_iconst (pc := 227) hC dL_law_227 ?_
  refine x_iadd (pc := 228) hC dL_law_228 ?_
  refine x_sld (pc := 229) hC hX hbl h62 h0 (by omega) (by omega) dL_law_229 ?_
  refine x_callV (As := [_]) (Bs := [_]) (pc := 230) hC (c_feed E a4 a6 hP hCn (sc_rg xs (i + 1))) wL_13_11 pX11_feed (by assumption) rfl rfl (by exact Nat.le_of_ble_eq_true rfl) hR (by omega) (by decide) (by omega) rfl dL_law_230 (fun r230 σ230 ρ230 ks230 q230 => ?_)
  obtain ⟨rfl, hz1, hx, e230, f230⟩ := q230
  obtain rfl := e230.symm
  obtain rfl := f230.symm
  have hI1 : Inv (feedZ z (sc xs (i + 1))) := feed_inv a5 _
  have hH1 : LH σ230 ρ ks (feedZ z (sc xs (i + 1))) := hLH.hx hx hz1 hI1 (feed_13 hP hCn _) (fun f f0 f1 => feed_22 hP hCn f0 f1 _)
  have g47 : σ230 47 = z := (hLH.hx46 hx 47 (by decide) (by decide)).trans hz47
  obtain ⟨b1, b2, b3, b4, b5, b6, b7, b8, b9⟩ := id hH1
  refine x_aload_n (pc := 233) hC dL_law_233 rfl ?_
  refine x_aloadS_n (pc := 234) hC dL_law_234 rfl ?_
  refine x_iload_n (pc := 235) hC dL_law_235 rfl ?_
  refine x_iconst (pc := 236) hC dL_law_236 ?_
  refine x_iadd (pc := 237) hC dL_law_237 ?_
  refine x_sld (pc := 238) hC hX hbl h62 h0 (by omega) (by omega) dL_law_238 ?_
  refine x_callV1 (As := [_]) (Bs := [_]) (pc := 239) hC (s_feed E b2 b3 (sc_rg xs (i + 1)) (by rw [g47]; omega)) wL_17_12 pX12_feed (by assumption) rfl rfl (by exact Nat.le_of_ble_eq_true rfl) hR (by omega) (by decide) (by omega) rfl dL_law_239 ?_
  rw [g47]
  refine x_same (tgt := 1634) (pc := 242) hC dL_law_242 (by decide) ?_
  exact K _ _ _ _ _ _ (by omega) (by omega) rfl hH1.swz

set_option maxHeartbeats 4000000 in
set_option maxRecDepth 100000 in
theorem lw_room {E : xE} {p : Program} {e : Env} {R : Room} {s : State} {m : MethodId} {args : Array Value} {below : List Frame} {meth : Method} {c : Code} {Z : State → Prop} (hC : XC E p R s m args meth c cL_law RL ret 4) (hR : xRm R 1312 600000 7302250) {b L : Nat} {xs : Nat → Int32} (hX : va_X b L xs s s.heap) (hbl : b < s.heap.size) (h62 : E.2.2.2.2.2 62 = b) (h0 : E.2.2.2.1 = s.heap.size) (hL : L ≤ 3072) {i : Int} (hi : 0 ≤ i ∧ i + 6 ≤ L) {kc ns : Nat} (hkc : kc ≤ 100000) (hns : ns ≤ 1000000) {σ : xM} {ρ : xR} {ks : xKs} {z : zS} (hz47 : σ 47 = z) (hLH : LH σ ρ ks z)
    (K : ∀ (σ' : xM) (ρ' : xR) (ks' : xKs) (z' : zS) (kc' ns' : Nat), kc' ≤ kc + 8 → ns' ≤ ns + 200 → σ' 47 = z' → LH σ' ρ' ks' z' → X E p e R s m args below meth c Z kc' ns' σ' ρ' ks' 1634 [some (.float 126), some (.ref 0), some (.ref 46), some (.int (iI i))] []) : X E p e R s m args below meth c Z kc ns σ ρ ks 247 [some (.float 126), some (.ref 0), some (.ref 46), some (.int (iI i))] [] := by
  obtain ⟨a1, a2, a3, a4, a5, a6, a7, a8, a9⟩ := id hLH
  obtain ⟨hP, hCn, hSe, hRu, hBk, hTp, h20, h21, hz0, hout⟩ := id a5
  have hz0' := hP.2.2.2
  obtain ⟨n15, n16, n17, n18, n19⟩ := id hCn
  have k0 : ks[0]? = some (0, 11) := a4.1
  have k46 : ks[46]? = some (0, 12) := a2.1
  refine x_aload_n (pc := 247) hC dL_law_247 rfl ?_
  refine x_callV (As := []) (Bs := []) (pc := 248) hC (c_room E a4 a6 hP hCn hTp h20 a1) wL_18_11 pX11_room (by assumption) rfl rfl (by exact Nat.le_of_ble_eq_true rfl) hR (by omega) (by decide) (by omega) rfl dL_law_248 (fun r248 σ248 ρ248 ks248 q248 => ?_)
  obtain ⟨rfl, hro, hz1, hw1, gx, fp⟩ := q248
  have hI1 : Inv (roomZ z) := room_inv a5 hro
  have hH1 := hLH.gx gx hz1 hw1 hI1 fp
  have g47 : σ248 47 = z := (hLH.gx46 gx 47 (by decide) (by decide)).trans hz47
  obtain ⟨b1, b2, b3, b4, b5, b6, b7, b8, b9⟩ := id hH1
  have k0' : ks248[0]? = some (0, 11) := b4.1
  have k46' : ks248[46]? = some (0, 12) := b2.1
  refine x_aload_n (pc := 251) hC dL_law_251 rfl ?_
  refine x_callV (As := []) (Bs := []) (pc := 252) hC (s_room E b2 b3 (by rw [g47]; exact ⟨n15, n19⟩) (by rw [g47]; exact hTp)) wL_22_12 pX12_room (by assumption) rfl rfl (by exact Nat.le_of_ble_eq_true rfl) hR (by omega) (by decide) (by omega) rfl dL_law_252 (fun r252 σ252 ρ252 ks252 q252 => ?_)
  obtain ⟨rfl, e252, f252, rd, z252⟩ := q252
  obtain rfl := e252.symm
  obtain rfl := f252.symm
  rw [g47] at z252
  rw [g47]
  refine x_same (tgt := 1634) (pc := 255) hC dL_law_255 (by decide) ?_
  exact K _ _ _ _ _ _ (by omega) (by omega) z252 (hH1.ref (fun p hp => rd.1 p (by omega) (by omega)) (rd.2 4 (by decide)) (rd.2 17 (by decide)) (rd.1 48 (by decide) (by decide)) (rd.1 54 (by decide) (by decide)))

set_option maxHeartbeats 4000000 in
set_option maxRecDepth 100000 in
theorem lw_fan {E : xE} {p : Program} {e : Env} {R : Room} {s : State} {m : MethodId} {args : Array Value} {below : List Frame} {meth : Method} {c : Code} {Z : State → Prop} (hC : XC E p R s m args meth c cL_law RL ret 4) (hR : xRm R 1312 600000 7302250) {b L : Nat} {xs : Nat → Int32} (hX : va_X b L xs s s.heap) (hbl : b < s.heap.size) (h62 : E.2.2.2.2.2 62 = b) (h0 : E.2.2.2.1 = s.heap.size) (hL : L ≤ 3072) {i : Int} (hi : 0 ≤ i ∧ i + 6 ≤ L) {kc ns : Nat} (hkc : kc ≤ 100000) (hns : ns ≤ 1000000) {σ : xM} {ρ : xR} {ks : xKs} {z : zS} (hz47 : σ 47 = z) (hLH : LH σ ρ ks z)
    (K : ∀ (σ' : xM) (ρ' : xR) (ks' : xKs) (z' : zS) (kc' ns' : Nat), kc' ≤ kc + 8 → ns' ≤ ns + 200 → σ' 47 = z' → LH σ' ρ' ks' z' → X E p e R s m args below meth c Z kc' ns' σ' ρ' ks' 1634 [some (.float 126), some (.ref 0), some (.ref 46), some (.int (iI i))] []) : X E p e R s m args below meth c Z kc ns σ ρ ks 260 [some (.float 126), some (.ref 0), some (.ref 46), some (.int (iI i))] [] := by
  obtain ⟨a1, a2, a3, a4, a5, a6, a7, a8, a9⟩ := id hLH
  obtain ⟨hP, hCn, hSe, hRu, hBk, hTp, h20, h21, hz0, hout⟩ := id a5
  have hz0' := hP.2.2.2
  obtain ⟨n15, n16, n17, n18, n19⟩ := id hCn
  have k0 : ks[0]? = some (0, 11) := a4.1
  have k46 : ks[46]? = some (0, 12) := a2.1
  refine x_aload_n (pc := 260) hC dL_law_260 rfl ?_
  refine x_aloadS_n (pc := 261) hC dL_law_261 rfl ?_
  refine x_iload_n (pc := 262) hC dL_law_262 rfl ?_
  refine x_iconst (pc := 263) hC dL_law_263 ?_
  refine x_iadd (pc := 264) hC dL_law_264 ?_
  refine x_sld (pc := 265) hC hX hbl h62 h0 (by omega) (by omega) dL_law_265 ?_
  refine x_aloadS_n (pc := 266) hC dL_law_266 rfl ?_
  refine x_iload_n (pc := 267) hC dL_law_267 rfl ?_
  refine x_iconst (pc := 268) hC dL_law_268 ?_
  refine x_iadd (pc := 269) hC dL_law_269 ?_
  refine x_sld (pc := 270) hC hX hbl h62 h0 (by omega) (by omega) dL_law_270 ?_
  refine x_aloadS_n (pc := 271) hC dL_law_271 rfl ?_
  refine x_iload_n (pc := 272) hC dL_law_272 rfl ?_
  refine x_iconst (pc := 273) hC dL_law_273 ?_
  refine x_iadd (pc := 274) hC dL_law_274 ?_
  refine x_sld (pc := 275) hC hX hbl h62 h0 (by omega) (by omega) dL_law_275 ?_
  refine x_aloadS_n (pc := 276) hC dL_law_276 rfl ?_
  refine x_iload_n (pc := 277) hC dL_law_277 rfl ?_
  refine x_iconst (pc := 278) hC dL_law_278 ?_
  refine x_iadd (pc := 279) hC dL_law_279 ?_
  refine x_sld (pc := 280) hC hX hbl h62 h0 (by omega) (by omega) dL_law_280 ?_
  refine x_aloadS_n (pc := 281) hC dL_law_281 rfl ?_
  refine x_iload_n (pc := 282) hC dL_law_282 rfl ?_
  refine x_iconst (pc := 283) hC dL_law_283 ?_
  refine x_iadd (pc := 284) hC dL_law_284 ?_
  refine x_sld (pc := 285) hC hX hbl h62 h0 (by omega) (by omega) dL_law_285 ?_
  refine x_callV (As := [_, _, _, _, _]) (Bs := [_, _, _, _, _]) (pc := 286) hC (c_fan E a4 a6 hP a1 (sc_rg xs (i + 1)) (sc_rg xs (i + 2)) (sc_rg xs (i + 3)) (sc_rg xs (i + 4)) (sc_rg xs (i + 5))) wL_23_11 pX11_fan (by assumption) rfl rfl (by exact Nat.le_of_ble_eq_true rfl) hR (by omega) (by decide) (by omega) rfl dL_law_286 (fun r286 σ286 ρ286 ks286 q286 => ?_)
  obtain ⟨rfl, hz1, hw1, gx, fp⟩ := q286
  have hI1 : Inv (fanZ z (sc xs (i + 1)) (sc xs (i + 2)) (sc xs (i + 3)) (sc xs (i + 4)) (sc xs (i + 5))) := fan_inv a5 _ _ _ _ _
  have hH1 := hLH.gx gx hz1 hw1 hI1 fp
  have g47 : σ286 47 = z := (hLH.gx46 gx 47 (by decide) (by decide)).trans hz47
  obtain ⟨b1, b2, b3, b4, b5, b6, b7, b8, b9⟩ := id hH1
  have k0' : ks286[0]? = some (0, 11) := b4.1
  have k46' : ks286[46]? = some (0, 12) := b2.1
  refine x_aload_n (pc := 289) hC dL_law_289 rfl ?_
  refine x_aloadS_n (pc := 290) hC dL_law_290 rfl ?_
  refine x_iload_n (pc := 291) hC dL_law_291 rfl ?_
  refine x_iconst (pc := 292) hC dL_law_292 ?_
  refine x_iadd (pc := 293) hC dL_law_293 ?_
  refine x_sld (pc := 294) hC hX hbl h62 h0 (by omega) (by omega) dL_law_294 ?_
  refine x_aloadS_n (pc := 295) hC dL_law_295 rfl ?_
  refine x_iload_n (pc := 296) hC dL_law_296 rfl ?_
  refine x_iconst (pc := 297) hC dL_law_297 ?_
  refine x_iadd (pc := 298) hC dL_law_298 ?_
  refine x_sld (pc := 299) hC hX hbl h62 h0 (by omega) (by omega) dL_law_299 ?_
  refine x_aloadS_n (pc := 300) hC dL_law_300 rfl ?_
  refine x_iload_n (pc := 301) hC dL_law_301 rfl ?_
  refine x_iconst (pc := 302) hC dL_law_302 ?_
  refine x_iadd (pc := 303) hC dL_law_303 ?_
  refine x_sld (pc := 304) hC hX hbl h62 h0 (by omega) (by omega) dL_law_304 ?_
  refine x_aloadS_n (pc := 305) hC dL_law_305 rfl ?_
  refine x_iload_n (pc := 306) hC dL_law_306 rfl ?_
  refine x_iconst (pc := 307) hC dL_law_307 ?_
  refine x_iadd (pc := 308) hC dL_law_308 ?_
  refine x_sld (pc := 309) hC hX hbl h62 h0 (by omega) (by omega) dL_law_309 ?_
  refine x_aloadS_n (pc := 310) hC dL_law_310 rfl ?_
  refine x_iload_n (pc := 311) hC dL_law_311 rfl ?_
  refine x_iconst (pc := 312) hC dL_law_312 ?_
  refine x_iadd (pc := 313) hC dL_law_313 ?_
  refine x_sld (pc := 314) hC hX hbl h62 h0 (by omega) (by omega) dL_law_314 ?_
  refine x_callV1 (As := [_, _, _, _, _]) (Bs := [_, _, _, _, _]) (pc := 315) hC (s_fan E b2 b3 (sc_rg xs (i + 1)) (sc_rg xs (i + 2)) (sc_rg xs (i + 3)) (sc_rg xs (i + 4)) (sc_rg xs (i + 5)) (by rw [g47]; exact hP.1)) wL_27_12 pX12_fan (by assumption) rfl rfl (by exact Nat.le_of_ble_eq_true rfl) hR (by omega) (by decide) (by omega) rfl dL_law_315 ?_
  rw [g47]
  refine x_same (tgt := 1634) (pc := 318) hC dL_law_318 (by decide) ?_
  exact K _ _ _ _ _ _ (by omega) (by omega) rfl hH1.swz

set_option maxHeartbeats 4000000 in
set_option maxRecDepth 100000 in
theorem lw_of {E : xE} {p : Program} {e : Env} {R : Room} {s : State} {m : MethodId} {args : Array Value} {below : List Frame} {meth : Method} {c : Code} {Z : State → Prop} (hC : XC E p R s m args meth c cL_law RL ret 4) (hR : xRm R 1312 600000 7302250) {b L : Nat} {xs : Nat → Int32} (hX : va_X b L xs s s.heap) (hbl : b < s.heap.size) (h62 : E.2.2.2.2.2 62 = b) (h0 : E.2.2.2.1 = s.heap.size) (hL : L ≤ 3072) {i : Int} (hi : 0 ≤ i ∧ i + 6 ≤ L) {kc ns : Nat} (hkc : kc ≤ 100000) (hns : ns ≤ 1000000) {σ : xM} {ρ : xR} {ks : xKs} {z : zS} (hz47 : σ 47 = z) (hLH : LH σ ρ ks z)
    (K : ∀ (σ' : xM) (ρ' : xR) (ks' : xKs) (z' : zS) (kc' ns' : Nat), kc' ≤ kc + 8 → ns' ≤ ns + 200 → σ' 47 = z' → LH σ' ρ' ks' z' → X E p e R s m args below meth c Z kc' ns' σ' ρ' ks' 1634 [some (.float 126), some (.ref 0), some (.ref 46), some (.int (iI i))] []) : X E p e R s m args below meth c Z kc ns σ ρ ks 323 [some (.float 126), some (.ref 0), some (.ref 46), some (.int (iI i))] [] := by
  obtain ⟨a1, a2, a3, a4, a5, a6, a7, a8, a9⟩ := id hLH
  obtain ⟨hP, hCn, hSe, hRu, hBk, hTp, h20, h21, hz0, hout⟩ := id a5
  have hz0' := hP.2.2.2
  obtain ⟨n15, n16, n17, n18, n19⟩ := id hCn
  have k0 : ks[0]? = some (0, 11) := a4.1
  have k46 : ks[46]? = some (0, 12) := a2.1
  refine x_aload_n (pc := 323) hC dL_law_323 rfl ?_
  refine x_aloadS_n (pc := 324) hC dL_law_324 rfl ?_
  refine x_iload_n (pc := 325) hC dL_law_325 rfl ?_
  refine x_iconst (pc := 326) hC dL_law_326 ?_
  refine x_iadd (pc := 327) hC dL_law_327 ?_
  refine x_sld (pc := 328) hC hX hbl h62 h0 (by omega) (by omega) dL_law_328 ?_
  refine x_aloadS_n (pc := 329) hC dL_law_329 rfl ?_
  refine x_iload_n (pc := 330) hC dL_law_330 rfl ?_
  refine x_iconst (pc := 331) hC dL_law_331 ?_
  refine x_iadd (pc := 332) hC dL_law_332 ?_
  refine x_sld (pc := 333) hC hX hbl h62 h0 (by omega) (by omega) dL_law_333 ?_
  refine x_callV (As := [_, _]) (Bs := [_, _]) (pc := 334) hC (c_of E a4 a6 hP (sc_rg xs (i + 1)) (sc_rg xs (i + 2)) (by omega)) wL_28_11 pX11_of (by assumption) rfl rfl (by exact Nat.le_of_ble_eq_true rfl) hR (by omega) (by decide) (by omega) rfl dL_law_334 (fun r334 σ334 ρ334 ks334 q334 => ?_)
  obtain ⟨rfl, nx, e334, f334⟩ := q334
  obtain rfl := e334.symm
  obtain rfl := f334.symm
  have hH1 := hLH.nx nx
  have g47 : σ334 47 = z := (nx 47 (by decide)).trans hz47
  obtain ⟨b1, b2, b3, b4, b5, b6, b7, b8, b9⟩ := id hH1
  refine x_aload_n (pc := 337) hC dL_law_337 rfl ?_
  refine x_aloadS_n (pc := 338) hC dL_law_338 rfl ?_
  refine x_iload_n (pc := 339) hC dL_law_339 rfl ?_
  refine x_iconst (pc := 340) hC dL_law_340 ?_
  refine x_iadd (pc := 341) hC dL_law_341 ?_
  refine x_sld (pc := 342) hC hX hbl h62 h0 (by omega) (by omega) dL_law_342 ?_
  refine x_aloadS_n (pc := 343) hC dL_law_343 rfl ?_
  refine x_iload_n (pc := 344) hC dL_law_344 rfl ?_
  refine x_iconst (pc := 345) hC dL_law_345 ?_
  refine x_iadd (pc := 346) hC dL_law_346 ?_
  refine x_sld (pc := 347) hC hX hbl h62 h0 (by omega) (by omega) dL_law_347 ?_
  refine x_callV1 (As := [_, _]) (Bs := [_, _]) (pc := 348) hC (s_of E b2 b3 (sc_rg xs (i + 1)) (sc_rg xs (i + 2)) (by rw [g47]; exact hP.1) (by rw [g47]; exact hP.2.1) (by rw [g47]; omega)) wL_32_12 pX12_of (by assumption) rfl rfl (by exact Nat.le_of_ble_eq_true rfl) hR (by omega) (by decide) (by omega) rfl dL_law_348 ?_
  rw [g47]
  refine x_same (tgt := 1634) (pc := 351) hC dL_law_351 (by decide) ?_
  exact K _ _ _ _ _ _ (by omega) (by omega) g47 hH1
