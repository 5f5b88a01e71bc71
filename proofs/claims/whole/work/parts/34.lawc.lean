set_option maxRecDepth 20000 in
set_option maxHeartbeats 4000000 in
theorem lawc_0 {p : Program} {l : Launch} {e : Env} {s : State} {m : MethodId} {args : Array Value} {below : List Frame} {meth : Method} {c : Code} {Z : gZ} {Q : State → Prop} {k : Nat} {M : gM} {b L : Nat} {xs : Nat → Int32} {i : Int32} {PM : gM → Prop} (hfl : l.stackTraces = false) (hC : gD p s m args c cL_law 7 RL Z) (hNc : gNc s) (hX : va_X b L xs s s.heap) (hbl : b < s.heap.size) (hbA : ¬ zA Z b) (h1 : vp_in (i + 1) L) (hk1 : k + 6 ≤ 601024) (hk2 : 6 * (k + 6) ≤ 7293034) (hAg : AgI (f_L_pass M (xs (i + 1).toNatClampNeg)) (fun M1 => f_X9_pass M1 (xs (i + 1).toNatClampNeg)) PM) (kk : ∀ M2, PM M2 → gV p l e room_1 s m args below meth c 7 Z Q (k + 6) M2 3558 [(0, .ref b), (1, .ref (zad Z 0)), (2, .ref (zad Z 9)), (3, .ref (zad Z 10)), (4, .int i)] []) : gV p l e room_1 s m args below meth c 7 Z Q k M 256 [(0, .ref b), (1, .ref (zad Z 0)), (2, .ref (zad Z 9)), (3, .ref (zad Z 10)), (4, .int i)] [] := by
  obtain ⟨v, M1, b0, M2, hr1, hr2, h9, hout, hPM⟩ := hAg
  dsimp only at hr2
  refine v_aload_n hC 1 dL_law_256 rfl rfl ?_
  refine v_aload_n hC 0 dL_law_257 rfl rfl ?_
  refine v_iload hC 4 dL_law_258 rfl ?_
  refine v_iconst hC (v := 1) dL_law_260 (by decide) ?_
  refine v_iadd hC dL_law_261 ?_
  refine v_sld hC hX hbl hbA h1 dL_law_262 ?_
  refine v_aload_n hC 3 dL_law_263 rfl rfl ?_
  refine v_callLE (n := 3) hC hr1 [.ref (zad Z 0), .int (xs (i + 1).toNatClampNeg), .ref (zad Z 10)] hNc (fun hne => c_L_pass hfl Z M (xs (i + 1).toNatClampNeg) hne) ll_178 mw_L_pass.1 mw_L_pass.2.1 mw_L_pass.2.2 ⟨by decide, by decide, by decide +kernel⟩ rfl rfl ⟨by decide, by decide⟩ rfl rfl (Nat.le_of_ble_eq_true rfl) (by show _ ≤ 601024; omega) (by show _ ≤ 7293034; omega) dL_law_264 ?_
  refine v_istore hC (lv1 := [(5, .int v), (0, .ref b), (1, .ref (zad Z 0)), (2, .ref (zad Z 9)), (3, .ref (zad Z 10)), (4, .int i)]) dL_law_267 (by decide) rfl ?_
  refine v_aload_n hC 3 dL_law_269 rfl rfl ?_
  refine v_aload_n hC 1 dL_law_270 rfl rfl ?_
  refine v_iload hC 5 dL_law_271 rfl ?_
  refine v_iconst hC (v := 1) dL_law_273 (by decide) ?_
  refine v_iadd hC dL_law_274 ?_
  refine v_sld hC hX hbl hbA h1 dL_law_275 ?_
  refine v_callEi (n := 1) hC hr2 [.int (xs (i + 1).toNatClampNeg)] 9 9 (by decide) rfl rfl (fun hne => c_X9_pass hfl Z M1 (xs (i + 1).toNatClampNeg) hne) ll_183 mw_X9_pass.1 mw_X9_pass.2.1 mw_X9_pass.2.2.1 mw_X9_pass.2.2.2 ⟨rfl, by decide, by decide, by decide +kernel⟩ rfl rfl ⟨by decide, by decide⟩ rfl rfl (Nat.le_of_ble_eq_true rfl) (by show _ ≤ 601024; omega) (by show _ ≤ 7293034; omega) dL_law_276 ?_
  refine v_istore hC (lv1 := [(6, .int b0), (5, .int v), (0, .ref b), (1, .ref (zad Z 0)), (2, .ref (zad Z 9)), (3, .ref (zad Z 10)), (4, .int i)]) dL_law_279 (by decide) rfl ?_
  refine v_aload_n hC 4 dL_law_281 rfl rfl ?_
  refine v_callEi (n := 0) hC (rfl : f_X9_thrown M2 = rRet (M2 9 0) M2) [] 9 9 (by decide) rfl rfl (fun hne => c_X9_thrown hfl Z M2  hne) ll_184 mw_X9_thrown.1 mw_X9_thrown.2.1 mw_X9_thrown.2.2.1 mw_X9_thrown.2.2.2 ⟨rfl, by decide, by decide, by decide +kernel⟩ rfl rfl ⟨by decide, by decide⟩ rfl rfl (Nat.le_of_ble_eq_true rfl) (by show _ ≤ 601024; omega) (by show _ ≤ 7293034; omega) dL_law_282 ?_
  refine v_iload hC 1 dL_law_285 rfl ?_
  refine v_icmp_eq (tgt := 292) hC dL_law_287 (by decide) (fun _ => ?_) (fun h => absurd h9 h)
  refine v_iload hC 1 dL_law_292 rfl ?_
  refine v_if_ne (tgt := 309) hC dL_law_294 (by decide) (fun _ => ?_) (fun hv0 => ?_)
  · refine v_goto (tgt := 3558) hC dL_law_309 (by decide) ?_
    refine v_sub (lv1 := [(0, .ref b), (1, .ref (zad Z 0)), (2, .ref (zad Z 9)), (3, .ref (zad Z 10)), (4, .int i)]) [2, 3, 4, 5, 6] rfl ?_
    refine v_widen (k1 := k + 6) (by omega) ?_
    exact kk M2 hPM
  · skip
    refine v_aload_n hC 5 dL_law_297 rfl rfl ?_
    refine v_iconst hC (v := 0) dL_law_298 (by decide) ?_
    refine v_lald hC dL_law_299 ?_
    refine v_iload hC 0 dL_law_300 rfl ?_
    refine v_i2l hC dL_law_302 ?_
    refine v_lcmp hC dL_law_303 ?_
    refine v_if_eq (tgt := 309) hC dL_law_304 (by decide) (fun _ => ?_) (fun h => absurd (lg_cmp_self (by rw [hout hv0])) h)
    refine v_goto (tgt := 3558) hC dL_law_309 (by decide) ?_
    refine v_sub (lv1 := [(0, .ref b), (1, .ref (zad Z 0)), (2, .ref (zad Z 9)), (3, .ref (zad Z 10)), (4, .int i)]) [2, 3, 4, 5, 6] rfl ?_
    refine v_widen (k1 := k + 6) (by omega) ?_
    exact kk M2 hPM
set_option maxRecDepth 20000 in
set_option maxHeartbeats 4000000 in
theorem lawc_1 {p : Program} {l : Launch} {e : Env} {s : State} {m : MethodId} {args : Array Value} {below : List Frame} {meth : Method} {c : Code} {Z : gZ} {Q : State → Prop} {k : Nat} {M : gM} {b L : Nat} {xs : Nat → Int32} {i : Int32} {PM : gM → Prop} (hfl : l.stackTraces = false) (hC : gD p s m args c cL_law 7 RL Z) (hNc : gNc s) (hX : va_X b L xs s s.heap) (hbl : b < s.heap.size) (hbA : ¬ zA Z b) (h1 : vp_in (i + 1) L) (hk1 : k + 6 ≤ 601024) (hk2 : 6 * (k + 6) ≤ 7293034) (hAg : AgB (f_L_holiday M (xs (i + 1).toNatClampNeg)) (fun M1 => f_X9_holiday M1 (xs (i + 1).toNatClampNeg)) PM) (kk : ∀ M2, PM M2 → gV p l e room_1 s m args below meth c 7 Z Q (k + 6) M2 3558 [(0, .ref b), (1, .ref (zad Z 0)), (2, .ref (zad Z 9)), (3, .ref (zad Z 10)), (4, .int i)] []) : gV p l e room_1 s m args below meth c 7 Z Q k M 312 [(0, .ref b), (1, .ref (zad Z 0)), (2, .ref (zad Z 9)), (3, .ref (zad Z 10)), (4, .int i)] [] := by
  obtain ⟨v, M1, b0, M2, hr1, hr2, h9, hout, hPM⟩ := hAg
  dsimp only at hr2
  refine v_aload_n hC 1 dL_law_312 rfl rfl ?_
  refine v_aload_n hC 0 dL_law_313 rfl rfl ?_
  refine v_iload hC 4 dL_law_314 rfl ?_
  refine v_iconst hC (v := 1) dL_law_316 (by decide) ?_
  refine v_iadd hC dL_law_317 ?_
  refine v_sld hC hX hbl hbA h1 dL_law_318 ?_
  refine v_aload_n hC 3 dL_law_319 rfl rfl ?_
  refine v_callLE (n := 3) hC hr1 [.ref (zad Z 0), .int (xs (i + 1).toNatClampNeg), .ref (zad Z 10)] hNc (fun hne => c_L_holiday hfl Z M (xs (i + 1).toNatClampNeg) hne) ll_188 mw_L_holiday.1 mw_L_holiday.2.1 mw_L_holiday.2.2 ⟨by decide, by decide, by decide +kernel⟩ rfl rfl ⟨by decide, by decide⟩ rfl rfl (Nat.le_of_ble_eq_true rfl) (by show _ ≤ 601024; omega) (by show _ ≤ 7293034; omega) dL_law_320 ?_
  refine v_istore hC (lv1 := [(5, .int v), (0, .ref b), (1, .ref (zad Z 0)), (2, .ref (zad Z 9)), (3, .ref (zad Z 10)), (4, .int i)]) dL_law_323 (by decide) rfl ?_
  refine v_aload_n hC 3 dL_law_325 rfl rfl ?_
  refine v_aload_n hC 1 dL_law_326 rfl rfl ?_
  refine v_iload hC 5 dL_law_327 rfl ?_
  refine v_iconst hC (v := 1) dL_law_329 (by decide) ?_
  refine v_iadd hC dL_law_330 ?_
  refine v_sld hC hX hbl hbA h1 dL_law_331 ?_
  refine v_callEi (n := 1) hC hr2 [.int (xs (i + 1).toNatClampNeg)] 9 9 (by decide) rfl rfl (fun hne => c_X9_holiday hfl Z M1 (xs (i + 1).toNatClampNeg) hne) ll_190 mw_X9_holiday.1 mw_X9_holiday.2.1 mw_X9_holiday.2.2.1 mw_X9_holiday.2.2.2 ⟨rfl, by decide, by decide, by decide +kernel⟩ rfl rfl ⟨by decide, by decide⟩ rfl rfl (Nat.le_of_ble_eq_true rfl) (by show _ ≤ 601024; omega) (by show _ ≤ 7293034; omega) dL_law_332 ?_
  refine v_istore hC (lv1 := [(6, .int b0), (5, .int v), (0, .ref b), (1, .ref (zad Z 0)), (2, .ref (zad Z 9)), (3, .ref (zad Z 10)), (4, .int i)]) dL_law_335 (by decide) rfl ?_
  refine v_aload_n hC 4 dL_law_337 rfl rfl ?_
  refine v_callEi (n := 0) hC (rfl : f_X9_thrown M2 = rRet (M2 9 0) M2) [] 9 9 (by decide) rfl rfl (fun hne => c_X9_thrown hfl Z M2  hne) ll_184 mw_X9_thrown.1 mw_X9_thrown.2.1 mw_X9_thrown.2.2.1 mw_X9_thrown.2.2.2 ⟨rfl, by decide, by decide, by decide +kernel⟩ rfl rfl ⟨by decide, by decide⟩ rfl rfl (Nat.le_of_ble_eq_true rfl) (by show _ ≤ 601024; omega) (by show _ ≤ 7293034; omega) dL_law_338 ?_
  refine v_iload hC 1 dL_law_341 rfl ?_
  refine v_icmp_eq (tgt := 348) hC dL_law_343 (by decide) (fun _ => ?_) (fun h => absurd h9 h)
  refine v_iload hC 1 dL_law_348 rfl ?_
  refine v_if_ne (tgt := 372) hC dL_law_350 (by decide) (fun _ => ?_) (fun hv0 => ?_)
  · refine v_goto (tgt := 3558) hC dL_law_372 (by decide) ?_
    refine v_sub (lv1 := [(0, .ref b), (1, .ref (zad Z 0)), (2, .ref (zad Z 9)), (3, .ref (zad Z 10)), (4, .int i)]) [2, 3, 4, 5, 6] rfl ?_
    refine v_widen (k1 := k + 6) (by omega) ?_
    exact kk M2 hPM
  · skip
    refine v_aload_n hC 5 dL_law_353 rfl rfl ?_
    refine v_iconst hC (v := 0) dL_law_354 (by decide) ?_
    refine v_lald hC dL_law_355 ?_
    refine v_iload hC 0 dL_law_356 rfl ?_
    refine v_boolL (tgt := 365) hC dL_law_358 (by decide) dL_law_361 dL_law_362 (by decide) dL_law_365 ?_
    refine v_lcmp hC dL_law_366 ?_
    refine v_if_eq (tgt := 372) hC dL_law_367 (by decide) (fun _ => ?_) (fun h => absurd (lg_cmp_self (by rw [hout hv0])) h)
    refine v_goto (tgt := 3558) hC dL_law_372 (by decide) ?_
    refine v_sub (lv1 := [(0, .ref b), (1, .ref (zad Z 0)), (2, .ref (zad Z 9)), (3, .ref (zad Z 10)), (4, .int i)]) [2, 3, 4, 5, 6] rfl ?_
    refine v_widen (k1 := k + 6) (by omega) ?_
    exact kk M2 hPM
set_option maxRecDepth 20000 in
set_option maxHeartbeats 4000000 in
theorem lawc_2 {p : Program} {l : Launch} {e : Env} {s : State} {m : MethodId} {args : Array Value} {below : List Frame} {meth : Method} {c : Code} {Z : gZ} {Q : State → Prop} {k : Nat} {M : gM} {b L : Nat} {xs : Nat → Int32} {i : Int32} {PM : gM → Prop} (hfl : l.stackTraces = false) (hC : gD p s m args c cL_law 7 RL Z) (hNc : gNc s) (hX : va_X b L xs s s.heap) (hbl : b < s.heap.size) (hbA : ¬ zA Z b) (h1 : vp_in (i + 1) L) (h2 : vp_in (i + 2) L) (h3 : vp_in (i + 3) L) (hk1 : k + 6 ≤ 601024) (hk2 : 6 * (k + 6) ≤ 7293034) (hAg : AgI (f_L_setRule M (xs (i + 1).toNatClampNeg) (xs (i + 2).toNatClampNeg) (gb (xs (i + 3).toNatClampNeg))) (fun M1 => f_X9_setRule M1 (xs (i + 1).toNatClampNeg) (xs (i + 2).toNatClampNeg) (gb (xs (i + 3).toNatClampNeg))) PM) (kk : ∀ M2, PM M2 → gV p l e room_1 s m args below meth c 7 Z Q (k + 6) M2 3558 [(0, .ref b), (1, .ref (zad Z 0)), (2, .ref (zad Z 9)), (3, .ref (zad Z 10)), (4, .int i)] []) : gV p l e room_1 s m args below meth c 7 Z Q k M 375 [(0, .ref b), (1, .ref (zad Z 0)), (2, .ref (zad Z 9)), (3, .ref (zad Z 10)), (4, .int i)] [] := by
  obtain ⟨v, M1, b0, M2, hr1, hr2, h9, hout, hPM⟩ := hAg
  dsimp only at hr2
  refine v_aload_n hC 1 dL_law_375 rfl rfl ?_
  refine v_aload_n hC 0 dL_law_376 rfl rfl ?_
  refine v_iload hC 4 dL_law_377 rfl ?_
  refine v_iconst hC (v := 1) dL_law_379 (by decide) ?_
  refine v_iadd hC dL_law_380 ?_
  refine v_sld hC hX hbl hbA h1 dL_law_381 ?_
  refine v_aload_n hC 0 dL_law_382 rfl rfl ?_
  refine v_iload hC 4 dL_law_383 rfl ?_
  refine v_iconst hC (v := 2) dL_law_385 (by decide) ?_
  refine v_iadd hC dL_law_386 ?_
  refine v_sld hC hX hbl hbA h2 dL_law_387 ?_
  refine v_aload_n hC 0 dL_law_388 rfl rfl ?_
  refine v_iload hC 4 dL_law_389 rfl ?_
  refine v_iconst hC (v := 3) dL_law_391 (by decide) ?_
  refine v_iadd hC dL_law_392 ?_
  refine v_sld hC hX hbl hbA h3 dL_law_393 ?_
  refine v_bool (tgt := 401) hC dL_law_394 (by decide) dL_law_397 dL_law_398 (by decide) dL_law_401 ?_
  refine v_aload_n hC 3 dL_law_402 rfl rfl ?_
  refine v_callLE (n := 5) hC hr1 [.ref (zad Z 0), .int (xs (i + 1).toNatClampNeg), .int (xs (i + 2).toNatClampNeg), .int (gb (xs (i + 3).toNatClampNeg)), .ref (zad Z 10)] hNc (fun hne => c_L_setRule hfl Z M (xs (i + 1).toNatClampNeg) (xs (i + 2).toNatClampNeg) (gb (xs (i + 3).toNatClampNeg)) hne) ll_191 mw_L_setRule.1 mw_L_setRule.2.1 mw_L_setRule.2.2 ⟨by decide, by decide, by decide +kernel⟩ rfl rfl ⟨by decide, by decide⟩ rfl rfl (Nat.le_of_ble_eq_true rfl) (by show _ ≤ 601024; omega) (by show _ ≤ 7293034; omega) dL_law_403 ?_
  refine v_istore hC (lv1 := [(5, .int v), (0, .ref b), (1, .ref (zad Z 0)), (2, .ref (zad Z 9)), (3, .ref (zad Z 10)), (4, .int i)]) dL_law_406 (by decide) rfl ?_
  refine v_aload_n hC 3 dL_law_408 rfl rfl ?_
  refine v_aload_n hC 1 dL_law_409 rfl rfl ?_
  refine v_iload hC 5 dL_law_410 rfl ?_
  refine v_iconst hC (v := 1) dL_law_412 (by decide) ?_
  refine v_iadd hC dL_law_413 ?_
  refine v_sld hC hX hbl hbA h1 dL_law_414 ?_
  refine v_aload_n hC 1 dL_law_415 rfl rfl ?_
  refine v_iload hC 5 dL_law_416 rfl ?_
  refine v_iconst hC (v := 2) dL_law_418 (by decide) ?_
  refine v_iadd hC dL_law_419 ?_
  refine v_sld hC hX hbl hbA h2 dL_law_420 ?_
  refine v_aload_n hC 1 dL_law_421 rfl rfl ?_
  refine v_iload hC 5 dL_law_422 rfl ?_
  refine v_iconst hC (v := 3) dL_law_424 (by decide) ?_
  refine v_iadd hC dL_law_425 ?_
  refine v_sld hC hX hbl hbA h3 dL_law_426 ?_
  refine v_bool (tgt := 434) hC dL_law_427 (by decide) dL_law_430 dL_law_431 (by decide) dL_law_434 ?_
  refine v_callEi (n := 3) hC hr2 [.int (xs (i + 1).toNatClampNeg), .int (xs (i + 2).toNatClampNeg), .int (gb (xs (i + 3).toNatClampNeg))] 9 9 (by decide) rfl rfl (fun hne => c_X9_setRule hfl Z M1 (xs (i + 1).toNatClampNeg) (xs (i + 2).toNatClampNeg) (gb (xs (i + 3).toNatClampNeg)) hne) ll_194 mw_X9_setRule.1 mw_X9_setRule.2.1 mw_X9_setRule.2.2.1 mw_X9_setRule.2.2.2 ⟨rfl, by decide, by decide, by decide +kernel⟩ rfl rfl ⟨by decide, by decide⟩ rfl rfl (Nat.le_of_ble_eq_true rfl) (by show _ ≤ 601024; omega) (by show _ ≤ 7293034; omega) dL_law_435 ?_
  refine v_istore hC (lv1 := [(6, .int b0), (5, .int v), (0, .ref b), (1, .ref (zad Z 0)), (2, .ref (zad Z 9)), (3, .ref (zad Z 10)), (4, .int i)]) dL_law_438 (by decide) rfl ?_
  refine v_aload_n hC 4 dL_law_440 rfl rfl ?_
  refine v_callEi (n := 0) hC (rfl : f_X9_thrown M2 = rRet (M2 9 0) M2) [] 9 9 (by decide) rfl rfl (fun hne => c_X9_thrown hfl Z M2  hne) ll_184 mw_X9_thrown.1 mw_X9_thrown.2.1 mw_X9_thrown.2.2.1 mw_X9_thrown.2.2.2 ⟨rfl, by decide, by decide, by decide +kernel⟩ rfl rfl ⟨by decide, by decide⟩ rfl rfl (Nat.le_of_ble_eq_true rfl) (by show _ ≤ 601024; omega) (by show _ ≤ 7293034; omega) dL_law_441 ?_
  refine v_iload hC 1 dL_law_444 rfl ?_
  refine v_icmp_eq (tgt := 451) hC dL_law_446 (by decide) (fun _ => ?_) (fun h => absurd h9 h)
  refine v_iload hC 1 dL_law_451 rfl ?_
  refine v_if_ne (tgt := 468) hC dL_law_453 (by decide) (fun _ => ?_) (fun hv0 => ?_)
  · refine v_goto (tgt := 3558) hC dL_law_468 (by decide) ?_
    refine v_sub (lv1 := [(0, .ref b), (1, .ref (zad Z 0)), (2, .ref (zad Z 9)), (3, .ref (zad Z 10)), (4, .int i)]) [2, 3, 4, 5, 6] rfl ?_
    refine v_widen (k1 := k + 6) (by omega) ?_
    exact kk M2 hPM
  · skip
    refine v_aload_n hC 5 dL_law_456 rfl rfl ?_
    refine v_iconst hC (v := 0) dL_law_457 (by decide) ?_
    refine v_lald hC dL_law_458 ?_
    refine v_iload hC 0 dL_law_459 rfl ?_
    refine v_i2l hC dL_law_461 ?_
    refine v_lcmp hC dL_law_462 ?_
    refine v_if_eq (tgt := 468) hC dL_law_463 (by decide) (fun _ => ?_) (fun h => absurd (lg_cmp_self (by rw [hout hv0])) h)
    refine v_goto (tgt := 3558) hC dL_law_468 (by decide) ?_
    refine v_sub (lv1 := [(0, .ref b), (1, .ref (zad Z 0)), (2, .ref (zad Z 9)), (3, .ref (zad Z 10)), (4, .int i)]) [2, 3, 4, 5, 6] rfl ?_
    refine v_widen (k1 := k + 6) (by omega) ?_
    exact kk M2 hPM
set_option maxRecDepth 20000 in
set_option maxHeartbeats 4000000 in
theorem lawc_3 {p : Program} {l : Launch} {e : Env} {s : State} {m : MethodId} {args : Array Value} {below : List Frame} {meth : Method} {c : Code} {Z : gZ} {Q : State → Prop} {k : Nat} {M : gM} {b L : Nat} {xs : Nat → Int32} {i : Int32} {PM : gM → Prop} (hfl : l.stackTraces = false) (hC : gD p s m args c cL_law 7 RL Z) (hNc : gNc s) (hX : va_X b L xs s s.heap) (hbl : b < s.heap.size) (hbA : ¬ zA Z b) (h1 : vp_in (i + 1) L) (hk1 : k + 6 ≤ 601024) (hk2 : 6 * (k + 6) ≤ 7293034) (hAg : AgI (f_L_open M (xs (i + 1).toNatClampNeg)) (fun M1 => f_X9_open M1 (xs (i + 1).toNatClampNeg)) PM) (kk : ∀ M2, PM M2 → gV p l e room_1 s m args below meth c 7 Z Q (k + 6) M2 3558 [(0, .ref b), (1, .ref (zad Z 0)), (2, .ref (zad Z 9)), (3, .ref (zad Z 10)), (4, .int i)] []) : gV p l e room_1 s m args below meth c 7 Z Q k M 471 [(0, .ref b), (1, .ref (zad Z 0)), (2, .ref (zad Z 9)), (3, .ref (zad Z 10)), (4, .int i)] [] := by
  obtain ⟨v, M1, b0, M2, hr1, hr2, h9, hout, hPM⟩ := hAg
  dsimp only at hr2
  refine v_aload_n hC 1 dL_law_471 rfl rfl ?_
  refine v_aload_n hC 0 dL_law_472 rfl rfl ?_
  refine v_iload hC 4 dL_law_473 rfl ?_
  refine v_iconst hC (v := 1) dL_law_475 (by decide) ?_
  refine v_iadd hC dL_law_476 ?_
  refine v_sld hC hX hbl hbA h1 dL_law_477 ?_
  refine v_aload_n hC 3 dL_law_478 rfl rfl ?_
  refine v_callLE (n := 3) hC hr1 [.ref (zad Z 0), .int (xs (i + 1).toNatClampNeg), .ref (zad Z 10)] hNc (fun hne => c_L_open hfl Z M (xs (i + 1).toNatClampNeg) hne) ll_195 mw_L_open.1 mw_L_open.2.1 mw_L_open.2.2 ⟨by decide, by decide, by decide +kernel⟩ rfl rfl ⟨by decide, by decide⟩ rfl rfl (Nat.le_of_ble_eq_true rfl) (by show _ ≤ 601024; omega) (by show _ ≤ 7293034; omega) dL_law_479 ?_
  refine v_istore hC (lv1 := [(5, .int v), (0, .ref b), (1, .ref (zad Z 0)), (2, .ref (zad Z 9)), (3, .ref (zad Z 10)), (4, .int i)]) dL_law_482 (by decide) rfl ?_
  refine v_aload_n hC 3 dL_law_484 rfl rfl ?_
  refine v_aload_n hC 1 dL_law_485 rfl rfl ?_
  refine v_iload hC 5 dL_law_486 rfl ?_
  refine v_iconst hC (v := 1) dL_law_488 (by decide) ?_
  refine v_iadd hC dL_law_489 ?_
  refine v_sld hC hX hbl hbA h1 dL_law_490 ?_
  refine v_callEi (n := 1) hC hr2 [.int (xs (i + 1).toNatClampNeg)] 9 9 (by decide) rfl rfl (fun hne => c_X9_open hfl Z M1 (xs (i + 1).toNatClampNeg) hne) ll_197 mw_X9_open.1 mw_X9_open.2.1 mw_X9_open.2.2.1 mw_X9_open.2.2.2 ⟨rfl, by decide, by decide, by decide +kernel⟩ rfl rfl ⟨by decide, by decide⟩ rfl rfl (Nat.le_of_ble_eq_true rfl) (by show _ ≤ 601024; omega) (by show _ ≤ 7293034; omega) dL_law_491 ?_
  refine v_istore hC (lv1 := [(6, .int b0), (5, .int v), (0, .ref b), (1, .ref (zad Z 0)), (2, .ref (zad Z 9)), (3, .ref (zad Z 10)), (4, .int i)]) dL_law_494 (by decide) rfl ?_
  refine v_aload_n hC 4 dL_law_496 rfl rfl ?_
  refine v_callEi (n := 0) hC (rfl : f_X9_thrown M2 = rRet (M2 9 0) M2) [] 9 9 (by decide) rfl rfl (fun hne => c_X9_thrown hfl Z M2  hne) ll_184 mw_X9_thrown.1 mw_X9_thrown.2.1 mw_X9_thrown.2.2.1 mw_X9_thrown.2.2.2 ⟨rfl, by decide, by decide, by decide +kernel⟩ rfl rfl ⟨by decide, by decide⟩ rfl rfl (Nat.le_of_ble_eq_true rfl) (by show _ ≤ 601024; omega) (by show _ ≤ 7293034; omega) dL_law_497 ?_
  refine v_iload hC 1 dL_law_500 rfl ?_
  refine v_icmp_eq (tgt := 507) hC dL_law_502 (by decide) (fun _ => ?_) (fun h => absurd h9 h)
  refine v_iload hC 1 dL_law_507 rfl ?_
  refine v_if_ne (tgt := 524) hC dL_law_509 (by decide) (fun _ => ?_) (fun hv0 => ?_)
  · refine v_goto (tgt := 3558) hC dL_law_524 (by decide) ?_
    refine v_sub (lv1 := [(0, .ref b), (1, .ref (zad Z 0)), (2, .ref (zad Z 9)), (3, .ref (zad Z 10)), (4, .int i)]) [2, 3, 4, 5, 6] rfl ?_
    refine v_widen (k1 := k + 6) (by omega) ?_
    exact kk M2 hPM
  · skip
    refine v_aload_n hC 5 dL_law_512 rfl rfl ?_
    refine v_iconst hC (v := 0) dL_law_513 (by decide) ?_
    refine v_lald hC dL_law_514 ?_
    refine v_iload hC 0 dL_law_515 rfl ?_
    refine v_i2l hC dL_law_517 ?_
    refine v_lcmp hC dL_law_518 ?_
    refine v_if_eq (tgt := 524) hC dL_law_519 (by decide) (fun _ => ?_) (fun h => absurd (lg_cmp_self (by rw [hout hv0])) h)
    refine v_goto (tgt := 3558) hC dL_law_524 (by decide) ?_
    refine v_sub (lv1 := [(0, .ref b), (1, .ref (zad Z 0)), (2, .ref (zad Z 9)), (3, .ref (zad Z 10)), (4, .int i)]) [2, 3, 4, 5, 6] rfl ?_
    refine v_widen (k1 := k + 6) (by omega) ?_
    exact kk M2 hPM
set_option maxRecDepth 20000 in
set_option maxHeartbeats 4000000 in
theorem lawc_4 {p : Program} {l : Launch} {e : Env} {s : State} {m : MethodId} {args : Array Value} {below : List Frame} {meth : Method} {c : Code} {Z : gZ} {Q : State → Prop} {k : Nat} {M : gM} {b L : Nat} {xs : Nat → Int32} {i : Int32} {PM : gM → Prop} (hfl : l.stackTraces = false) (hC : gD p s m args c cL_law 7 RL Z) (hNc : gNc s) (hX : va_X b L xs s s.heap) (hbl : b < s.heap.size) (hbA : ¬ zA Z b) (h1 : vp_in (i + 1) L) (h2 : vp_in (i + 2) L) (h3 : vp_in (i + 3) L) (hk1 : k + 6 ≤ 601024) (hk2 : 6 * (k + 6) ≤ 7293034) (hAg : AgI (f_L_join M (xs (i + 1).toNatClampNeg) (xs (i + 2).toNatClampNeg) (xs (i + 3).toNatClampNeg)) (fun M1 => f_X9_join M1 (xs (i + 1).toNatClampNeg) (xs (i + 2).toNatClampNeg) (xs (i + 3).toNatClampNeg)) PM) (kk : ∀ M2, PM M2 → gV p l e room_1 s m args below meth c 7 Z Q (k + 6) M2 3558 [(0, .ref b), (1, .ref (zad Z 0)), (2, .ref (zad Z 9)), (3, .ref (zad Z 10)), (4, .int i)] []) : gV p l e room_1 s m args below meth c 7 Z Q k M 527 [(0, .ref b), (1, .ref (zad Z 0)), (2, .ref (zad Z 9)), (3, .ref (zad Z 10)), (4, .int i)] [] := by
  obtain ⟨v, M1, b0, M2, hr1, hr2, h9, hout, hPM⟩ := hAg
  dsimp only at hr2
  refine v_aload_n hC 1 dL_law_527 rfl rfl ?_
  refine v_aload_n hC 0 dL_law_528 rfl rfl ?_
  refine v_iload hC 4 dL_law_529 rfl ?_
  refine v_iconst hC (v := 1) dL_law_531 (by decide) ?_
  refine v_iadd hC dL_law_532 ?_
  refine v_sld hC hX hbl hbA h1 dL_law_533 ?_
  refine v_aload_n hC 0 dL_law_534 rfl rfl ?_
  refine v_iload hC 4 dL_law_535 rfl ?_
  refine v_iconst hC (v := 2) dL_law_537 (by decide) ?_
  refine v_iadd hC dL_law_538 ?_
  refine v_sld hC hX hbl hbA h2 dL_law_539 ?_
  refine v_aload_n hC 0 dL_law_540 rfl rfl ?_
  refine v_iload hC 4 dL_law_541 rfl ?_
  refine v_iconst hC (v := 3) dL_law_543 (by decide) ?_
  refine v_iadd hC dL_law_544 ?_
  refine v_sld hC hX hbl hbA h3 dL_law_545 ?_
  refine v_aload_n hC 3 dL_law_546 rfl rfl ?_
  refine v_callLE (n := 5) hC hr1 [.ref (zad Z 0), .int (xs (i + 1).toNatClampNeg), .int (xs (i + 2).toNatClampNeg), .int (xs (i + 3).toNatClampNeg), .ref (zad Z 10)] hNc (fun hne => c_L_join hfl Z M (xs (i + 1).toNatClampNeg) (xs (i + 2).toNatClampNeg) (xs (i + 3).toNatClampNeg) hne) ll_198 mw_L_join.1 mw_L_join.2.1 mw_L_join.2.2 ⟨by decide, by decide, by decide +kernel⟩ rfl rfl ⟨by decide, by decide⟩ rfl rfl (Nat.le_of_ble_eq_true rfl) (by show _ ≤ 601024; omega) (by show _ ≤ 7293034; omega) dL_law_547 ?_
  refine v_istore hC (lv1 := [(5, .int v), (0, .ref b), (1, .ref (zad Z 0)), (2, .ref (zad Z 9)), (3, .ref (zad Z 10)), (4, .int i)]) dL_law_550 (by decide) rfl ?_
  refine v_aload_n hC 3 dL_law_552 rfl rfl ?_
  refine v_aload_n hC 1 dL_law_553 rfl rfl ?_
  refine v_iload hC 5 dL_law_554 rfl ?_
  refine v_iconst hC (v := 1) dL_law_556 (by decide) ?_
  refine v_iadd hC dL_law_557 ?_
  refine v_sld hC hX hbl hbA h1 dL_law_558 ?_
  refine v_aload_n hC 1 dL_law_559 rfl rfl ?_
  refine v_iload hC 5 dL_law_560 rfl ?_
  refine v_iconst hC (v := 2) dL_law_562 (by decide) ?_
  refine v_iadd hC dL_law_563 ?_
  refine v_sld hC hX hbl hbA h2 dL_law_564 ?_
  refine v_aload_n hC 1 dL_law_565 rfl rfl ?_
  refine v_iload hC 5 dL_law_566 rfl ?_
  refine v_iconst hC (v := 3) dL_law_568 (by decide) ?_
  refine v_iadd hC dL_law_569 ?_
  refine v_sld hC hX hbl hbA h3 dL_law_570 ?_
  refine v_callEi (n := 3) hC hr2 [.int (xs (i + 1).toNatClampNeg), .int (xs (i + 2).toNatClampNeg), .int (xs (i + 3).toNatClampNeg)] 9 9 (by decide) rfl rfl (fun hne => c_X9_join hfl Z M1 (xs (i + 1).toNatClampNeg) (xs (i + 2).toNatClampNeg) (xs (i + 3).toNatClampNeg) hne) ll_201 mw_X9_join.1 mw_X9_join.2.1 mw_X9_join.2.2.1 mw_X9_join.2.2.2 ⟨rfl, by decide, by decide, by decide +kernel⟩ rfl rfl ⟨by decide, by decide⟩ rfl rfl (Nat.le_of_ble_eq_true rfl) (by show _ ≤ 601024; omega) (by show _ ≤ 7293034; omega) dL_law_571 ?_
  refine v_istore hC (lv1 := [(6, .int b0), (5, .int v), (0, .ref b), (1, .ref (zad Z 0)), (2, .ref (zad Z 9)), (3, .ref (zad Z 10)), (4, .int i)]) dL_law_574 (by decide) rfl ?_
  refine v_aload_n hC 4 dL_law_576 rfl rfl ?_
  refine v_callEi (n := 0) hC (rfl : f_X9_thrown M2 = rRet (M2 9 0) M2) [] 9 9 (by decide) rfl rfl (fun hne => c_X9_thrown hfl Z M2  hne) ll_184 mw_X9_thrown.1 mw_X9_thrown.2.1 mw_X9_thrown.2.2.1 mw_X9_thrown.2.2.2 ⟨rfl, by decide, by decide, by decide +kernel⟩ rfl rfl ⟨by decide, by decide⟩ rfl rfl (Nat.le_of_ble_eq_true rfl) (by show _ ≤ 601024; omega) (by show _ ≤ 7293034; omega) dL_law_577 ?_
  refine v_iload hC 1 dL_law_580 rfl ?_
  refine v_icmp_eq (tgt := 587) hC dL_law_582 (by decide) (fun _ => ?_) (fun h => absurd h9 h)
  refine v_iload hC 1 dL_law_587 rfl ?_
  refine v_if_ne (tgt := 604) hC dL_law_589 (by decide) (fun _ => ?_) (fun hv0 => ?_)
  · refine v_goto (tgt := 3558) hC dL_law_604 (by decide) ?_
    refine v_sub (lv1 := [(0, .ref b), (1, .ref (zad Z 0)), (2, .ref (zad Z 9)), (3, .ref (zad Z 10)), (4, .int i)]) [2, 3, 4, 5, 6] rfl ?_
    refine v_widen (k1 := k + 6) (by omega) ?_
    exact kk M2 hPM
  · skip
    refine v_aload_n hC 5 dL_law_592 rfl rfl ?_
    refine v_iconst hC (v := 0) dL_law_593 (by decide) ?_
    refine v_lald hC dL_law_594 ?_
    refine v_iload hC 0 dL_law_595 rfl ?_
    refine v_i2l hC dL_law_597 ?_
    refine v_lcmp hC dL_law_598 ?_
    refine v_if_eq (tgt := 604) hC dL_law_599 (by decide) (fun _ => ?_) (fun h => absurd (lg_cmp_self (by rw [hout hv0])) h)
    refine v_goto (tgt := 3558) hC dL_law_604 (by decide) ?_
    refine v_sub (lv1 := [(0, .ref b), (1, .ref (zad Z 0)), (2, .ref (zad Z 9)), (3, .ref (zad Z 10)), (4, .int i)]) [2, 3, 4, 5, 6] rfl ?_
    refine v_widen (k1 := k + 6) (by omega) ?_
    exact kk M2 hPM
set_option maxRecDepth 20000 in
set_option maxHeartbeats 4000000 in
theorem lawc_5 {p : Program} {l : Launch} {e : Env} {s : State} {m : MethodId} {args : Array Value} {below : List Frame} {meth : Method} {c : Code} {Z : gZ} {Q : State → Prop} {k : Nat} {M : gM} {b L : Nat} {xs : Nat → Int32} {i : Int32} {PM : gM → Prop} (hfl : l.stackTraces = false) (hC : gD p s m args c cL_law 7 RL Z) (hNc : gNc s) (hX : va_X b L xs s s.heap) (hbl : b < s.heap.size) (hbA : ¬ zA Z b) (h1 : vp_in (i + 1) L) (h2 : vp_in (i + 2) L) (hk1 : k + 6 ≤ 601024) (hk2 : 6 * (k + 6) ≤ 7293034) (hAg : AgI (f_L_lead M (xs (i + 1).toNatClampNeg) (xs (i + 2).toNatClampNeg)) (fun M1 => f_X9_lead M1 (xs (i + 1).toNatClampNeg) (xs (i + 2).toNatClampNeg)) PM) (kk : ∀ M2, PM M2 → gV p l e room_1 s m args below meth c 7 Z Q (k + 6) M2 3558 [(0, .ref b), (1, .ref (zad Z 0)), (2, .ref (zad Z 9)), (3, .ref (zad Z 10)), (4, .int i)] []) : gV p l e room_1 s m args below meth c 7 Z Q k M 607 [(0, .ref b), (1, .ref (zad Z 0)), (2, .ref (zad Z 9)), (3, .ref (zad Z 10)), (4, .int i)] [] := by
  obtain ⟨v, M1, b0, M2, hr1, hr2, h9, hout, hPM⟩ := hAg
  dsimp only at hr2
  refine v_aload_n hC 1 dL_law_607 rfl rfl ?_
  refine v_aload_n hC 0 dL_law_608 rfl rfl ?_
  refine v_iload hC 4 dL_law_609 rfl ?_
  refine v_iconst hC (v := 1) dL_law_611 (by decide) ?_
  refine v_iadd hC dL_law_612 ?_
  refine v_sld hC hX hbl hbA h1 dL_law_613 ?_
  refine v_aload_n hC 0 dL_law_614 rfl rfl ?_
  refine v_iload hC 4 dL_law_615 rfl ?_
  refine v_iconst hC (v := 2) dL_law_617 (by decide) ?_
  refine v_iadd hC dL_law_618 ?_
  refine v_sld hC hX hbl hbA h2 dL_law_619 ?_
  refine v_aload_n hC 3 dL_law_620 rfl rfl ?_
  refine v_callLE (n := 4) hC hr1 [.ref (zad Z 0), .int (xs (i + 1).toNatClampNeg), .int (xs (i + 2).toNatClampNeg), .ref (zad Z 10)] hNc (fun hne => c_L_lead hfl Z M (xs (i + 1).toNatClampNeg) (xs (i + 2).toNatClampNeg) hne) ll_202 mw_L_lead.1 mw_L_lead.2.1 mw_L_lead.2.2 ⟨by decide, by decide, by decide +kernel⟩ rfl rfl ⟨by decide, by decide⟩ rfl rfl (Nat.le_of_ble_eq_true rfl) (by show _ ≤ 601024; omega) (by show _ ≤ 7293034; omega) dL_law_621 ?_
  refine v_istore hC (lv1 := [(5, .int v), (0, .ref b), (1, .ref (zad Z 0)), (2, .ref (zad Z 9)), (3, .ref (zad Z 10)), (4, .int i)]) dL_law_624 (by decide) rfl ?_
  refine v_aload_n hC 3 dL_law_626 rfl rfl ?_
  refine v_aload_n hC 1 dL_law_627 rfl rfl ?_
  refine v_iload hC 5 dL_law_628 rfl ?_
  refine v_iconst hC (v := 1) dL_law_630 (by decide) ?_
  refine v_iadd hC dL_law_631 ?_
  refine v_sld hC hX hbl hbA h1 dL_law_632 ?_
  refine v_aload_n hC 1 dL_law_633 rfl rfl ?_
  refine v_iload hC 5 dL_law_634 rfl ?_
  refine v_iconst hC (v := 2) dL_law_636 (by decide) ?_
  refine v_iadd hC dL_law_637 ?_
  refine v_sld hC hX hbl hbA h2 dL_law_638 ?_
  refine v_callEi (n := 2) hC hr2 [.int (xs (i + 1).toNatClampNeg), .int (xs (i + 2).toNatClampNeg)] 9 9 (by decide) rfl rfl (fun hne => c_X9_lead hfl Z M1 (xs (i + 1).toNatClampNeg) (xs (i + 2).toNatClampNeg) hne) ll_205 mw_X9_lead.1 mw_X9_lead.2.1 mw_X9_lead.2.2.1 mw_X9_lead.2.2.2 ⟨rfl, by decide, by decide, by decide +kernel⟩ rfl rfl ⟨by decide, by decide⟩ rfl rfl (Nat.le_of_ble_eq_true rfl) (by show _ ≤ 601024; omega) (by show _ ≤ 7293034; omega) dL_law_639 ?_
  refine v_istore hC (lv1 := [(6, .int b0), (5, .int v), (0, .ref b), (1, .ref (zad Z 0)), (2, .ref (zad Z 9)), (3, .ref (zad Z 10)), (4, .int i)]) dL_law_642 (by decide) rfl ?_
  refine v_aload_n hC 4 dL_law_644 rfl rfl ?_
  refine v_callEi (n := 0) hC (rfl : f_X9_thrown M2 = rRet (M2 9 0) M2) [] 9 9 (by decide) rfl rfl (fun hne => c_X9_thrown hfl Z M2  hne) ll_184 mw_X9_thrown.1 mw_X9_thrown.2.1 mw_X9_thrown.2.2.1 mw_X9_thrown.2.2.2 ⟨rfl, by decide, by decide, by decide +kernel⟩ rfl rfl ⟨by decide, by decide⟩ rfl rfl (Nat.le_of_ble_eq_true rfl) (by show _ ≤ 601024; omega) (by show _ ≤ 7293034; omega) dL_law_645 ?_
  refine v_iload hC 1 dL_law_648 rfl ?_
  refine v_icmp_eq (tgt := 655) hC dL_law_650 (by decide) (fun _ => ?_) (fun h => absurd h9 h)
  refine v_iload hC 1 dL_law_655 rfl ?_
  refine v_if_ne (tgt := 672) hC dL_law_657 (by decide) (fun _ => ?_) (fun hv0 => ?_)
  · refine v_goto (tgt := 3558) hC dL_law_672 (by decide) ?_
    refine v_sub (lv1 := [(0, .ref b), (1, .ref (zad Z 0)), (2, .ref (zad Z 9)), (3, .ref (zad Z 10)), (4, .int i)]) [2, 3, 4, 5, 6] rfl ?_
    refine v_widen (k1 := k + 6) (by omega) ?_
    exact kk M2 hPM
  · skip
    refine v_aload_n hC 5 dL_law_660 rfl rfl ?_
    refine v_iconst hC (v := 0) dL_law_661 (by decide) ?_
    refine v_lald hC dL_law_662 ?_
    refine v_iload hC 0 dL_law_663 rfl ?_
    refine v_i2l hC dL_law_665 ?_
    refine v_lcmp hC dL_law_666 ?_
    refine v_if_eq (tgt := 672) hC dL_law_667 (by decide) (fun _ => ?_) (fun h => absurd (lg_cmp_self (by rw [hout hv0])) h)
    refine v_goto (tgt := 3558) hC dL_law_672 (by decide) ?_
    refine v_sub (lv1 := [(0, .ref b), (1, .ref (zad Z 0)), (2, .ref (zad Z 9)), (3, .ref (zad Z 10)), (4, .int i)]) [2, 3, 4, 5, 6] rfl ?_
    refine v_widen (k1 := k + 6) (by omega) ?_
    exact kk M2 hPM
set_option maxRecDepth 20000 in
set_option maxHeartbeats 4000000 in
theorem lawc_6 {p : Program} {l : Launch} {e : Env} {s : State} {m : MethodId} {args : Array Value} {below : List Frame} {meth : Method} {c : Code} {Z : gZ} {Q : State → Prop} {k : Nat} {M : gM} {b L : Nat} {xs : Nat → Int32} {i : Int32} {PM : gM → Prop} (hfl : l.stackTraces = false) (hC : gD p s m args c cL_law 7 RL Z) (hNc : gNc s) (hX : va_X b L xs s s.heap) (hbl : b < s.heap.size) (hbA : ¬ zA Z b) (h1 : vp_in (i + 1) L) (h2 : vp_in (i + 2) L) (h3 : vp_in (i + 3) L) (h4 : vp_in (i + 4) L) (hk1 : k + 6 ≤ 601024) (hk2 : 6 * (k + 6) ≤ 7293034) (hAg : AgI (f_L_claim M (xs (i + 1).toNatClampNeg) (xs (i + 2).toNatClampNeg) (xs (i + 3).toNatClampNeg) (xs (i + 4).toNatClampNeg)) (fun M1 => f_X9_claim M1 (xs (i + 1).toNatClampNeg) (xs (i + 2).toNatClampNeg) (xs (i + 3).toNatClampNeg) (xs (i + 4).toNatClampNeg)) PM) (kk : ∀ M2, PM M2 → gV p l e room_1 s m args below meth c 7 Z Q (k + 6) M2 3558 [(0, .ref b), (1, .ref (zad Z 0)), (2, .ref (zad Z 9)), (3, .ref (zad Z 10)), (4, .int i)] []) : gV p l e room_1 s m args below meth c 7 Z Q k M 675 [(0, .ref b), (1, .ref (zad Z 0)), (2, .ref (zad Z 9)), (3, .ref (zad Z 10)), (4, .int i)] [] := by
  obtain ⟨v, M1, b0, M2, hr1, hr2, h9, hout, hPM⟩ := hAg
  dsimp only at hr2
  refine v_aload_n hC 1 dL_law_675 rfl rfl ?_
  refine v_aload_n hC 0 dL_law_676 rfl rfl ?_
  refine v_iload hC 4 dL_law_677 rfl ?_
  refine v_iconst hC (v := 1) dL_law_679 (by decide) ?_
  refine v_iadd hC dL_law_680 ?_
  refine v_sld hC hX hbl hbA h1 dL_law_681 ?_
  refine v_aload_n hC 0 dL_law_682 rfl rfl ?_
  refine v_iload hC 4 dL_law_683 rfl ?_
  refine v_iconst hC (v := 2) dL_law_685 (by decide) ?_
  refine v_iadd hC dL_law_686 ?_
  refine v_sld hC hX hbl hbA h2 dL_law_687 ?_
  refine v_aload_n hC 0 dL_law_688 rfl rfl ?_
  refine v_iload hC 4 dL_law_689 rfl ?_
  refine v_iconst hC (v := 3) dL_law_691 (by decide) ?_
  refine v_iadd hC dL_law_692 ?_
  refine v_sld hC hX hbl hbA h3 dL_law_693 ?_
  refine v_aload_n hC 0 dL_law_694 rfl rfl ?_
  refine v_iload hC 4 dL_law_695 rfl ?_
  refine v_iconst hC (v := 4) dL_law_697 (by decide) ?_
  refine v_iadd hC dL_law_698 ?_
  refine v_sld hC hX hbl hbA h4 dL_law_699 ?_
  refine v_aload_n hC 3 dL_law_700 rfl rfl ?_
  refine v_callLE (n := 6) hC hr1 [.ref (zad Z 0), .int (xs (i + 1).toNatClampNeg), .int (xs (i + 2).toNatClampNeg), .int (xs (i + 3).toNatClampNeg), .int (xs (i + 4).toNatClampNeg), .ref (zad Z 10)] hNc (fun hne => c_L_claim hfl Z M (xs (i + 1).toNatClampNeg) (xs (i + 2).toNatClampNeg) (xs (i + 3).toNatClampNeg) (xs (i + 4).toNatClampNeg) hne) ll_206 mw_L_claim.1 mw_L_claim.2.1 mw_L_claim.2.2 ⟨by decide, by decide, by decide +kernel⟩ rfl rfl ⟨by decide, by decide⟩ rfl rfl (Nat.le_of_ble_eq_true rfl) (by show _ ≤ 601024; omega) (by show _ ≤ 7293034; omega) dL_law_701 ?_
  refine v_istore hC (lv1 := [(5, .int v), (0, .ref b), (1, .ref (zad Z 0)), (2, .ref (zad Z 9)), (3, .ref (zad Z 10)), (4, .int i)]) dL_law_704 (by decide) rfl ?_
  refine v_aload_n hC 3 dL_law_706 rfl rfl ?_
  refine v_aload_n hC 1 dL_law_707 rfl rfl ?_
  refine v_iload hC 5 dL_law_708 rfl ?_
  refine v_iconst hC (v := 1) dL_law_710 (by decide) ?_
  refine v_iadd hC dL_law_711 ?_
  refine v_sld hC hX hbl hbA h1 dL_law_712 ?_
  refine v_aload_n hC 1 dL_law_713 rfl rfl ?_
  refine v_iload hC 5 dL_law_714 rfl ?_
  refine v_iconst hC (v := 2) dL_law_716 (by decide) ?_
  refine v_iadd hC dL_law_717 ?_
  refine v_sld hC hX hbl hbA h2 dL_law_718 ?_
  refine v_aload_n hC 1 dL_law_719 rfl rfl ?_
  refine v_iload hC 5 dL_law_720 rfl ?_
  refine v_iconst hC (v := 3) dL_law_722 (by decide) ?_
  refine v_iadd hC dL_law_723 ?_
  refine v_sld hC hX hbl hbA h3 dL_law_724 ?_
  refine v_aload_n hC 1 dL_law_725 rfl rfl ?_
  refine v_iload hC 5 dL_law_726 rfl ?_
  refine v_iconst hC (v := 4) dL_law_728 (by decide) ?_
  refine v_iadd hC dL_law_729 ?_
  refine v_sld hC hX hbl hbA h4 dL_law_730 ?_
  refine v_callEi (n := 4) hC hr2 [.int (xs (i + 1).toNatClampNeg), .int (xs (i + 2).toNatClampNeg), .int (xs (i + 3).toNatClampNeg), .int (xs (i + 4).toNatClampNeg)] 9 9 (by decide) rfl rfl (fun hne => c_X9_claim hfl Z M1 (xs (i + 1).toNatClampNeg) (xs (i + 2).toNatClampNeg) (xs (i + 3).toNatClampNeg) (xs (i + 4).toNatClampNeg) hne) ll_209 mw_X9_claim.1 mw_X9_claim.2.1 mw_X9_claim.2.2.1 mw_X9_claim.2.2.2 ⟨rfl, by decide, by decide, by decide +kernel⟩ rfl rfl ⟨by decide, by decide⟩ rfl rfl (Nat.le_of_ble_eq_true rfl) (by show _ ≤ 601024; omega) (by show _ ≤ 7293034; omega) dL_law_731 ?_
  refine v_istore hC (lv1 := [(6, .int b0), (5, .int v), (0, .ref b), (1, .ref (zad Z 0)), (2, .ref (zad Z 9)), (3, .ref (zad Z 10)), (4, .int i)]) dL_law_734 (by decide) rfl ?_
  refine v_aload_n hC 4 dL_law_736 rfl rfl ?_
  refine v_callEi (n := 0) hC (rfl : f_X9_thrown M2 = rRet (M2 9 0) M2) [] 9 9 (by decide) rfl rfl (fun hne => c_X9_thrown hfl Z M2  hne) ll_184 mw_X9_thrown.1 mw_X9_thrown.2.1 mw_X9_thrown.2.2.1 mw_X9_thrown.2.2.2 ⟨rfl, by decide, by decide, by decide +kernel⟩ rfl rfl ⟨by decide, by decide⟩ rfl rfl (Nat.le_of_ble_eq_true rfl) (by show _ ≤ 601024; omega) (by show _ ≤ 7293034; omega) dL_law_737 ?_
  refine v_iload hC 1 dL_law_740 rfl ?_
  refine v_icmp_eq (tgt := 747) hC dL_law_742 (by decide) (fun _ => ?_) (fun h => absurd h9 h)
  refine v_iload hC 1 dL_law_747 rfl ?_
  refine v_if_ne (tgt := 764) hC dL_law_749 (by decide) (fun _ => ?_) (fun hv0 => ?_)
  · refine v_goto (tgt := 3558) hC dL_law_764 (by decide) ?_
    refine v_sub (lv1 := [(0, .ref b), (1, .ref (zad Z 0)), (2, .ref (zad Z 9)), (3, .ref (zad Z 10)), (4, .int i)]) [2, 3, 4, 5, 6] rfl ?_
    refine v_widen (k1 := k + 6) (by omega) ?_
    exact kk M2 hPM
  · skip
    refine v_aload_n hC 5 dL_law_752 rfl rfl ?_
    refine v_iconst hC (v := 0) dL_law_753 (by decide) ?_
    refine v_lald hC dL_law_754 ?_
    refine v_iload hC 0 dL_law_755 rfl ?_
    refine v_i2l hC dL_law_757 ?_
    refine v_lcmp hC dL_law_758 ?_
    refine v_if_eq (tgt := 764) hC dL_law_759 (by decide) (fun _ => ?_) (fun h => absurd (lg_cmp_self (by rw [hout hv0])) h)
    refine v_goto (tgt := 3558) hC dL_law_764 (by decide) ?_
    refine v_sub (lv1 := [(0, .ref b), (1, .ref (zad Z 0)), (2, .ref (zad Z 9)), (3, .ref (zad Z 10)), (4, .int i)]) [2, 3, 4, 5, 6] rfl ?_
    refine v_widen (k1 := k + 6) (by omega) ?_
    exact kk M2 hPM
set_option maxRecDepth 20000 in
set_option maxHeartbeats 4000000 in
theorem lawc_7 {p : Program} {l : Launch} {e : Env} {s : State} {m : MethodId} {args : Array Value} {below : List Frame} {meth : Method} {c : Code} {Z : gZ} {Q : State → Prop} {k : Nat} {M : gM} {b L : Nat} {xs : Nat → Int32} {i : Int32} {PM : gM → Prop} (hfl : l.stackTraces = false) (hC : gD p s m args c cL_law 7 RL Z) (hNc : gNc s) (hX : va_X b L xs s s.heap) (hbl : b < s.heap.size) (hbA : ¬ zA Z b) (h1 : vp_in (i + 1) L) (hk1 : k + 6 ≤ 601024) (hk2 : 6 * (k + 6) ≤ 7293034) (hAg : AgI (f_L_sever M (xs (i + 1).toNatClampNeg)) (fun M1 => f_X9_sever M1 (xs (i + 1).toNatClampNeg)) PM) (kk : ∀ M2, PM M2 → gV p l e room_1 s m args below meth c 7 Z Q (k + 6) M2 3558 [(0, .ref b), (1, .ref (zad Z 0)), (2, .ref (zad Z 9)), (3, .ref (zad Z 10)), (4, .int i)] []) : gV p l e room_1 s m args below meth c 7 Z Q k M 767 [(0, .ref b), (1, .ref (zad Z 0)), (2, .ref (zad Z 9)), (3, .ref (zad Z 10)), (4, .int i)] [] := by
  obtain ⟨v, M1, b0, M2, hr1, hr2, h9, hout, hPM⟩ := hAg
  dsimp only at hr2
  refine v_aload_n hC 1 dL_law_767 rfl rfl ?_
  refine v_aload_n hC 0 dL_law_768 rfl rfl ?_
  refine v_iload hC 4 dL_law_769 rfl ?_
  refine v_iconst hC (v := 1) dL_law_771 (by decide) ?_
  refine v_iadd hC dL_law_772 ?_
  refine v_sld hC hX hbl hbA h1 dL_law_773 ?_
  refine v_aload_n hC 3 dL_law_774 rfl rfl ?_
  refine v_callLE (n := 3) hC hr1 [.ref (zad Z 0), .int (xs (i + 1).toNatClampNeg), .ref (zad Z 10)] hNc (fun hne => c_L_sever hfl Z M (xs (i + 1).toNatClampNeg) hne) ll_210 mw_L_sever.1 mw_L_sever.2.1 mw_L_sever.2.2 ⟨by decide, by decide, by decide +kernel⟩ rfl rfl ⟨by decide, by decide⟩ rfl rfl (Nat.le_of_ble_eq_true rfl) (by show _ ≤ 601024; omega) (by show _ ≤ 7293034; omega) dL_law_775 ?_
  refine v_istore hC (lv1 := [(5, .int v), (0, .ref b), (1, .ref (zad Z 0)), (2, .ref (zad Z 9)), (3, .ref (zad Z 10)), (4, .int i)]) dL_law_778 (by decide) rfl ?_
  refine v_aload_n hC 3 dL_law_780 rfl rfl ?_
  refine v_aload_n hC 1 dL_law_781 rfl rfl ?_
  refine v_iload hC 5 dL_law_782 rfl ?_
  refine v_iconst hC (v := 1) dL_law_784 (by decide) ?_
  refine v_iadd hC dL_law_785 ?_
  refine v_sld hC hX hbl hbA h1 dL_law_786 ?_
  refine v_callEi (n := 1) hC hr2 [.int (xs (i + 1).toNatClampNeg)] 9 9 (by decide) rfl rfl (fun hne => c_X9_sever hfl Z M1 (xs (i + 1).toNatClampNeg) hne) ll_212 mw_X9_sever.1 mw_X9_sever.2.1 mw_X9_sever.2.2.1 mw_X9_sever.2.2.2 ⟨rfl, by decide, by decide, by decide +kernel⟩ rfl rfl ⟨by decide, by decide⟩ rfl rfl (Nat.le_of_ble_eq_true rfl) (by show _ ≤ 601024; omega) (by show _ ≤ 7293034; omega) dL_law_787 ?_
  refine v_istore hC (lv1 := [(6, .int b0), (5, .int v), (0, .ref b), (1, .ref (zad Z 0)), (2, .ref (zad Z 9)), (3, .ref (zad Z 10)), (4, .int i)]) dL_law_790 (by decide) rfl ?_
  refine v_aload_n hC 4 dL_law_792 rfl rfl ?_
  refine v_callEi (n := 0) hC (rfl : f_X9_thrown M2 = rRet (M2 9 0) M2) [] 9 9 (by decide) rfl rfl (fun hne => c_X9_thrown hfl Z M2  hne) ll_184 mw_X9_thrown.1 mw_X9_thrown.2.1 mw_X9_thrown.2.2.1 mw_X9_thrown.2.2.2 ⟨rfl, by decide, by decide, by decide +kernel⟩ rfl rfl ⟨by decide, by decide⟩ rfl rfl (Nat.le_of_ble_eq_true rfl) (by show _ ≤ 601024; omega) (by show _ ≤ 7293034; omega) dL_law_793 ?_
  refine v_iload hC 1 dL_law_796 rfl ?_
  refine v_icmp_eq (tgt := 803) hC dL_law_798 (by decide) (fun _ => ?_) (fun h => absurd h9 h)
  refine v_iload hC 1 dL_law_803 rfl ?_
  refine v_if_ne (tgt := 820) hC dL_law_805 (by decide) (fun _ => ?_) (fun hv0 => ?_)
  · refine v_goto (tgt := 3558) hC dL_law_820 (by decide) ?_
    refine v_sub (lv1 := [(0, .ref b), (1, .ref (zad Z 0)), (2, .ref (zad Z 9)), (3, .ref (zad Z 10)), (4, .int i)]) [2, 3, 4, 5, 6] rfl ?_
    refine v_widen (k1 := k + 6) (by omega) ?_
    exact kk M2 hPM
  · skip
    refine v_aload_n hC 5 dL_law_808 rfl rfl ?_
    refine v_iconst hC (v := 0) dL_law_809 (by decide) ?_
    refine v_lald hC dL_law_810 ?_
    refine v_iload hC 0 dL_law_811 rfl ?_
    refine v_i2l hC dL_law_813 ?_
    refine v_lcmp hC dL_law_814 ?_
    refine v_if_eq (tgt := 820) hC dL_law_815 (by decide) (fun _ => ?_) (fun h => absurd (lg_cmp_self (by rw [hout hv0])) h)
    refine v_goto (tgt := 3558) hC dL_law_820 (by decide) ?_
    refine v_sub (lv1 := [(0, .ref b), (1, .ref (zad Z 0)), (2, .ref (zad Z 9)), (3, .ref (zad Z 10)), (4, .int i)]) [2, 3, 4, 5, 6] rfl ?_
    refine v_widen (k1 := k + 6) (by omega) ?_
    exact kk M2 hPM
set_option maxRecDepth 20000 in
set_option maxHeartbeats 4000000 in
theorem lawc_8 {p : Program} {l : Launch} {e : Env} {s : State} {m : MethodId} {args : Array Value} {below : List Frame} {meth : Method} {c : Code} {Z : gZ} {Q : State → Prop} {k : Nat} {M : gM} {b L : Nat} {xs : Nat → Int32} {i : Int32} {PM : gM → Prop} (hfl : l.stackTraces = false) (hC : gD p s m args c cL_law 7 RL Z) (hNc : gNc s) (hX : va_X b L xs s s.heap) (hbl : b < s.heap.size) (hbA : ¬ zA Z b) (h1 : vp_in (i + 1) L) (h2 : vp_in (i + 2) L) (hk1 : k + 6 ≤ 601024) (hk2 : 6 * (k + 6) ≤ 7293034) (hAg : AgI (f_L_serve M (xs (i + 1).toNatClampNeg) (xs (i + 2).toNatClampNeg)) (fun M1 => f_X9_serve M1 (xs (i + 1).toNatClampNeg) (xs (i + 2).toNatClampNeg)) PM) (kk : ∀ M2, PM M2 → gV p l e room_1 s m args below meth c 7 Z Q (k + 6) M2 3558 [(0, .ref b), (1, .ref (zad Z 0)), (2, .ref (zad Z 9)), (3, .ref (zad Z 10)), (4, .int i)] []) : gV p l e room_1 s m args below meth c 7 Z Q k M 823 [(0, .ref b), (1, .ref (zad Z 0)), (2, .ref (zad Z 9)), (3, .ref (zad Z 10)), (4, .int i)] [] := by
  obtain ⟨v, M1, b0, M2, hr1, hr2, h9, hout, hPM⟩ := hAg
  dsimp only at hr2
  refine v_aload_n hC 1 dL_law_823 rfl rfl ?_
  refine v_aload_n hC 0 dL_law_824 rfl rfl ?_
  refine v_iload hC 4 dL_law_825 rfl ?_
  refine v_iconst hC (v := 1) dL_law_827 (by decide) ?_
  refine v_iadd hC dL_law_828 ?_
  refine v_sld hC hX hbl hbA h1 dL_law_829 ?_
  refine v_aload_n hC 0 dL_law_830 rfl rfl ?_
  refine v_iload hC 4 dL_law_831 rfl ?_
  refine v_iconst hC (v := 2) dL_law_833 (by decide) ?_
  refine v_iadd hC dL_law_834 ?_
  refine v_sld hC hX hbl hbA h2 dL_law_835 ?_
  refine v_aload_n hC 3 dL_law_836 rfl rfl ?_
  refine v_callLE (n := 4) hC hr1 [.ref (zad Z 0), .int (xs (i + 1).toNatClampNeg), .int (xs (i + 2).toNatClampNeg), .ref (zad Z 10)] hNc (fun hne => c_L_serve hfl Z M (xs (i + 1).toNatClampNeg) (xs (i + 2).toNatClampNeg) hne) ll_213 mw_L_serve.1 mw_L_serve.2.1 mw_L_serve.2.2 ⟨by decide, by decide, by decide +kernel⟩ rfl rfl ⟨by decide, by decide⟩ rfl rfl (Nat.le_of_ble_eq_true rfl) (by show _ ≤ 601024; omega) (by show _ ≤ 7293034; omega) dL_law_837 ?_
  refine v_istore hC (lv1 := [(5, .int v), (0, .ref b), (1, .ref (zad Z 0)), (2, .ref (zad Z 9)), (3, .ref (zad Z 10)), (4, .int i)]) dL_law_840 (by decide) rfl ?_
  refine v_aload_n hC 3 dL_law_842 rfl rfl ?_
  refine v_aload_n hC 1 dL_law_843 rfl rfl ?_
  refine v_iload hC 5 dL_law_844 rfl ?_
  refine v_iconst hC (v := 1) dL_law_846 (by decide) ?_
  refine v_iadd hC dL_law_847 ?_
  refine v_sld hC hX hbl hbA h1 dL_law_848 ?_
  refine v_aload_n hC 1 dL_law_849 rfl rfl ?_
  refine v_iload hC 5 dL_law_850 rfl ?_
  refine v_iconst hC (v := 2) dL_law_852 (by decide) ?_
  refine v_iadd hC dL_law_853 ?_
  refine v_sld hC hX hbl hbA h2 dL_law_854 ?_
  refine v_callEi (n := 2) hC hr2 [.int (xs (i + 1).toNatClampNeg), .int (xs (i + 2).toNatClampNeg)] 9 9 (by decide) rfl rfl (fun hne => c_X9_serve hfl Z M1 (xs (i + 1).toNatClampNeg) (xs (i + 2).toNatClampNeg) hne) ll_215 mw_X9_serve.1 mw_X9_serve.2.1 mw_X9_serve.2.2.1 mw_X9_serve.2.2.2 ⟨rfl, by decide, by decide, by decide +kernel⟩ rfl rfl ⟨by decide, by decide⟩ rfl rfl (Nat.le_of_ble_eq_true rfl) (by show _ ≤ 601024; omega) (by show _ ≤ 7293034; omega) dL_law_855 ?_
  refine v_istore hC (lv1 := [(6, .int b0), (5, .int v), (0, .ref b), (1, .ref (zad Z 0)), (2, .ref (zad Z 9)), (3, .ref (zad Z 10)), (4, .int i)]) dL_law_858 (by decide) rfl ?_
  refine v_aload_n hC 4 dL_law_860 rfl rfl ?_
  refine v_callEi (n := 0) hC (rfl : f_X9_thrown M2 = rRet (M2 9 0) M2) [] 9 9 (by decide) rfl rfl (fun hne => c_X9_thrown hfl Z M2  hne) ll_184 mw_X9_thrown.1 mw_X9_thrown.2.1 mw_X9_thrown.2.2.1 mw_X9_thrown.2.2.2 ⟨rfl, by decide, by decide, by decide +kernel⟩ rfl rfl ⟨by decide, by decide⟩ rfl rfl (Nat.le_of_ble_eq_true rfl) (by show _ ≤ 601024; omega) (by show _ ≤ 7293034; omega) dL_law_861 ?_
  refine v_iload hC 1 dL_law_864 rfl ?_
  refine v_icmp_eq (tgt := 871) hC dL_law_866 (by decide) (fun _ => ?_) (fun h => absurd h9 h)
  refine v_iload hC 1 dL_law_871 rfl ?_
  refine v_if_ne (tgt := 888) hC dL_law_873 (by decide) (fun _ => ?_) (fun hv0 => ?_)
  · refine v_goto (tgt := 3558) hC dL_law_888 (by decide) ?_
    refine v_sub (lv1 := [(0, .ref b), (1, .ref (zad Z 0)), (2, .ref (zad Z 9)), (3, .ref (zad Z 10)), (4, .int i)]) [2, 3, 4, 5, 6] rfl ?_
    refine v_widen (k1 := k + 6) (by omega) ?_
    exact kk M2 hPM
  · skip
    refine v_aload_n hC 5 dL_law_876 rfl rfl ?_
    refine v_iconst hC (v := 0) dL_law_877 (by decide) ?_
    refine v_lald hC dL_law_878 ?_
    refine v_iload hC 0 dL_law_879 rfl ?_
    refine v_i2l hC dL_law_881 ?_
    refine v_lcmp hC dL_law_882 ?_
    refine v_if_eq (tgt := 888) hC dL_law_883 (by decide) (fun _ => ?_) (fun h => absurd (lg_cmp_self (by rw [hout hv0])) h)
    refine v_goto (tgt := 3558) hC dL_law_888 (by decide) ?_
    refine v_sub (lv1 := [(0, .ref b), (1, .ref (zad Z 0)), (2, .ref (zad Z 9)), (3, .ref (zad Z 10)), (4, .int i)]) [2, 3, 4, 5, 6] rfl ?_
    refine v_widen (k1 := k + 6) (by omega) ?_
    exact kk M2 hPM
set_option maxRecDepth 20000 in
set_option maxHeartbeats 4000000 in
theorem lawc_9 {p : Program} {l : Launch} {e : Env} {s : State} {m : MethodId} {args : Array Value} {below : List Frame} {meth : Method} {c : Code} {Z : gZ} {Q : State → Prop} {k : Nat} {M : gM} {b L : Nat} {xs : Nat → Int32} {i : Int32} {PM : gM → Prop} (hfl : l.stackTraces = false) (hC : gD p s m args c cL_law 7 RL Z) (hNc : gNc s) (hX : va_X b L xs s s.heap) (hbl : b < s.heap.size) (hbA : ¬ zA Z b) (h1 : vp_in (i + 1) L) (hk1 : k + 6 ≤ 601024) (hk2 : 6 * (k + 6) ≤ 7293034) (hAg : AgI (f_L_answer M (xs (i + 1).toNatClampNeg)) (fun M1 => f_X9_answer M1 (xs (i + 1).toNatClampNeg)) PM) (kk : ∀ M2, PM M2 → gV p l e room_1 s m args below meth c 7 Z Q (k + 6) M2 3558 [(0, .ref b), (1, .ref (zad Z 0)), (2, .ref (zad Z 9)), (3, .ref (zad Z 10)), (4, .int i)] []) : gV p l e room_1 s m args below meth c 7 Z Q k M 891 [(0, .ref b), (1, .ref (zad Z 0)), (2, .ref (zad Z 9)), (3, .ref (zad Z 10)), (4, .int i)] [] := by
  obtain ⟨v, M1, b0, M2, hr1, hr2, h9, hout, hPM⟩ := hAg
  dsimp only at hr2
  refine v_aload_n hC 1 dL_law_891 rfl rfl ?_
  refine v_aload_n hC 0 dL_law_892 rfl rfl ?_
  refine v_iload hC 4 dL_law_893 rfl ?_
  refine v_iconst hC (v := 1) dL_law_895 (by decide) ?_
  refine v_iadd hC dL_law_896 ?_
  refine v_sld hC hX hbl hbA h1 dL_law_897 ?_
  refine v_aload_n hC 3 dL_law_898 rfl rfl ?_
  refine v_callLE (n := 3) hC hr1 [.ref (zad Z 0), .int (xs (i + 1).toNatClampNeg), .ref (zad Z 10)] hNc (fun hne => c_L_answer hfl Z M (xs (i + 1).toNatClampNeg) hne) ll_216 mw_L_answer.1 mw_L_answer.2.1 mw_L_answer.2.2 ⟨by decide, by decide, by decide +kernel⟩ rfl rfl ⟨by decide, by decide⟩ rfl rfl (Nat.le_of_ble_eq_true rfl) (by show _ ≤ 601024; omega) (by show _ ≤ 7293034; omega) dL_law_899 ?_
  refine v_istore hC (lv1 := [(5, .int v), (0, .ref b), (1, .ref (zad Z 0)), (2, .ref (zad Z 9)), (3, .ref (zad Z 10)), (4, .int i)]) dL_law_902 (by decide) rfl ?_
  refine v_aload_n hC 3 dL_law_904 rfl rfl ?_
  refine v_aload_n hC 1 dL_law_905 rfl rfl ?_
  refine v_iload hC 5 dL_law_906 rfl ?_
  refine v_iconst hC (v := 1) dL_law_908 (by decide) ?_
  refine v_iadd hC dL_law_909 ?_
  refine v_sld hC hX hbl hbA h1 dL_law_910 ?_
  refine v_callEi (n := 1) hC hr2 [.int (xs (i + 1).toNatClampNeg)] 9 9 (by decide) rfl rfl (fun hne => c_X9_answer hfl Z M1 (xs (i + 1).toNatClampNeg) hne) ll_218 mw_X9_answer.1 mw_X9_answer.2.1 mw_X9_answer.2.2.1 mw_X9_answer.2.2.2 ⟨rfl, by decide, by decide, by decide +kernel⟩ rfl rfl ⟨by decide, by decide⟩ rfl rfl (Nat.le_of_ble_eq_true rfl) (by show _ ≤ 601024; omega) (by show _ ≤ 7293034; omega) dL_law_911 ?_
  refine v_istore hC (lv1 := [(6, .int b0), (5, .int v), (0, .ref b), (1, .ref (zad Z 0)), (2, .ref (zad Z 9)), (3, .ref (zad Z 10)), (4, .int i)]) dL_law_914 (by decide) rfl ?_
  refine v_aload_n hC 4 dL_law_916 rfl rfl ?_
  refine v_callEi (n := 0) hC (rfl : f_X9_thrown M2 = rRet (M2 9 0) M2) [] 9 9 (by decide) rfl rfl (fun hne => c_X9_thrown hfl Z M2  hne) ll_184 mw_X9_thrown.1 mw_X9_thrown.2.1 mw_X9_thrown.2.2.1 mw_X9_thrown.2.2.2 ⟨rfl, by decide, by decide, by decide +kernel⟩ rfl rfl ⟨by decide, by decide⟩ rfl rfl (Nat.le_of_ble_eq_true rfl) (by show _ ≤ 601024; omega) (by show _ ≤ 7293034; omega) dL_law_917 ?_
  refine v_iload hC 1 dL_law_920 rfl ?_
  refine v_icmp_eq (tgt := 927) hC dL_law_922 (by decide) (fun _ => ?_) (fun h => absurd h9 h)
  refine v_iload hC 1 dL_law_927 rfl ?_
  refine v_if_ne (tgt := 944) hC dL_law_929 (by decide) (fun _ => ?_) (fun hv0 => ?_)
  · refine v_goto (tgt := 3558) hC dL_law_944 (by decide) ?_
    refine v_sub (lv1 := [(0, .ref b), (1, .ref (zad Z 0)), (2, .ref (zad Z 9)), (3, .ref (zad Z 10)), (4, .int i)]) [2, 3, 4, 5, 6] rfl ?_
    refine v_widen (k1 := k + 6) (by omega) ?_
    exact kk M2 hPM
  · skip
    refine v_aload_n hC 5 dL_law_932 rfl rfl ?_
    refine v_iconst hC (v := 0) dL_law_933 (by decide) ?_
    refine v_lald hC dL_law_934 ?_
    refine v_iload hC 0 dL_law_935 rfl ?_
    refine v_i2l hC dL_law_937 ?_
    refine v_lcmp hC dL_law_938 ?_
    refine v_if_eq (tgt := 944) hC dL_law_939 (by decide) (fun _ => ?_) (fun h => absurd (lg_cmp_self (by rw [hout hv0])) h)
    refine v_goto (tgt := 3558) hC dL_law_944 (by decide) ?_
    refine v_sub (lv1 := [(0, .ref b), (1, .ref (zad Z 0)), (2, .ref (zad Z 9)), (3, .ref (zad Z 10)), (4, .int i)]) [2, 3, 4, 5, 6] rfl ?_
    refine v_widen (k1 := k + 6) (by omega) ?_
    exact kk M2 hPM
set_option maxRecDepth 20000 in
set_option maxHeartbeats 4000000 in
theorem lawc_10 {p : Program} {l : Launch} {e : Env} {s : State} {m : MethodId} {args : Array Value} {below : List Frame} {meth : Method} {c : Code} {Z : gZ} {Q : State → Prop} {k : Nat} {M : gM} {b L : Nat} {xs : Nat → Int32} {i : Int32} {PM : gM → Prop} (hfl : l.stackTraces = false) (hC : gD p s m args c cL_law 7 RL Z) (hNc : gNc s) (hX : va_X b L xs s s.heap) (hbl : b < s.heap.size) (hbA : ¬ zA Z b) (h1 : vp_in (i + 1) L) (hk1 : k + 6 ≤ 601024) (hk2 : 6 * (k + 6) ≤ 7293034) (hAg : AgI (f_L_motion M (xs (i + 1).toNatClampNeg)) (fun M1 => f_X9_motion M1 (xs (i + 1).toNatClampNeg)) PM) (kk : ∀ M2, PM M2 → gV p l e room_1 s m args below meth c 7 Z Q (k + 6) M2 3558 [(0, .ref b), (1, .ref (zad Z 0)), (2, .ref (zad Z 9)), (3, .ref (zad Z 10)), (4, .int i)] []) : gV p l e room_1 s m args below meth c 7 Z Q k M 947 [(0, .ref b), (1, .ref (zad Z 0)), (2, .ref (zad Z 9)), (3, .ref (zad Z 10)), (4, .int i)] [] := by
  obtain ⟨v, M1, b0, M2, hr1, hr2, h9, hout, hPM⟩ := hAg
  dsimp only at hr2
  refine v_aload_n hC 1 dL_law_947 rfl rfl ?_
  refine v_aload_n hC 0 dL_law_948 rfl rfl ?_
  refine v_iload hC 4 dL_law_949 rfl ?_
  refine v_iconst hC (v := 1) dL_law_951 (by decide) ?_
  refine v_iadd hC dL_law_952 ?_
  refine v_sld hC hX hbl hbA h1 dL_law_953 ?_
  refine v_aload_n hC 3 dL_law_954 rfl rfl ?_
  refine v_callLE (n := 3) hC hr1 [.ref (zad Z 0), .int (xs (i + 1).toNatClampNeg), .ref (zad Z 10)] hNc (fun hne => c_L_motion hfl Z M (xs (i + 1).toNatClampNeg) hne) ll_219 mw_L_motion.1 mw_L_motion.2.1 mw_L_motion.2.2 ⟨by decide, by decide, by decide +kernel⟩ rfl rfl ⟨by decide, by decide⟩ rfl rfl (Nat.le_of_ble_eq_true rfl) (by show _ ≤ 601024; omega) (by show _ ≤ 7293034; omega) dL_law_955 ?_
  refine v_istore hC (lv1 := [(5, .int v), (0, .ref b), (1, .ref (zad Z 0)), (2, .ref (zad Z 9)), (3, .ref (zad Z 10)), (4, .int i)]) dL_law_958 (by decide) rfl ?_
  refine v_aload_n hC 3 dL_law_960 rfl rfl ?_
  refine v_aload_n hC 1 dL_law_961 rfl rfl ?_
  refine v_iload hC 5 dL_law_962 rfl ?_
  refine v_iconst hC (v := 1) dL_law_964 (by decide) ?_
  refine v_iadd hC dL_law_965 ?_
  refine v_sld hC hX hbl hbA h1 dL_law_966 ?_
  refine v_callEi (n := 1) hC hr2 [.int (xs (i + 1).toNatClampNeg)] 9 9 (by decide) rfl rfl (fun hne => c_X9_motion hfl Z M1 (xs (i + 1).toNatClampNeg) hne) ll_221 mw_X9_motion.1 mw_X9_motion.2.1 mw_X9_motion.2.2.1 mw_X9_motion.2.2.2 ⟨rfl, by decide, by decide, by decide +kernel⟩ rfl rfl ⟨by decide, by decide⟩ rfl rfl (Nat.le_of_ble_eq_true rfl) (by show _ ≤ 601024; omega) (by show _ ≤ 7293034; omega) dL_law_967 ?_
  refine v_istore hC (lv1 := [(6, .int b0), (5, .int v), (0, .ref b), (1, .ref (zad Z 0)), (2, .ref (zad Z 9)), (3, .ref (zad Z 10)), (4, .int i)]) dL_law_970 (by decide) rfl ?_
  refine v_aload_n hC 4 dL_law_972 rfl rfl ?_
  refine v_callEi (n := 0) hC (rfl : f_X9_thrown M2 = rRet (M2 9 0) M2) [] 9 9 (by decide) rfl rfl (fun hne => c_X9_thrown hfl Z M2  hne) ll_184 mw_X9_thrown.1 mw_X9_thrown.2.1 mw_X9_thrown.2.2.1 mw_X9_thrown.2.2.2 ⟨rfl, by decide, by decide, by decide +kernel⟩ rfl rfl ⟨by decide, by decide⟩ rfl rfl (Nat.le_of_ble_eq_true rfl) (by show _ ≤ 601024; omega) (by show _ ≤ 7293034; omega) dL_law_973 ?_
  refine v_iload hC 1 dL_law_976 rfl ?_
  refine v_icmp_eq (tgt := 983) hC dL_law_978 (by decide) (fun _ => ?_) (fun h => absurd h9 h)
  refine v_iload hC 1 dL_law_983 rfl ?_
  refine v_if_ne (tgt := 1000) hC dL_law_985 (by decide) (fun _ => ?_) (fun hv0 => ?_)
  · refine v_goto (tgt := 3558) hC dL_law_1000 (by decide) ?_
    refine v_sub (lv1 := [(0, .ref b), (1, .ref (zad Z 0)), (2, .ref (zad Z 9)), (3, .ref (zad Z 10)), (4, .int i)]) [2, 3, 4, 5, 6] rfl ?_
    refine v_widen (k1 := k + 6) (by omega) ?_
    exact kk M2 hPM
  · skip
    refine v_aload_n hC 5 dL_law_988 rfl rfl ?_
    refine v_iconst hC (v := 0) dL_law_989 (by decide) ?_
    refine v_lald hC dL_law_990 ?_
    refine v_iload hC 0 dL_law_991 rfl ?_
    refine v_i2l hC dL_law_993 ?_
    refine v_lcmp hC dL_law_994 ?_
    refine v_if_eq (tgt := 1000) hC dL_law_995 (by decide) (fun _ => ?_) (fun h => absurd (lg_cmp_self (by rw [hout hv0])) h)
    refine v_goto (tgt := 3558) hC dL_law_1000 (by decide) ?_
    refine v_sub (lv1 := [(0, .ref b), (1, .ref (zad Z 0)), (2, .ref (zad Z 9)), (3, .ref (zad Z 10)), (4, .int i)]) [2, 3, 4, 5, 6] rfl ?_
    refine v_widen (k1 := k + 6) (by omega) ?_
    exact kk M2 hPM
set_option maxRecDepth 20000 in
set_option maxHeartbeats 4000000 in
theorem lawc_11 {p : Program} {l : Launch} {e : Env} {s : State} {m : MethodId} {args : Array Value} {below : List Frame} {meth : Method} {c : Code} {Z : gZ} {Q : State → Prop} {k : Nat} {M : gM} {b L : Nat} {xs : Nat → Int32} {i : Int32} {PM : gM → Prop} (hfl : l.stackTraces = false) (hC : gD p s m args c cL_law 7 RL Z) (hNc : gNc s) (hX : va_X b L xs s s.heap) (hbl : b < s.heap.size) (hbA : ¬ zA Z b) (h1 : vp_in (i + 1) L) (hk1 : k + 6 ≤ 601024) (hk2 : 6 * (k + 6) ≤ 7293034) (hAg : AgI (f_L_respond M (xs (i + 1).toNatClampNeg)) (fun M1 => f_X9_respond M1 (xs (i + 1).toNatClampNeg)) PM) (kk : ∀ M2, PM M2 → gV p l e room_1 s m args below meth c 7 Z Q (k + 6) M2 3558 [(0, .ref b), (1, .ref (zad Z 0)), (2, .ref (zad Z 9)), (3, .ref (zad Z 10)), (4, .int i)] []) : gV p l e room_1 s m args below meth c 7 Z Q k M 1003 [(0, .ref b), (1, .ref (zad Z 0)), (2, .ref (zad Z 9)), (3, .ref (zad Z 10)), (4, .int i)] [] := by
  obtain ⟨v, M1, b0, M2, hr1, hr2, h9, hout, hPM⟩ := hAg
  dsimp only at hr2
  refine v_aload_n hC 1 dL_law_1003 rfl rfl ?_
  refine v_aload_n hC 0 dL_law_1004 rfl rfl ?_
  refine v_iload hC 4 dL_law_1005 rfl ?_
  refine v_iconst hC (v := 1) dL_law_1007 (by decide) ?_
  refine v_iadd hC dL_law_1008 ?_
  refine v_sld hC hX hbl hbA h1 dL_law_1009 ?_
  refine v_aload_n hC 3 dL_law_1010 rfl rfl ?_
  refine v_callLE (n := 3) hC hr1 [.ref (zad Z 0), .int (xs (i + 1).toNatClampNeg), .ref (zad Z 10)] hNc (fun hne => c_L_respond hfl Z M (xs (i + 1).toNatClampNeg) hne) ll_222 mw_L_respond.1 mw_L_respond.2.1 mw_L_respond.2.2 ⟨by decide, by decide, by decide +kernel⟩ rfl rfl ⟨by decide, by decide⟩ rfl rfl (Nat.le_of_ble_eq_true rfl) (by show _ ≤ 601024; omega) (by show _ ≤ 7293034; omega) dL_law_1011 ?_
  refine v_istore hC (lv1 := [(5, .int v), (0, .ref b), (1, .ref (zad Z 0)), (2, .ref (zad Z 9)), (3, .ref (zad Z 10)), (4, .int i)]) dL_law_1014 (by decide) rfl ?_
  refine v_aload_n hC 3 dL_law_1016 rfl rfl ?_
  refine v_aload_n hC 1 dL_law_1017 rfl rfl ?_
  refine v_iload hC 5 dL_law_1018 rfl ?_
  refine v_iconst hC (v := 1) dL_law_1020 (by decide) ?_
  refine v_iadd hC dL_law_1021 ?_
  refine v_sld hC hX hbl hbA h1 dL_law_1022 ?_
  refine v_callEi (n := 1) hC hr2 [.int (xs (i + 1).toNatClampNeg)] 9 9 (by decide) rfl rfl (fun hne => c_X9_respond hfl Z M1 (xs (i + 1).toNatClampNeg) hne) ll_224 mw_X9_respond.1 mw_X9_respond.2.1 mw_X9_respond.2.2.1 mw_X9_respond.2.2.2 ⟨rfl, by decide, by decide, by decide +kernel⟩ rfl rfl ⟨by decide, by decide⟩ rfl rfl (Nat.le_of_ble_eq_true rfl) (by show _ ≤ 601024; omega) (by show _ ≤ 7293034; omega) dL_law_1023 ?_
  refine v_istore hC (lv1 := [(6, .int b0), (5, .int v), (0, .ref b), (1, .ref (zad Z 0)), (2, .ref (zad Z 9)), (3, .ref (zad Z 10)), (4, .int i)]) dL_law_1026 (by decide) rfl ?_
  refine v_aload_n hC 4 dL_law_1028 rfl rfl ?_
  refine v_callEi (n := 0) hC (rfl : f_X9_thrown M2 = rRet (M2 9 0) M2) [] 9 9 (by decide) rfl rfl (fun hne => c_X9_thrown hfl Z M2  hne) ll_184 mw_X9_thrown.1 mw_X9_thrown.2.1 mw_X9_thrown.2.2.1 mw_X9_thrown.2.2.2 ⟨rfl, by decide, by decide, by decide +kernel⟩ rfl rfl ⟨by decide, by decide⟩ rfl rfl (Nat.le_of_ble_eq_true rfl) (by show _ ≤ 601024; omega) (by show _ ≤ 7293034; omega) dL_law_1029 ?_
  refine v_iload hC 1 dL_law_1032 rfl ?_
  refine v_icmp_eq (tgt := 1039) hC dL_law_1034 (by decide) (fun _ => ?_) (fun h => absurd h9 h)
  refine v_iload hC 1 dL_law_1039 rfl ?_
  refine v_if_ne (tgt := 1056) hC dL_law_1041 (by decide) (fun _ => ?_) (fun hv0 => ?_)
  · refine v_goto (tgt := 3558) hC dL_law_1056 (by decide) ?_
    refine v_sub (lv1 := [(0, .ref b), (1, .ref (zad Z 0)), (2, .ref (zad Z 9)), (3, .ref (zad Z 10)), (4, .int i)]) [2, 3, 4, 5, 6] rfl ?_
    refine v_widen (k1 := k + 6) (by omega) ?_
    exact kk M2 hPM
  · skip
    refine v_aload_n hC 5 dL_law_1044 rfl rfl ?_
    refine v_iconst hC (v := 0) dL_law_1045 (by decide) ?_
    refine v_lald hC dL_law_1046 ?_
    refine v_iload hC 0 dL_law_1047 rfl ?_
    refine v_i2l hC dL_law_1049 ?_
    refine v_lcmp hC dL_law_1050 ?_
    refine v_if_eq (tgt := 1056) hC dL_law_1051 (by decide) (fun _ => ?_) (fun h => absurd (lg_cmp_self (by rw [hout hv0])) h)
    refine v_goto (tgt := 3558) hC dL_law_1056 (by decide) ?_
    refine v_sub (lv1 := [(0, .ref b), (1, .ref (zad Z 0)), (2, .ref (zad Z 9)), (3, .ref (zad Z 10)), (4, .int i)]) [2, 3, 4, 5, 6] rfl ?_
    refine v_widen (k1 := k + 6) (by omega) ?_
    exact kk M2 hPM
set_option maxRecDepth 20000 in
set_option maxHeartbeats 4000000 in
theorem lawc_12 {p : Program} {l : Launch} {e : Env} {s : State} {m : MethodId} {args : Array Value} {below : List Frame} {meth : Method} {c : Code} {Z : gZ} {Q : State → Prop} {k : Nat} {M : gM} {b L : Nat} {xs : Nat → Int32} {i : Int32} {PM : gM → Prop} (hfl : l.stackTraces = false) (hC : gD p s m args c cL_law 7 RL Z) (hNc : gNc s) (hX : va_X b L xs s s.heap) (hbl : b < s.heap.size) (hbA : ¬ zA Z b) (h1 : vp_in (i + 1) L) (h2 : vp_in (i + 2) L) (hk1 : k + 6 ≤ 601024) (hk2 : 6 * (k + 6) ≤ 7293034) (hAg : AgI (f_L_ruling M (xs (i + 1).toNatClampNeg) (xs (i + 2).toNatClampNeg)) (fun M1 => f_X9_ruling M1 (xs (i + 1).toNatClampNeg) (xs (i + 2).toNatClampNeg)) PM) (kk : ∀ M2, PM M2 → gV p l e room_1 s m args below meth c 7 Z Q (k + 6) M2 3558 [(0, .ref b), (1, .ref (zad Z 0)), (2, .ref (zad Z 9)), (3, .ref (zad Z 10)), (4, .int i)] []) : gV p l e room_1 s m args below meth c 7 Z Q k M 1059 [(0, .ref b), (1, .ref (zad Z 0)), (2, .ref (zad Z 9)), (3, .ref (zad Z 10)), (4, .int i)] [] := by
  obtain ⟨v, M1, b0, M2, hr1, hr2, h9, hout, hPM⟩ := hAg
  dsimp only at hr2
  refine v_aload_n hC 1 dL_law_1059 rfl rfl ?_
  refine v_aload_n hC 0 dL_law_1060 rfl rfl ?_
  refine v_iload hC 4 dL_law_1061 rfl ?_
  refine v_iconst hC (v := 1) dL_law_1063 (by decide) ?_
  refine v_iadd hC dL_law_1064 ?_
  refine v_sld hC hX hbl hbA h1 dL_law_1065 ?_
  refine v_aload_n hC 0 dL_law_1066 rfl rfl ?_
  refine v_iload hC 4 dL_law_1067 rfl ?_
  refine v_iconst hC (v := 2) dL_law_1069 (by decide) ?_
  refine v_iadd hC dL_law_1070 ?_
  refine v_sld hC hX hbl hbA h2 dL_law_1071 ?_
  refine v_aload_n hC 3 dL_law_1072 rfl rfl ?_
  refine v_callLE (n := 4) hC hr1 [.ref (zad Z 0), .int (xs (i + 1).toNatClampNeg), .int (xs (i + 2).toNatClampNeg), .ref (zad Z 10)] hNc (fun hne => c_L_ruling hfl Z M (xs (i + 1).toNatClampNeg) (xs (i + 2).toNatClampNeg) hne) ll_225 mw_L_ruling.1 mw_L_ruling.2.1 mw_L_ruling.2.2 ⟨by decide, by decide, by decide +kernel⟩ rfl rfl ⟨by decide, by decide⟩ rfl rfl (Nat.le_of_ble_eq_true rfl) (by show _ ≤ 601024; omega) (by show _ ≤ 7293034; omega) dL_law_1073 ?_
  refine v_istore hC (lv1 := [(5, .int v), (0, .ref b), (1, .ref (zad Z 0)), (2, .ref (zad Z 9)), (3, .ref (zad Z 10)), (4, .int i)]) dL_law_1076 (by decide) rfl ?_
  refine v_aload_n hC 3 dL_law_1078 rfl rfl ?_
  refine v_aload_n hC 1 dL_law_1079 rfl rfl ?_
  refine v_iload hC 5 dL_law_1080 rfl ?_
  refine v_iconst hC (v := 1) dL_law_1082 (by decide) ?_
  refine v_iadd hC dL_law_1083 ?_
  refine v_sld hC hX hbl hbA h1 dL_law_1084 ?_
  refine v_aload_n hC 1 dL_law_1085 rfl rfl ?_
  refine v_iload hC 5 dL_law_1086 rfl ?_
  refine v_iconst hC (v := 2) dL_law_1088 (by decide) ?_
  refine v_iadd hC dL_law_1089 ?_
  refine v_sld hC hX hbl hbA h2 dL_law_1090 ?_
  refine v_callEi (n := 2) hC hr2 [.int (xs (i + 1).toNatClampNeg), .int (xs (i + 2).toNatClampNeg)] 9 9 (by decide) rfl rfl (fun hne => c_X9_ruling hfl Z M1 (xs (i + 1).toNatClampNeg) (xs (i + 2).toNatClampNeg) hne) ll_227 mw_X9_ruling.1 mw_X9_ruling.2.1 mw_X9_ruling.2.2.1 mw_X9_ruling.2.2.2 ⟨rfl, by decide, by decide, by decide +kernel⟩ rfl rfl ⟨by decide, by decide⟩ rfl rfl (Nat.le_of_ble_eq_true rfl) (by show _ ≤ 601024; omega) (by show _ ≤ 7293034; omega) dL_law_1091 ?_
  refine v_istore hC (lv1 := [(6, .int b0), (5, .int v), (0, .ref b), (1, .ref (zad Z 0)), (2, .ref (zad Z 9)), (3, .ref (zad Z 10)), (4, .int i)]) dL_law_1094 (by decide) rfl ?_
  refine v_aload_n hC 4 dL_law_1096 rfl rfl ?_
  refine v_callEi (n := 0) hC (rfl : f_X9_thrown M2 = rRet (M2 9 0) M2) [] 9 9 (by decide) rfl rfl (fun hne => c_X9_thrown hfl Z M2  hne) ll_184 mw_X9_thrown.1 mw_X9_thrown.2.1 mw_X9_thrown.2.2.1 mw_X9_thrown.2.2.2 ⟨rfl, by decide, by decide, by decide +kernel⟩ rfl rfl ⟨by decide, by decide⟩ rfl rfl (Nat.le_of_ble_eq_true rfl) (by show _ ≤ 601024; omega) (by show _ ≤ 7293034; omega) dL_law_1097 ?_
  refine v_iload hC 1 dL_law_1100 rfl ?_
  refine v_icmp_eq (tgt := 1107) hC dL_law_1102 (by decide) (fun _ => ?_) (fun h => absurd h9 h)
  refine v_iload hC 1 dL_law_1107 rfl ?_
  refine v_if_ne (tgt := 1124) hC dL_law_1109 (by decide) (fun _ => ?_) (fun hv0 => ?_)
  · refine v_goto (tgt := 3558) hC dL_law_1124 (by decide) ?_
    refine v_sub (lv1 := [(0, .ref b), (1, .ref (zad Z 0)), (2, .ref (zad Z 9)), (3, .ref (zad Z 10)), (4, .int i)]) [2, 3, 4, 5, 6] rfl ?_
    refine v_widen (k1 := k + 6) (by omega) ?_
    exact kk M2 hPM
  · skip
    refine v_aload_n hC 5 dL_law_1112 rfl rfl ?_
    refine v_iconst hC (v := 0) dL_law_1113 (by decide) ?_
    refine v_lald hC dL_law_1114 ?_
    refine v_iload hC 0 dL_law_1115 rfl ?_
    refine v_i2l hC dL_law_1117 ?_
    refine v_lcmp hC dL_law_1118 ?_
    refine v_if_eq (tgt := 1124) hC dL_law_1119 (by decide) (fun _ => ?_) (fun h => absurd (lg_cmp_self (by rw [hout hv0])) h)
    refine v_goto (tgt := 3558) hC dL_law_1124 (by decide) ?_
    refine v_sub (lv1 := [(0, .ref b), (1, .ref (zad Z 0)), (2, .ref (zad Z 9)), (3, .ref (zad Z 10)), (4, .int i)]) [2, 3, 4, 5, 6] rfl ?_
    refine v_widen (k1 := k + 6) (by omega) ?_
    exact kk M2 hPM
set_option maxRecDepth 20000 in
set_option maxHeartbeats 4000000 in
theorem lawc_13 {p : Program} {l : Launch} {e : Env} {s : State} {m : MethodId} {args : Array Value} {below : List Frame} {meth : Method} {c : Code} {Z : gZ} {Q : State → Prop} {k : Nat} {M : gM} {b L : Nat} {xs : Nat → Int32} {i : Int32} {PM : gM → Prop} (hfl : l.stackTraces = false) (hC : gD p s m args c cL_law 7 RL Z) (hNc : gNc s) (hX : va_X b L xs s s.heap) (hbl : b < s.heap.size) (hbA : ¬ zA Z b) (h1 : vp_in (i + 1) L) (h2 : vp_in (i + 2) L) (hk1 : k + 6 ≤ 601024) (hk2 : 6 * (k + 6) ≤ 7293034) (hAg : AgI (f_L_judge M (xs (i + 1).toNatClampNeg) (xs (i + 2).toNatClampNeg)) (fun M1 => f_X9_judge M1 (xs (i + 1).toNatClampNeg) (xs (i + 2).toNatClampNeg)) PM) (kk : ∀ M2, PM M2 → gV p l e room_1 s m args below meth c 7 Z Q (k + 6) M2 3558 [(0, .ref b), (1, .ref (zad Z 0)), (2, .ref (zad Z 9)), (3, .ref (zad Z 10)), (4, .int i)] []) : gV p l e room_1 s m args below meth c 7 Z Q k M 1127 [(0, .ref b), (1, .ref (zad Z 0)), (2, .ref (zad Z 9)), (3, .ref (zad Z 10)), (4, .int i)] [] := by
  obtain ⟨v, M1, b0, M2, hr1, hr2, h9, hout, hPM⟩ := hAg
  dsimp only at hr2
  refine v_aload_n hC 1 dL_law_1127 rfl rfl ?_
  refine v_aload_n hC 0 dL_law_1128 rfl rfl ?_
  refine v_iload hC 4 dL_law_1129 rfl ?_
  refine v_iconst hC (v := 1) dL_law_1131 (by decide) ?_
  refine v_iadd hC dL_law_1132 ?_
  refine v_sld hC hX hbl hbA h1 dL_law_1133 ?_
  refine v_aload_n hC 0 dL_law_1134 rfl rfl ?_
  refine v_iload hC 4 dL_law_1135 rfl ?_
  refine v_iconst hC (v := 2) dL_law_1137 (by decide) ?_
  refine v_iadd hC dL_law_1138 ?_
  refine v_sld hC hX hbl hbA h2 dL_law_1139 ?_
  refine v_aload_n hC 3 dL_law_1140 rfl rfl ?_
  refine v_callLE (n := 4) hC hr1 [.ref (zad Z 0), .int (xs (i + 1).toNatClampNeg), .int (xs (i + 2).toNatClampNeg), .ref (zad Z 10)] hNc (fun hne => c_L_judge hfl Z M (xs (i + 1).toNatClampNeg) (xs (i + 2).toNatClampNeg) hne) ll_228 mw_L_judge.1 mw_L_judge.2.1 mw_L_judge.2.2 ⟨by decide, by decide, by decide +kernel⟩ rfl rfl ⟨by decide, by decide⟩ rfl rfl (Nat.le_of_ble_eq_true rfl) (by show _ ≤ 601024; omega) (by show _ ≤ 7293034; omega) dL_law_1141 ?_
  refine v_istore hC (lv1 := [(5, .int v), (0, .ref b), (1, .ref (zad Z 0)), (2, .ref (zad Z 9)), (3, .ref (zad Z 10)), (4, .int i)]) dL_law_1144 (by decide) rfl ?_
  refine v_aload_n hC 3 dL_law_1146 rfl rfl ?_
  refine v_aload_n hC 1 dL_law_1147 rfl rfl ?_
  refine v_iload hC 5 dL_law_1148 rfl ?_
  refine v_iconst hC (v := 1) dL_law_1150 (by decide) ?_
  refine v_iadd hC dL_law_1151 ?_
  refine v_sld hC hX hbl hbA h1 dL_law_1152 ?_
  refine v_aload_n hC 1 dL_law_1153 rfl rfl ?_
  refine v_iload hC 5 dL_law_1154 rfl ?_
  refine v_iconst hC (v := 2) dL_law_1156 (by decide) ?_
  refine v_iadd hC dL_law_1157 ?_
  refine v_sld hC hX hbl hbA h2 dL_law_1158 ?_
  refine v_callEi (n := 2) hC hr2 [.int (xs (i + 1).toNatClampNeg), .int (xs (i + 2).toNatClampNeg)] 9 9 (by decide) rfl rfl (fun hne => c_X9_judge hfl Z M1 (xs (i + 1).toNatClampNeg) (xs (i + 2).toNatClampNeg) hne) ll_230 mw_X9_judge.1 mw_X9_judge.2.1 mw_X9_judge.2.2.1 mw_X9_judge.2.2.2 ⟨rfl, by decide, by decide, by decide +kernel⟩ rfl rfl ⟨by decide, by decide⟩ rfl rfl (Nat.le_of_ble_eq_true rfl) (by show _ ≤ 601024; omega) (by show _ ≤ 7293034; omega) dL_law_1159 ?_
  refine v_istore hC (lv1 := [(6, .int b0), (5, .int v), (0, .ref b), (1, .ref (zad Z 0)), (2, .ref (zad Z 9)), (3, .ref (zad Z 10)), (4, .int i)]) dL_law_1162 (by decide) rfl ?_
  refine v_aload_n hC 4 dL_law_1164 rfl rfl ?_
  refine v_callEi (n := 0) hC (rfl : f_X9_thrown M2 = rRet (M2 9 0) M2) [] 9 9 (by decide) rfl rfl (fun hne => c_X9_thrown hfl Z M2  hne) ll_184 mw_X9_thrown.1 mw_X9_thrown.2.1 mw_X9_thrown.2.2.1 mw_X9_thrown.2.2.2 ⟨rfl, by decide, by decide, by decide +kernel⟩ rfl rfl ⟨by decide, by decide⟩ rfl rfl (Nat.le_of_ble_eq_true rfl) (by show _ ≤ 601024; omega) (by show _ ≤ 7293034; omega) dL_law_1165 ?_
  refine v_iload hC 1 dL_law_1168 rfl ?_
  refine v_icmp_eq (tgt := 1175) hC dL_law_1170 (by decide) (fun _ => ?_) (fun h => absurd h9 h)
  refine v_iload hC 1 dL_law_1175 rfl ?_
  refine v_if_ne (tgt := 1192) hC dL_law_1177 (by decide) (fun _ => ?_) (fun hv0 => ?_)
  · refine v_goto (tgt := 3558) hC dL_law_1192 (by decide) ?_
    refine v_sub (lv1 := [(0, .ref b), (1, .ref (zad Z 0)), (2, .ref (zad Z 9)), (3, .ref (zad Z 10)), (4, .int i)]) [2, 3, 4, 5, 6] rfl ?_
    refine v_widen (k1 := k + 6) (by omega) ?_
    exact kk M2 hPM
  · skip
    refine v_aload_n hC 5 dL_law_1180 rfl rfl ?_
    refine v_iconst hC (v := 0) dL_law_1181 (by decide) ?_
    refine v_lald hC dL_law_1182 ?_
    refine v_iload hC 0 dL_law_1183 rfl ?_
    refine v_i2l hC dL_law_1185 ?_
    refine v_lcmp hC dL_law_1186 ?_
    refine v_if_eq (tgt := 1192) hC dL_law_1187 (by decide) (fun _ => ?_) (fun h => absurd (lg_cmp_self (by rw [hout hv0])) h)
    refine v_goto (tgt := 3558) hC dL_law_1192 (by decide) ?_
    refine v_sub (lv1 := [(0, .ref b), (1, .ref (zad Z 0)), (2, .ref (zad Z 9)), (3, .ref (zad Z 10)), (4, .int i)]) [2, 3, 4, 5, 6] rfl ?_
    refine v_widen (k1 := k + 6) (by omega) ?_
    exact kk M2 hPM
set_option maxRecDepth 20000 in
set_option maxHeartbeats 4000000 in
theorem lawc_14 {p : Program} {l : Launch} {e : Env} {s : State} {m : MethodId} {args : Array Value} {below : List Frame} {meth : Method} {c : Code} {Z : gZ} {Q : State → Prop} {k : Nat} {M : gM} {b L : Nat} {xs : Nat → Int32} {i : Int32} {PM : gM → Prop} (hfl : l.stackTraces = false) (hC : gD p s m args c cL_law 7 RL Z) (hNc : gNc s) (hX : va_X b L xs s s.heap) (hbl : b < s.heap.size) (hbA : ¬ zA Z b) (h1 : vp_in (i + 1) L) (hk1 : k + 6 ≤ 601024) (hk2 : 6 * (k + 6) ≤ 7293034) (hAg : AgI (f_L_vacate M (xs (i + 1).toNatClampNeg)) (fun M1 => f_X9_vacate M1 (xs (i + 1).toNatClampNeg)) PM) (kk : ∀ M2, PM M2 → gV p l e room_1 s m args below meth c 7 Z Q (k + 6) M2 3558 [(0, .ref b), (1, .ref (zad Z 0)), (2, .ref (zad Z 9)), (3, .ref (zad Z 10)), (4, .int i)] []) : gV p l e room_1 s m args below meth c 7 Z Q k M 1195 [(0, .ref b), (1, .ref (zad Z 0)), (2, .ref (zad Z 9)), (3, .ref (zad Z 10)), (4, .int i)] [] := by
  obtain ⟨v, M1, b0, M2, hr1, hr2, h9, hout, hPM⟩ := hAg
  dsimp only at hr2
  refine v_aload_n hC 1 dL_law_1195 rfl rfl ?_
  refine v_aload_n hC 0 dL_law_1196 rfl rfl ?_
  refine v_iload hC 4 dL_law_1197 rfl ?_
  refine v_iconst hC (v := 1) dL_law_1199 (by decide) ?_
  refine v_iadd hC dL_law_1200 ?_
  refine v_sld hC hX hbl hbA h1 dL_law_1201 ?_
  refine v_aload_n hC 3 dL_law_1202 rfl rfl ?_
  refine v_callLE (n := 3) hC hr1 [.ref (zad Z 0), .int (xs (i + 1).toNatClampNeg), .ref (zad Z 10)] hNc (fun hne => c_L_vacate hfl Z M (xs (i + 1).toNatClampNeg) hne) ll_231 mw_L_vacate.1 mw_L_vacate.2.1 mw_L_vacate.2.2 ⟨by decide, by decide, by decide +kernel⟩ rfl rfl ⟨by decide, by decide⟩ rfl rfl (Nat.le_of_ble_eq_true rfl) (by show _ ≤ 601024; omega) (by show _ ≤ 7293034; omega) dL_law_1203 ?_
  refine v_istore hC (lv1 := [(5, .int v), (0, .ref b), (1, .ref (zad Z 0)), (2, .ref (zad Z 9)), (3, .ref (zad Z 10)), (4, .int i)]) dL_law_1206 (by decide) rfl ?_
  refine v_aload_n hC 3 dL_law_1208 rfl rfl ?_
  refine v_aload_n hC 1 dL_law_1209 rfl rfl ?_
  refine v_iload hC 5 dL_law_1210 rfl ?_
  refine v_iconst hC (v := 1) dL_law_1212 (by decide) ?_
  refine v_iadd hC dL_law_1213 ?_
  refine v_sld hC hX hbl hbA h1 dL_law_1214 ?_
  refine v_callEi (n := 1) hC hr2 [.int (xs (i + 1).toNatClampNeg)] 9 9 (by decide) rfl rfl (fun hne => c_X9_vacate hfl Z M1 (xs (i + 1).toNatClampNeg) hne) ll_233 mw_X9_vacate.1 mw_X9_vacate.2.1 mw_X9_vacate.2.2.1 mw_X9_vacate.2.2.2 ⟨rfl, by decide, by decide, by decide +kernel⟩ rfl rfl ⟨by decide, by decide⟩ rfl rfl (Nat.le_of_ble_eq_true rfl) (by show _ ≤ 601024; omega) (by show _ ≤ 7293034; omega) dL_law_1215 ?_
  refine v_istore hC (lv1 := [(6, .int b0), (5, .int v), (0, .ref b), (1, .ref (zad Z 0)), (2, .ref (zad Z 9)), (3, .ref (zad Z 10)), (4, .int i)]) dL_law_1218 (by decide) rfl ?_
  refine v_aload_n hC 4 dL_law_1220 rfl rfl ?_
  refine v_callEi (n := 0) hC (rfl : f_X9_thrown M2 = rRet (M2 9 0) M2) [] 9 9 (by decide) rfl rfl (fun hne => c_X9_thrown hfl Z M2  hne) ll_184 mw_X9_thrown.1 mw_X9_thrown.2.1 mw_X9_thrown.2.2.1 mw_X9_thrown.2.2.2 ⟨rfl, by decide, by decide, by decide +kernel⟩ rfl rfl ⟨by decide, by decide⟩ rfl rfl (Nat.le_of_ble_eq_true rfl) (by show _ ≤ 601024; omega) (by show _ ≤ 7293034; omega) dL_law_1221 ?_
  refine v_iload hC 1 dL_law_1224 rfl ?_
  refine v_icmp_eq (tgt := 1231) hC dL_law_1226 (by decide) (fun _ => ?_) (fun h => absurd h9 h)
  refine v_iload hC 1 dL_law_1231 rfl ?_
  refine v_if_ne (tgt := 1248) hC dL_law_1233 (by decide) (fun _ => ?_) (fun hv0 => ?_)
  · refine v_goto (tgt := 3558) hC dL_law_1248 (by decide) ?_
    refine v_sub (lv1 := [(0, .ref b), (1, .ref (zad Z 0)), (2, .ref (zad Z 9)), (3, .ref (zad Z 10)), (4, .int i)]) [2, 3, 4, 5, 6] rfl ?_
    refine v_widen (k1 := k + 6) (by omega) ?_
    exact kk M2 hPM
  · skip
    refine v_aload_n hC 5 dL_law_1236 rfl rfl ?_
    refine v_iconst hC (v := 0) dL_law_1237 (by decide) ?_
    refine v_lald hC dL_law_1238 ?_
    refine v_iload hC 0 dL_law_1239 rfl ?_
    refine v_i2l hC dL_law_1241 ?_
    refine v_lcmp hC dL_law_1242 ?_
    refine v_if_eq (tgt := 1248) hC dL_law_1243 (by decide) (fun _ => ?_) (fun h => absurd (lg_cmp_self (by rw [hout hv0])) h)
    refine v_goto (tgt := 3558) hC dL_law_1248 (by decide) ?_
    refine v_sub (lv1 := [(0, .ref b), (1, .ref (zad Z 0)), (2, .ref (zad Z 9)), (3, .ref (zad Z 10)), (4, .int i)]) [2, 3, 4, 5, 6] rfl ?_
    refine v_widen (k1 := k + 6) (by omega) ?_
    exact kk M2 hPM
set_option maxRecDepth 20000 in
set_option maxHeartbeats 4000000 in
theorem lawc_15 {p : Program} {l : Launch} {e : Env} {s : State} {m : MethodId} {args : Array Value} {below : List Frame} {meth : Method} {c : Code} {Z : gZ} {Q : State → Prop} {k : Nat} {M : gM} {b L : Nat} {xs : Nat → Int32} {i : Int32} {PM : gM → Prop} (hfl : l.stackTraces = false) (hC : gD p s m args c cL_law 7 RL Z) (hNc : gNc s) (hX : va_X b L xs s s.heap) (hbl : b < s.heap.size) (hbA : ¬ zA Z b) (h1 : vp_in (i + 1) L) (hk1 : k + 6 ≤ 601024) (hk2 : 6 * (k + 6) ≤ 7293034) (hAg : AgI (f_L_appeal M (xs (i + 1).toNatClampNeg)) (fun M1 => f_X9_appeal M1 (xs (i + 1).toNatClampNeg)) PM) (kk : ∀ M2, PM M2 → gV p l e room_1 s m args below meth c 7 Z Q (k + 6) M2 3558 [(0, .ref b), (1, .ref (zad Z 0)), (2, .ref (zad Z 9)), (3, .ref (zad Z 10)), (4, .int i)] []) : gV p l e room_1 s m args below meth c 7 Z Q k M 1251 [(0, .ref b), (1, .ref (zad Z 0)), (2, .ref (zad Z 9)), (3, .ref (zad Z 10)), (4, .int i)] [] := by
  obtain ⟨v, M1, b0, M2, hr1, hr2, h9, hout, hPM⟩ := hAg
  dsimp only at hr2
  refine v_aload_n hC 1 dL_law_1251 rfl rfl ?_
  refine v_aload_n hC 0 dL_law_1252 rfl rfl ?_
  refine v_iload hC 4 dL_law_1253 rfl ?_
  refine v_iconst hC (v := 1) dL_law_1255 (by decide) ?_
  refine v_iadd hC dL_law_1256 ?_
  refine v_sld hC hX hbl hbA h1 dL_law_1257 ?_
  refine v_aload_n hC 3 dL_law_1258 rfl rfl ?_
  refine v_callLE (n := 3) hC hr1 [.ref (zad Z 0), .int (xs (i + 1).toNatClampNeg), .ref (zad Z 10)] hNc (fun hne => c_L_appeal hfl Z M (xs (i + 1).toNatClampNeg) hne) ll_234 mw_L_appeal.1 mw_L_appeal.2.1 mw_L_appeal.2.2 ⟨by decide, by decide, by decide +kernel⟩ rfl rfl ⟨by decide, by decide⟩ rfl rfl (Nat.le_of_ble_eq_true rfl) (by show _ ≤ 601024; omega) (by show _ ≤ 7293034; omega) dL_law_1259 ?_
  refine v_istore hC (lv1 := [(5, .int v), (0, .ref b), (1, .ref (zad Z 0)), (2, .ref (zad Z 9)), (3, .ref (zad Z 10)), (4, .int i)]) dL_law_1262 (by decide) rfl ?_
  refine v_aload_n hC 3 dL_law_1264 rfl rfl ?_
  refine v_aload_n hC 1 dL_law_1265 rfl rfl ?_
  refine v_iload hC 5 dL_law_1266 rfl ?_
  refine v_iconst hC (v := 1) dL_law_1268 (by decide) ?_
  refine v_iadd hC dL_law_1269 ?_
  refine v_sld hC hX hbl hbA h1 dL_law_1270 ?_
  refine v_callEi (n := 1) hC hr2 [.int (xs (i + 1).toNatClampNeg)] 9 9 (by decide) rfl rfl (fun hne => c_X9_appeal hfl Z M1 (xs (i + 1).toNatClampNeg) hne) ll_236 mw_X9_appeal.1 mw_X9_appeal.2.1 mw_X9_appeal.2.2.1 mw_X9_appeal.2.2.2 ⟨rfl, by decide, by decide, by decide +kernel⟩ rfl rfl ⟨by decide, by decide⟩ rfl rfl (Nat.le_of_ble_eq_true rfl) (by show _ ≤ 601024; omega) (by show _ ≤ 7293034; omega) dL_law_1271 ?_
  refine v_istore hC (lv1 := [(6, .int b0), (5, .int v), (0, .ref b), (1, .ref (zad Z 0)), (2, .ref (zad Z 9)), (3, .ref (zad Z 10)), (4, .int i)]) dL_law_1274 (by decide) rfl ?_
  refine v_aload_n hC 4 dL_law_1276 rfl rfl ?_
  refine v_callEi (n := 0) hC (rfl : f_X9_thrown M2 = rRet (M2 9 0) M2) [] 9 9 (by decide) rfl rfl (fun hne => c_X9_thrown hfl Z M2  hne) ll_184 mw_X9_thrown.1 mw_X9_thrown.2.1 mw_X9_thrown.2.2.1 mw_X9_thrown.2.2.2 ⟨rfl, by decide, by decide, by decide +kernel⟩ rfl rfl ⟨by decide, by decide⟩ rfl rfl (Nat.le_of_ble_eq_true rfl) (by show _ ≤ 601024; omega) (by show _ ≤ 7293034; omega) dL_law_1277 ?_
  refine v_iload hC 1 dL_law_1280 rfl ?_
  refine v_icmp_eq (tgt := 1287) hC dL_law_1282 (by decide) (fun _ => ?_) (fun h => absurd h9 h)
  refine v_iload hC 1 dL_law_1287 rfl ?_
  refine v_if_ne (tgt := 1304) hC dL_law_1289 (by decide) (fun _ => ?_) (fun hv0 => ?_)
  · refine v_goto (tgt := 3558) hC dL_law_1304 (by decide) ?_
    refine v_sub (lv1 := [(0, .ref b), (1, .ref (zad Z 0)), (2, .ref (zad Z 9)), (3, .ref (zad Z 10)), (4, .int i)]) [2, 3, 4, 5, 6] rfl ?_
    refine v_widen (k1 := k + 6) (by omega) ?_
    exact kk M2 hPM
  · skip
    refine v_aload_n hC 5 dL_law_1292 rfl rfl ?_
    refine v_iconst hC (v := 0) dL_law_1293 (by decide) ?_
    refine v_lald hC dL_law_1294 ?_
    refine v_iload hC 0 dL_law_1295 rfl ?_
    refine v_i2l hC dL_law_1297 ?_
    refine v_lcmp hC dL_law_1298 ?_
    refine v_if_eq (tgt := 1304) hC dL_law_1299 (by decide) (fun _ => ?_) (fun h => absurd (lg_cmp_self (by rw [hout hv0])) h)
    refine v_goto (tgt := 3558) hC dL_law_1304 (by decide) ?_
    refine v_sub (lv1 := [(0, .ref b), (1, .ref (zad Z 0)), (2, .ref (zad Z 9)), (3, .ref (zad Z 10)), (4, .int i)]) [2, 3, 4, 5, 6] rfl ?_
    refine v_widen (k1 := k + 6) (by omega) ?_
    exact kk M2 hPM
set_option maxRecDepth 20000 in
set_option maxHeartbeats 4000000 in
theorem lawc_16 {p : Program} {l : Launch} {e : Env} {s : State} {m : MethodId} {args : Array Value} {below : List Frame} {meth : Method} {c : Code} {Z : gZ} {Q : State → Prop} {k : Nat} {M : gM} {b L : Nat} {xs : Nat → Int32} {i : Int32} {PM : gM → Prop} (hfl : l.stackTraces = false) (hC : gD p s m args c cL_law 7 RL Z) (hNc : gNc s) (hX : va_X b L xs s s.heap) (hbl : b < s.heap.size) (hbA : ¬ zA Z b) (h1 : vp_in (i + 1) L) (h2 : vp_in (i + 2) L) (h3 : vp_in (i + 3) L) (hk1 : k + 6 ≤ 601024) (hk2 : 6 * (k + 6) ≤ 7293034) (hAg : AgI (f_L_decide M (xs (i + 1).toNatClampNeg) (xs (i + 2).toNatClampNeg) (xs (i + 3).toNatClampNeg)) (fun M1 => f_X9_decide M1 (xs (i + 1).toNatClampNeg) (xs (i + 2).toNatClampNeg) (xs (i + 3).toNatClampNeg)) PM) (kk : ∀ M2, PM M2 → gV p l e room_1 s m args below meth c 7 Z Q (k + 6) M2 3558 [(0, .ref b), (1, .ref (zad Z 0)), (2, .ref (zad Z 9)), (3, .ref (zad Z 10)), (4, .int i)] []) : gV p l e room_1 s m args below meth c 7 Z Q k M 1307 [(0, .ref b), (1, .ref (zad Z 0)), (2, .ref (zad Z 9)), (3, .ref (zad Z 10)), (4, .int i)] [] := by
  obtain ⟨v, M1, b0, M2, hr1, hr2, h9, hout, hPM⟩ := hAg
  dsimp only at hr2
  refine v_aload_n hC 1 dL_law_1307 rfl rfl ?_
  refine v_aload_n hC 0 dL_law_1308 rfl rfl ?_
  refine v_iload hC 4 dL_law_1309 rfl ?_
  refine v_iconst hC (v := 1) dL_law_1311 (by decide) ?_
  refine v_iadd hC dL_law_1312 ?_
  refine v_sld hC hX hbl hbA h1 dL_law_1313 ?_
  refine v_aload_n hC 0 dL_law_1314 rfl rfl ?_
  refine v_iload hC 4 dL_law_1315 rfl ?_
  refine v_iconst hC (v := 2) dL_law_1317 (by decide) ?_
  refine v_iadd hC dL_law_1318 ?_
  refine v_sld hC hX hbl hbA h2 dL_law_1319 ?_
  refine v_aload_n hC 0 dL_law_1320 rfl rfl ?_
  refine v_iload hC 4 dL_law_1321 rfl ?_
  refine v_iconst hC (v := 3) dL_law_1323 (by decide) ?_
  refine v_iadd hC dL_law_1324 ?_
  refine v_sld hC hX hbl hbA h3 dL_law_1325 ?_
  refine v_aload_n hC 3 dL_law_1326 rfl rfl ?_
  refine v_callLE (n := 5) hC hr1 [.ref (zad Z 0), .int (xs (i + 1).toNatClampNeg), .int (xs (i + 2).toNatClampNeg), .int (xs (i + 3).toNatClampNeg), .ref (zad Z 10)] hNc (fun hne => c_L_decide hfl Z M (xs (i + 1).toNatClampNeg) (xs (i + 2).toNatClampNeg) (xs (i + 3).toNatClampNeg) hne) ll_237 mw_L_decide.1 mw_L_decide.2.1 mw_L_decide.2.2 ⟨by decide, by decide, by decide +kernel⟩ rfl rfl ⟨by decide, by decide⟩ rfl rfl (Nat.le_of_ble_eq_true rfl) (by show _ ≤ 601024; omega) (by show _ ≤ 7293034; omega) dL_law_1327 ?_
  refine v_istore hC (lv1 := [(5, .int v), (0, .ref b), (1, .ref (zad Z 0)), (2, .ref (zad Z 9)), (3, .ref (zad Z 10)), (4, .int i)]) dL_law_1330 (by decide) rfl ?_
  refine v_aload_n hC 3 dL_law_1332 rfl rfl ?_
  refine v_aload_n hC 1 dL_law_1333 rfl rfl ?_
  refine v_iload hC 5 dL_law_1334 rfl ?_
  refine v_iconst hC (v := 1) dL_law_1336 (by decide) ?_
  refine v_iadd hC dL_law_1337 ?_
  refine v_sld hC hX hbl hbA h1 dL_law_1338 ?_
  refine v_aload_n hC 1 dL_law_1339 rfl rfl ?_
  refine v_iload hC 5 dL_law_1340 rfl ?_
  refine v_iconst hC (v := 2) dL_law_1342 (by decide) ?_
  refine v_iadd hC dL_law_1343 ?_
  refine v_sld hC hX hbl hbA h2 dL_law_1344 ?_
  refine v_aload_n hC 1 dL_law_1345 rfl rfl ?_
  refine v_iload hC 5 dL_law_1346 rfl ?_
  refine v_iconst hC (v := 3) dL_law_1348 (by decide) ?_
  refine v_iadd hC dL_law_1349 ?_
  refine v_sld hC hX hbl hbA h3 dL_law_1350 ?_
  refine v_callEi (n := 3) hC hr2 [.int (xs (i + 1).toNatClampNeg), .int (xs (i + 2).toNatClampNeg), .int (xs (i + 3).toNatClampNeg)] 9 9 (by decide) rfl rfl (fun hne => c_X9_decide hfl Z M1 (xs (i + 1).toNatClampNeg) (xs (i + 2).toNatClampNeg) (xs (i + 3).toNatClampNeg) hne) ll_239 mw_X9_decide.1 mw_X9_decide.2.1 mw_X9_decide.2.2.1 mw_X9_decide.2.2.2 ⟨rfl, by decide, by decide, by decide +kernel⟩ rfl rfl ⟨by decide, by decide⟩ rfl rfl (Nat.le_of_ble_eq_true rfl) (by show _ ≤ 601024; omega) (by show _ ≤ 7293034; omega) dL_law_1351 ?_
  refine v_istore hC (lv1 := [(6, .int b0), (5, .int v), (0, .ref b), (1, .ref (zad Z 0)), (2, .ref (zad Z 9)), (3, .ref (zad Z 10)), (4, .int i)]) dL_law_1354 (by decide) rfl ?_
  refine v_aload_n hC 4 dL_law_1356 rfl rfl ?_
  refine v_callEi (n := 0) hC (rfl : f_X9_thrown M2 = rRet (M2 9 0) M2) [] 9 9 (by decide) rfl rfl (fun hne => c_X9_thrown hfl Z M2  hne) ll_184 mw_X9_thrown.1 mw_X9_thrown.2.1 mw_X9_thrown.2.2.1 mw_X9_thrown.2.2.2 ⟨rfl, by decide, by decide, by decide +kernel⟩ rfl rfl ⟨by decide, by decide⟩ rfl rfl (Nat.le_of_ble_eq_true rfl) (by show _ ≤ 601024; omega) (by show _ ≤ 7293034; omega) dL_law_1357 ?_
  refine v_iload hC 1 dL_law_1360 rfl ?_
  refine v_icmp_eq (tgt := 1367) hC dL_law_1362 (by decide) (fun _ => ?_) (fun h => absurd h9 h)
  refine v_iload hC 1 dL_law_1367 rfl ?_
  refine v_if_ne (tgt := 1384) hC dL_law_1369 (by decide) (fun _ => ?_) (fun hv0 => ?_)
  · refine v_goto (tgt := 3558) hC dL_law_1384 (by decide) ?_
    refine v_sub (lv1 := [(0, .ref b), (1, .ref (zad Z 0)), (2, .ref (zad Z 9)), (3, .ref (zad Z 10)), (4, .int i)]) [2, 3, 4, 5, 6] rfl ?_
    refine v_widen (k1 := k + 6) (by omega) ?_
    exact kk M2 hPM
  · skip
    refine v_aload_n hC 5 dL_law_1372 rfl rfl ?_
    refine v_iconst hC (v := 0) dL_law_1373 (by decide) ?_
    refine v_lald hC dL_law_1374 ?_
    refine v_iload hC 0 dL_law_1375 rfl ?_
    refine v_i2l hC dL_law_1377 ?_
    refine v_lcmp hC dL_law_1378 ?_
    refine v_if_eq (tgt := 1384) hC dL_law_1379 (by decide) (fun _ => ?_) (fun h => absurd (lg_cmp_self (by rw [hout hv0])) h)
    refine v_goto (tgt := 3558) hC dL_law_1384 (by decide) ?_
    refine v_sub (lv1 := [(0, .ref b), (1, .ref (zad Z 0)), (2, .ref (zad Z 9)), (3, .ref (zad Z 10)), (4, .int i)]) [2, 3, 4, 5, 6] rfl ?_
    refine v_widen (k1 := k + 6) (by omega) ?_
    exact kk M2 hPM
set_option maxRecDepth 20000 in
set_option maxHeartbeats 4000000 in
theorem lawc_17 {p : Program} {l : Launch} {e : Env} {s : State} {m : MethodId} {args : Array Value} {below : List Frame} {meth : Method} {c : Code} {Z : gZ} {Q : State → Prop} {k : Nat} {M : gM} {b L : Nat} {xs : Nat → Int32} {i : Int32} {PM : gM → Prop} (hfl : l.stackTraces = false) (hC : gD p s m args c cL_law 7 RL Z) (hNc : gNc s) (hX : va_X b L xs s s.heap) (hbl : b < s.heap.size) (hbA : ¬ zA Z b) (h1 : vp_in (i + 1) L) (hk1 : k + 6 ≤ 601024) (hk2 : 6 * (k + 6) ≤ 7293034) (hAg : AgI (f_L_settle M (xs (i + 1).toNatClampNeg)) (fun M1 => f_X9_settle M1 (xs (i + 1).toNatClampNeg)) PM) (kk : ∀ M2, PM M2 → gV p l e room_1 s m args below meth c 7 Z Q (k + 6) M2 3558 [(0, .ref b), (1, .ref (zad Z 0)), (2, .ref (zad Z 9)), (3, .ref (zad Z 10)), (4, .int i)] []) : gV p l e room_1 s m args below meth c 7 Z Q k M 1387 [(0, .ref b), (1, .ref (zad Z 0)), (2, .ref (zad Z 9)), (3, .ref (zad Z 10)), (4, .int i)] [] := by
  obtain ⟨v, M1, b0, M2, hr1, hr2, h9, hout, hPM⟩ := hAg
  dsimp only at hr2
  refine v_aload_n hC 1 dL_law_1387 rfl rfl ?_
  refine v_aload_n hC 0 dL_law_1388 rfl rfl ?_
  refine v_iload hC 4 dL_law_1389 rfl ?_
  refine v_iconst hC (v := 1) dL_law_1391 (by decide) ?_
  refine v_iadd hC dL_law_1392 ?_
  refine v_sld hC hX hbl hbA h1 dL_law_1393 ?_
  refine v_aload_n hC 3 dL_law_1394 rfl rfl ?_
  refine v_callLE (n := 3) hC hr1 [.ref (zad Z 0), .int (xs (i + 1).toNatClampNeg), .ref (zad Z 10)] hNc (fun hne => c_L_settle hfl Z M (xs (i + 1).toNatClampNeg) hne) ll_240 mw_L_settle.1 mw_L_settle.2.1 mw_L_settle.2.2 ⟨by decide, by decide, by decide +kernel⟩ rfl rfl ⟨by decide, by decide⟩ rfl rfl (Nat.le_of_ble_eq_true rfl) (by show _ ≤ 601024; omega) (by show _ ≤ 7293034; omega) dL_law_1395 ?_
  refine v_istore hC (lv1 := [(5, .int v), (0, .ref b), (1, .ref (zad Z 0)), (2, .ref (zad Z 9)), (3, .ref (zad Z 10)), (4, .int i)]) dL_law_1398 (by decide) rfl ?_
  refine v_aload_n hC 3 dL_law_1400 rfl rfl ?_
  refine v_aload_n hC 1 dL_law_1401 rfl rfl ?_
  refine v_iload hC 5 dL_law_1402 rfl ?_
  refine v_iconst hC (v := 1) dL_law_1404 (by decide) ?_
  refine v_iadd hC dL_law_1405 ?_
  refine v_sld hC hX hbl hbA h1 dL_law_1406 ?_
  refine v_callEi (n := 1) hC hr2 [.int (xs (i + 1).toNatClampNeg)] 9 9 (by decide) rfl rfl (fun hne => c_X9_settle hfl Z M1 (xs (i + 1).toNatClampNeg) hne) ll_242 mw_X9_settle.1 mw_X9_settle.2.1 mw_X9_settle.2.2.1 mw_X9_settle.2.2.2 ⟨rfl, by decide, by decide, by decide +kernel⟩ rfl rfl ⟨by decide, by decide⟩ rfl rfl (Nat.le_of_ble_eq_true rfl) (by show _ ≤ 601024; omega) (by show _ ≤ 7293034; omega) dL_law_1407 ?_
  refine v_istore hC (lv1 := [(6, .int b0), (5, .int v), (0, .ref b), (1, .ref (zad Z 0)), (2, .ref (zad Z 9)), (3, .ref (zad Z 10)), (4, .int i)]) dL_law_1410 (by decide) rfl ?_
  refine v_aload_n hC 4 dL_law_1412 rfl rfl ?_
  refine v_callEi (n := 0) hC (rfl : f_X9_thrown M2 = rRet (M2 9 0) M2) [] 9 9 (by decide) rfl rfl (fun hne => c_X9_thrown hfl Z M2  hne) ll_184 mw_X9_thrown.1 mw_X9_thrown.2.1 mw_X9_thrown.2.2.1 mw_X9_thrown.2.2.2 ⟨rfl, by decide, by decide, by decide +kernel⟩ rfl rfl ⟨by decide, by decide⟩ rfl rfl (Nat.le_of_ble_eq_true rfl) (by show _ ≤ 601024; omega) (by show _ ≤ 7293034; omega) dL_law_1413 ?_
  refine v_iload hC 1 dL_law_1416 rfl ?_
  refine v_icmp_eq (tgt := 1423) hC dL_law_1418 (by decide) (fun _ => ?_) (fun h => absurd h9 h)
  refine v_iload hC 1 dL_law_1423 rfl ?_
  refine v_if_ne (tgt := 1440) hC dL_law_1425 (by decide) (fun _ => ?_) (fun hv0 => ?_)
  · refine v_goto (tgt := 3558) hC dL_law_1440 (by decide) ?_
    refine v_sub (lv1 := [(0, .ref b), (1, .ref (zad Z 0)), (2, .ref (zad Z 9)), (3, .ref (zad Z 10)), (4, .int i)]) [2, 3, 4, 5, 6] rfl ?_
    refine v_widen (k1 := k + 6) (by omega) ?_
    exact kk M2 hPM
  · skip
    refine v_aload_n hC 5 dL_law_1428 rfl rfl ?_
    refine v_iconst hC (v := 0) dL_law_1429 (by decide) ?_
    refine v_lald hC dL_law_1430 ?_
    refine v_iload hC 0 dL_law_1431 rfl ?_
    refine v_i2l hC dL_law_1433 ?_
    refine v_lcmp hC dL_law_1434 ?_
    refine v_if_eq (tgt := 1440) hC dL_law_1435 (by decide) (fun _ => ?_) (fun h => absurd (lg_cmp_self (by rw [hout hv0])) h)
    refine v_goto (tgt := 3558) hC dL_law_1440 (by decide) ?_
    refine v_sub (lv1 := [(0, .ref b), (1, .ref (zad Z 0)), (2, .ref (zad Z 9)), (3, .ref (zad Z 10)), (4, .int i)]) [2, 3, 4, 5, 6] rfl ?_
    refine v_widen (k1 := k + 6) (by omega) ?_
    exact kk M2 hPM
set_option maxRecDepth 20000 in
set_option maxHeartbeats 4000000 in
theorem lawc_18 {p : Program} {l : Launch} {e : Env} {s : State} {m : MethodId} {args : Array Value} {below : List Frame} {meth : Method} {c : Code} {Z : gZ} {Q : State → Prop} {k : Nat} {M : gM} {b L : Nat} {xs : Nat → Int32} {i : Int32} {PM : gM → Prop} (hfl : l.stackTraces = false) (hC : gD p s m args c cL_law 7 RL Z) (hNc : gNc s) (hX : va_X b L xs s s.heap) (hbl : b < s.heap.size) (hbA : ¬ zA Z b) (h1 : vp_in (i + 1) L) (h2 : vp_in (i + 2) L) (hk1 : k + 6 ≤ 601024) (hk2 : 6 * (k + 6) ≤ 7293034) (hAg : AgI (f_L_pay M (xs (i + 1).toNatClampNeg) (xs (i + 2).toNatClampNeg)) (fun M1 => f_X9_pay M1 (xs (i + 1).toNatClampNeg) (xs (i + 2).toNatClampNeg)) PM) (kk : ∀ M2, PM M2 → gV p l e room_1 s m args below meth c 7 Z Q (k + 6) M2 3558 [(0, .ref b), (1, .ref (zad Z 0)), (2, .ref (zad Z 9)), (3, .ref (zad Z 10)), (4, .int i)] []) : gV p l e room_1 s m args below meth c 7 Z Q k M 1443 [(0, .ref b), (1, .ref (zad Z 0)), (2, .ref (zad Z 9)), (3, .ref (zad Z 10)), (4, .int i)] [] := by
  obtain ⟨v, M1, b0, M2, hr1, hr2, h9, hout, hPM⟩ := hAg
  dsimp only at hr2
  refine v_aload_n hC 1 dL_law_1443 rfl rfl ?_
  refine v_aload_n hC 0 dL_law_1444 rfl rfl ?_
  refine v_iload hC 4 dL_law_1445 rfl ?_
  refine v_iconst hC (v := 1) dL_law_1447 (by decide) ?_
  refine v_iadd hC dL_law_1448 ?_
  refine v_sld hC hX hbl hbA h1 dL_law_1449 ?_
  refine v_aload_n hC 0 dL_law_1450 rfl rfl ?_
  refine v_iload hC 4 dL_law_1451 rfl ?_
  refine v_iconst hC (v := 2) dL_law_1453 (by decide) ?_
  refine v_iadd hC dL_law_1454 ?_
  refine v_sld hC hX hbl hbA h2 dL_law_1455 ?_
  refine v_aload_n hC 3 dL_law_1456 rfl rfl ?_
  refine v_callLE (n := 4) hC hr1 [.ref (zad Z 0), .int (xs (i + 1).toNatClampNeg), .int (xs (i + 2).toNatClampNeg), .ref (zad Z 10)] hNc (fun hne => c_L_pay hfl Z M (xs (i + 1).toNatClampNeg) (xs (i + 2).toNatClampNeg) hne) ll_243 mw_L_pay.1 mw_L_pay.2.1 mw_L_pay.2.2 ⟨by decide, by decide, by decide +kernel⟩ rfl rfl ⟨by decide, by decide⟩ rfl rfl (Nat.le_of_ble_eq_true rfl) (by show _ ≤ 601024; omega) (by show _ ≤ 7293034; omega) dL_law_1457 ?_
  refine v_istore hC (lv1 := [(5, .int v), (0, .ref b), (1, .ref (zad Z 0)), (2, .ref (zad Z 9)), (3, .ref (zad Z 10)), (4, .int i)]) dL_law_1460 (by decide) rfl ?_
  refine v_aload_n hC 3 dL_law_1462 rfl rfl ?_
  refine v_aload_n hC 1 dL_law_1463 rfl rfl ?_
  refine v_iload hC 5 dL_law_1464 rfl ?_
  refine v_iconst hC (v := 1) dL_law_1466 (by decide) ?_
  refine v_iadd hC dL_law_1467 ?_
  refine v_sld hC hX hbl hbA h1 dL_law_1468 ?_
  refine v_aload_n hC 1 dL_law_1469 rfl rfl ?_
  refine v_iload hC 5 dL_law_1470 rfl ?_
  refine v_iconst hC (v := 2) dL_law_1472 (by decide) ?_
  refine v_iadd hC dL_law_1473 ?_
  refine v_sld hC hX hbl hbA h2 dL_law_1474 ?_
  refine v_callEi (n := 2) hC hr2 [.int (xs (i + 1).toNatClampNeg), .int (xs (i + 2).toNatClampNeg)] 9 9 (by decide) rfl rfl (fun hne => c_X9_pay hfl Z M1 (xs (i + 1).toNatClampNeg) (xs (i + 2).toNatClampNeg) hne) ll_245 mw_X9_pay.1 mw_X9_pay.2.1 mw_X9_pay.2.2.1 mw_X9_pay.2.2.2 ⟨rfl, by decide, by decide, by decide +kernel⟩ rfl rfl ⟨by decide, by decide⟩ rfl rfl (Nat.le_of_ble_eq_true rfl) (by show _ ≤ 601024; omega) (by show _ ≤ 7293034; omega) dL_law_1475 ?_
  refine v_istore hC (lv1 := [(6, .int b0), (5, .int v), (0, .ref b), (1, .ref (zad Z 0)), (2, .ref (zad Z 9)), (3, .ref (zad Z 10)), (4, .int i)]) dL_law_1478 (by decide) rfl ?_
  refine v_aload_n hC 4 dL_law_1480 rfl rfl ?_
  refine v_callEi (n := 0) hC (rfl : f_X9_thrown M2 = rRet (M2 9 0) M2) [] 9 9 (by decide) rfl rfl (fun hne => c_X9_thrown hfl Z M2  hne) ll_184 mw_X9_thrown.1 mw_X9_thrown.2.1 mw_X9_thrown.2.2.1 mw_X9_thrown.2.2.2 ⟨rfl, by decide, by decide, by decide +kernel⟩ rfl rfl ⟨by decide, by decide⟩ rfl rfl (Nat.le_of_ble_eq_true rfl) (by show _ ≤ 601024; omega) (by show _ ≤ 7293034; omega) dL_law_1481 ?_
  refine v_iload hC 1 dL_law_1484 rfl ?_
  refine v_icmp_eq (tgt := 1491) hC dL_law_1486 (by decide) (fun _ => ?_) (fun h => absurd h9 h)
  refine v_iload hC 1 dL_law_1491 rfl ?_
  refine v_if_ne (tgt := 1508) hC dL_law_1493 (by decide) (fun _ => ?_) (fun hv0 => ?_)
  · refine v_goto (tgt := 3558) hC dL_law_1508 (by decide) ?_
    refine v_sub (lv1 := [(0, .ref b), (1, .ref (zad Z 0)), (2, .ref (zad Z 9)), (3, .ref (zad Z 10)), (4, .int i)]) [2, 3, 4, 5, 6] rfl ?_
    refine v_widen (k1 := k + 6) (by omega) ?_
    exact kk M2 hPM
  · skip
    refine v_aload_n hC 5 dL_law_1496 rfl rfl ?_
    refine v_iconst hC (v := 0) dL_law_1497 (by decide) ?_
    refine v_lald hC dL_law_1498 ?_
    refine v_iload hC 0 dL_law_1499 rfl ?_
    refine v_i2l hC dL_law_1501 ?_
    refine v_lcmp hC dL_law_1502 ?_
    refine v_if_eq (tgt := 1508) hC dL_law_1503 (by decide) (fun _ => ?_) (fun h => absurd (lg_cmp_self (by rw [hout hv0])) h)
    refine v_goto (tgt := 3558) hC dL_law_1508 (by decide) ?_
    refine v_sub (lv1 := [(0, .ref b), (1, .ref (zad Z 0)), (2, .ref (zad Z 9)), (3, .ref (zad Z 10)), (4, .int i)]) [2, 3, 4, 5, 6] rfl ?_
    refine v_widen (k1 := k + 6) (by omega) ?_
    exact kk M2 hPM
set_option maxRecDepth 20000 in
set_option maxHeartbeats 4000000 in
theorem lawc_19 {p : Program} {l : Launch} {e : Env} {s : State} {m : MethodId} {args : Array Value} {below : List Frame} {meth : Method} {c : Code} {Z : gZ} {Q : State → Prop} {k : Nat} {M : gM} {b L : Nat} {xs : Nat → Int32} {i : Int32} {PM : gM → Prop} (hfl : l.stackTraces = false) (hC : gD p s m args c cL_law 7 RL Z) (hNc : gNc s) (hX : va_X b L xs s s.heap) (hbl : b < s.heap.size) (hbA : ¬ zA Z b) (h1 : vp_in (i + 1) L) (h2 : vp_in (i + 2) L) (hk1 : k + 6 ≤ 601024) (hk2 : 6 * (k + 6) ≤ 7293034) (hAg : AgI (f_L_stay M (xs (i + 1).toNatClampNeg) (gb (xs (i + 2).toNatClampNeg))) (fun M1 => f_X9_stay M1 (xs (i + 1).toNatClampNeg) (gb (xs (i + 2).toNatClampNeg))) PM) (kk : ∀ M2, PM M2 → gV p l e room_1 s m args below meth c 7 Z Q (k + 6) M2 3558 [(0, .ref b), (1, .ref (zad Z 0)), (2, .ref (zad Z 9)), (3, .ref (zad Z 10)), (4, .int i)] []) : gV p l e room_1 s m args below meth c 7 Z Q k M 1511 [(0, .ref b), (1, .ref (zad Z 0)), (2, .ref (zad Z 9)), (3, .ref (zad Z 10)), (4, .int i)] [] := by
  obtain ⟨v, M1, b0, M2, hr1, hr2, h9, hout, hPM⟩ := hAg
  dsimp only at hr2
  refine v_aload_n hC 1 dL_law_1511 rfl rfl ?_
  refine v_aload_n hC 0 dL_law_1512 rfl rfl ?_
  refine v_iload hC 4 dL_law_1513 rfl ?_
  refine v_iconst hC (v := 1) dL_law_1515 (by decide) ?_
  refine v_iadd hC dL_law_1516 ?_
  refine v_sld hC hX hbl hbA h1 dL_law_1517 ?_
  refine v_aload_n hC 0 dL_law_1518 rfl rfl ?_
  refine v_iload hC 4 dL_law_1519 rfl ?_
  refine v_iconst hC (v := 2) dL_law_1521 (by decide) ?_
  refine v_iadd hC dL_law_1522 ?_
  refine v_sld hC hX hbl hbA h2 dL_law_1523 ?_
  refine v_bool (tgt := 1531) hC dL_law_1524 (by decide) dL_law_1527 dL_law_1528 (by decide) dL_law_1531 ?_
  refine v_aload_n hC 3 dL_law_1532 rfl rfl ?_
  refine v_callLE (n := 4) hC hr1 [.ref (zad Z 0), .int (xs (i + 1).toNatClampNeg), .int (gb (xs (i + 2).toNatClampNeg)), .ref (zad Z 10)] hNc (fun hne => c_L_stay hfl Z M (xs (i + 1).toNatClampNeg) (gb (xs (i + 2).toNatClampNeg)) hne) ll_246 mw_L_stay.1 mw_L_stay.2.1 mw_L_stay.2.2 ⟨by decide, by decide, by decide +kernel⟩ rfl rfl ⟨by decide, by decide⟩ rfl rfl (Nat.le_of_ble_eq_true rfl) (by show _ ≤ 601024; omega) (by show _ ≤ 7293034; omega) dL_law_1533 ?_
  refine v_istore hC (lv1 := [(5, .int v), (0, .ref b), (1, .ref (zad Z 0)), (2, .ref (zad Z 9)), (3, .ref (zad Z 10)), (4, .int i)]) dL_law_1536 (by decide) rfl ?_
  refine v_aload_n hC 3 dL_law_1538 rfl rfl ?_
  refine v_aload_n hC 1 dL_law_1539 rfl rfl ?_
  refine v_iload hC 5 dL_law_1540 rfl ?_
  refine v_iconst hC (v := 1) dL_law_1542 (by decide) ?_
  refine v_iadd hC dL_law_1543 ?_
  refine v_sld hC hX hbl hbA h1 dL_law_1544 ?_
  refine v_aload_n hC 1 dL_law_1545 rfl rfl ?_
  refine v_iload hC 5 dL_law_1546 rfl ?_
  refine v_iconst hC (v := 2) dL_law_1548 (by decide) ?_
  refine v_iadd hC dL_law_1549 ?_
  refine v_sld hC hX hbl hbA h2 dL_law_1550 ?_
  refine v_bool (tgt := 1558) hC dL_law_1551 (by decide) dL_law_1554 dL_law_1555 (by decide) dL_law_1558 ?_
  refine v_callEi (n := 2) hC hr2 [.int (xs (i + 1).toNatClampNeg), .int (gb (xs (i + 2).toNatClampNeg))] 9 9 (by decide) rfl rfl (fun hne => c_X9_stay hfl Z M1 (xs (i + 1).toNatClampNeg) (gb (xs (i + 2).toNatClampNeg)) hne) ll_249 mw_X9_stay.1 mw_X9_stay.2.1 mw_X9_stay.2.2.1 mw_X9_stay.2.2.2 ⟨rfl, by decide, by decide, by decide +kernel⟩ rfl rfl ⟨by decide, by decide⟩ rfl rfl (Nat.le_of_ble_eq_true rfl) (by show _ ≤ 601024; omega) (by show _ ≤ 7293034; omega) dL_law_1559 ?_
  refine v_istore hC (lv1 := [(6, .int b0), (5, .int v), (0, .ref b), (1, .ref (zad Z 0)), (2, .ref (zad Z 9)), (3, .ref (zad Z 10)), (4, .int i)]) dL_law_1562 (by decide) rfl ?_
  refine v_aload_n hC 4 dL_law_1564 rfl rfl ?_
  refine v_callEi (n := 0) hC (rfl : f_X9_thrown M2 = rRet (M2 9 0) M2) [] 9 9 (by decide) rfl rfl (fun hne => c_X9_thrown hfl Z M2  hne) ll_184 mw_X9_thrown.1 mw_X9_thrown.2.1 mw_X9_thrown.2.2.1 mw_X9_thrown.2.2.2 ⟨rfl, by decide, by decide, by decide +kernel⟩ rfl rfl ⟨by decide, by decide⟩ rfl rfl (Nat.le_of_ble_eq_true rfl) (by show _ ≤ 601024; omega) (by show _ ≤ 7293034; omega) dL_law_1565 ?_
  refine v_iload hC 1 dL_law_1568 rfl ?_
  refine v_icmp_eq (tgt := 1575) hC dL_law_1570 (by decide) (fun _ => ?_) (fun h => absurd h9 h)
  refine v_iload hC 1 dL_law_1575 rfl ?_
  refine v_if_ne (tgt := 1592) hC dL_law_1577 (by decide) (fun _ => ?_) (fun hv0 => ?_)
  · refine v_goto (tgt := 3558) hC dL_law_1592 (by decide) ?_
    refine v_sub (lv1 := [(0, .ref b), (1, .ref (zad Z 0)), (2, .ref (zad Z 9)), (3, .ref (zad Z 10)), (4, .int i)]) [2, 3, 4, 5, 6] rfl ?_
    refine v_widen (k1 := k + 6) (by omega) ?_
    exact kk M2 hPM
  · skip
    refine v_aload_n hC 5 dL_law_1580 rfl rfl ?_
    refine v_iconst hC (v := 0) dL_law_1581 (by decide) ?_
    refine v_lald hC dL_law_1582 ?_
    refine v_iload hC 0 dL_law_1583 rfl ?_
    refine v_i2l hC dL_law_1585 ?_
    refine v_lcmp hC dL_law_1586 ?_
    refine v_if_eq (tgt := 1592) hC dL_law_1587 (by decide) (fun _ => ?_) (fun h => absurd (lg_cmp_self (by rw [hout hv0])) h)
    refine v_goto (tgt := 3558) hC dL_law_1592 (by decide) ?_
    refine v_sub (lv1 := [(0, .ref b), (1, .ref (zad Z 0)), (2, .ref (zad Z 9)), (3, .ref (zad Z 10)), (4, .int i)]) [2, 3, 4, 5, 6] rfl ?_
    refine v_widen (k1 := k + 6) (by omega) ?_
    exact kk M2 hPM
set_option maxRecDepth 20000 in
set_option maxHeartbeats 4000000 in
theorem lawc_20 {p : Program} {l : Launch} {e : Env} {s : State} {m : MethodId} {args : Array Value} {below : List Frame} {meth : Method} {c : Code} {Z : gZ} {Q : State → Prop} {k : Nat} {M : gM} {b L : Nat} {xs : Nat → Int32} {i : Int32} {PM : gM → Prop} (hfl : l.stackTraces = false) (hC : gD p s m args c cL_law 7 RL Z) (hNc : gNc s) (hX : va_X b L xs s s.heap) (hbl : b < s.heap.size) (hbA : ¬ zA Z b) (h1 : vp_in (i + 1) L) (hk1 : k + 6 ≤ 601024) (hk2 : 6 * (k + 6) ≤ 7293034) (hAg : AgI (f_L_defect M (xs (i + 1).toNatClampNeg)) (fun M1 => f_X9_defect M1 (xs (i + 1).toNatClampNeg)) PM) (kk : ∀ M2, PM M2 → gV p l e room_1 s m args below meth c 7 Z Q (k + 6) M2 3558 [(0, .ref b), (1, .ref (zad Z 0)), (2, .ref (zad Z 9)), (3, .ref (zad Z 10)), (4, .int i)] []) : gV p l e room_1 s m args below meth c 7 Z Q k M 1595 [(0, .ref b), (1, .ref (zad Z 0)), (2, .ref (zad Z 9)), (3, .ref (zad Z 10)), (4, .int i)] [] := by
  obtain ⟨v, M1, b0, M2, hr1, hr2, h9, hout, hPM⟩ := hAg
  dsimp only at hr2
  refine v_aload_n hC 1 dL_law_1595 rfl rfl ?_
  refine v_aload_n hC 0 dL_law_1596 rfl rfl ?_
  refine v_iload hC 4 dL_law_1597 rfl ?_
  refine v_iconst hC (v := 1) dL_law_1599 (by decide) ?_
  refine v_iadd hC dL_law_1600 ?_
  refine v_sld hC hX hbl hbA h1 dL_law_1601 ?_
  refine v_aload_n hC 3 dL_law_1602 rfl rfl ?_
  refine v_callLE (n := 3) hC hr1 [.ref (zad Z 0), .int (xs (i + 1).toNatClampNeg), .ref (zad Z 10)] hNc (fun hne => c_L_defect hfl Z M (xs (i + 1).toNatClampNeg) hne) ll_250 mw_L_defect.1 mw_L_defect.2.1 mw_L_defect.2.2 ⟨by decide, by decide, by decide +kernel⟩ rfl rfl ⟨by decide, by decide⟩ rfl rfl (Nat.le_of_ble_eq_true rfl) (by show _ ≤ 601024; omega) (by show _ ≤ 7293034; omega) dL_law_1603 ?_
  refine v_istore hC (lv1 := [(5, .int v), (0, .ref b), (1, .ref (zad Z 0)), (2, .ref (zad Z 9)), (3, .ref (zad Z 10)), (4, .int i)]) dL_law_1606 (by decide) rfl ?_
  refine v_aload_n hC 3 dL_law_1608 rfl rfl ?_
  refine v_aload_n hC 1 dL_law_1609 rfl rfl ?_
  refine v_iload hC 5 dL_law_1610 rfl ?_
  refine v_iconst hC (v := 1) dL_law_1612 (by decide) ?_
  refine v_iadd hC dL_law_1613 ?_
  refine v_sld hC hX hbl hbA h1 dL_law_1614 ?_
  refine v_callEi (n := 1) hC hr2 [.int (xs (i + 1).toNatClampNeg)] 9 9 (by decide) rfl rfl (fun hne => c_X9_defect hfl Z M1 (xs (i + 1).toNatClampNeg) hne) ll_252 mw_X9_defect.1 mw_X9_defect.2.1 mw_X9_defect.2.2.1 mw_X9_defect.2.2.2 ⟨rfl, by decide, by decide, by decide +kernel⟩ rfl rfl ⟨by decide, by decide⟩ rfl rfl (Nat.le_of_ble_eq_true rfl) (by show _ ≤ 601024; omega) (by show _ ≤ 7293034; omega) dL_law_1615 ?_
  refine v_istore hC (lv1 := [(6, .int b0), (5, .int v), (0, .ref b), (1, .ref (zad Z 0)), (2, .ref (zad Z 9)), (3, .ref (zad Z 10)), (4, .int i)]) dL_law_1618 (by decide) rfl ?_
  refine v_aload_n hC 4 dL_law_1620 rfl rfl ?_
  refine v_callEi (n := 0) hC (rfl : f_X9_thrown M2 = rRet (M2 9 0) M2) [] 9 9 (by decide) rfl rfl (fun hne => c_X9_thrown hfl Z M2  hne) ll_184 mw_X9_thrown.1 mw_X9_thrown.2.1 mw_X9_thrown.2.2.1 mw_X9_thrown.2.2.2 ⟨rfl, by decide, by decide, by decide +kernel⟩ rfl rfl ⟨by decide, by decide⟩ rfl rfl (Nat.le_of_ble_eq_true rfl) (by show _ ≤ 601024; omega) (by show _ ≤ 7293034; omega) dL_law_1621 ?_
  refine v_iload hC 1 dL_law_1624 rfl ?_
  refine v_icmp_eq (tgt := 1631) hC dL_law_1626 (by decide) (fun _ => ?_) (fun h => absurd h9 h)
  refine v_iload hC 1 dL_law_1631 rfl ?_
  refine v_if_ne (tgt := 1648) hC dL_law_1633 (by decide) (fun _ => ?_) (fun hv0 => ?_)
  · refine v_goto (tgt := 3558) hC dL_law_1648 (by decide) ?_
    refine v_sub (lv1 := [(0, .ref b), (1, .ref (zad Z 0)), (2, .ref (zad Z 9)), (3, .ref (zad Z 10)), (4, .int i)]) [2, 3, 4, 5, 6] rfl ?_
    refine v_widen (k1 := k + 6) (by omega) ?_
    exact kk M2 hPM
  · skip
    refine v_aload_n hC 5 dL_law_1636 rfl rfl ?_
    refine v_iconst hC (v := 0) dL_law_1637 (by decide) ?_
    refine v_lald hC dL_law_1638 ?_
    refine v_iload hC 0 dL_law_1639 rfl ?_
    refine v_i2l hC dL_law_1641 ?_
    refine v_lcmp hC dL_law_1642 ?_
    refine v_if_eq (tgt := 1648) hC dL_law_1643 (by decide) (fun _ => ?_) (fun h => absurd (lg_cmp_self (by rw [hout hv0])) h)
    refine v_goto (tgt := 3558) hC dL_law_1648 (by decide) ?_
    refine v_sub (lv1 := [(0, .ref b), (1, .ref (zad Z 0)), (2, .ref (zad Z 9)), (3, .ref (zad Z 10)), (4, .int i)]) [2, 3, 4, 5, 6] rfl ?_
    refine v_widen (k1 := k + 6) (by omega) ?_
    exact kk M2 hPM
set_option maxRecDepth 20000 in
set_option maxHeartbeats 4000000 in
theorem lawc_21 {p : Program} {l : Launch} {e : Env} {s : State} {m : MethodId} {args : Array Value} {below : List Frame} {meth : Method} {c : Code} {Z : gZ} {Q : State → Prop} {k : Nat} {M : gM} {b L : Nat} {xs : Nat → Int32} {i : Int32} {PM : gM → Prop} (hfl : l.stackTraces = false) (hC : gD p s m args c cL_law 7 RL Z) (hNc : gNc s) (hX : va_X b L xs s s.heap) (hbl : b < s.heap.size) (hbA : ¬ zA Z b) (h1 : vp_in (i + 1) L) (hk1 : k + 6 ≤ 601024) (hk2 : 6 * (k + 6) ≤ 7293034) (hAg : AgB (f_L_cure M (xs (i + 1).toNatClampNeg)) (fun M1 => f_X9_cure M1 (xs (i + 1).toNatClampNeg)) PM) (kk : ∀ M2, PM M2 → gV p l e room_1 s m args below meth c 7 Z Q (k + 6) M2 3558 [(0, .ref b), (1, .ref (zad Z 0)), (2, .ref (zad Z 9)), (3, .ref (zad Z 10)), (4, .int i)] []) : gV p l e room_1 s m args below meth c 7 Z Q k M 1651 [(0, .ref b), (1, .ref (zad Z 0)), (2, .ref (zad Z 9)), (3, .ref (zad Z 10)), (4, .int i)] [] := by
  obtain ⟨v, M1, b0, M2, hr1, hr2, h9, hout, hPM⟩ := hAg
  dsimp only at hr2
  refine v_aload_n hC 1 dL_law_1651 rfl rfl ?_
  refine v_aload_n hC 0 dL_law_1652 rfl rfl ?_
  refine v_iload hC 4 dL_law_1653 rfl ?_
  refine v_iconst hC (v := 1) dL_law_1655 (by decide) ?_
  refine v_iadd hC dL_law_1656 ?_
  refine v_sld hC hX hbl hbA h1 dL_law_1657 ?_
  refine v_aload_n hC 3 dL_law_1658 rfl rfl ?_
  refine v_callLE (n := 3) hC hr1 [.ref (zad Z 0), .int (xs (i + 1).toNatClampNeg), .ref (zad Z 10)] hNc (fun hne => c_L_cure hfl Z M (xs (i + 1).toNatClampNeg) hne) ll_253 mw_L_cure.1 mw_L_cure.2.1 mw_L_cure.2.2 ⟨by decide, by decide, by decide +kernel⟩ rfl rfl ⟨by decide, by decide⟩ rfl rfl (Nat.le_of_ble_eq_true rfl) (by show _ ≤ 601024; omega) (by show _ ≤ 7293034; omega) dL_law_1659 ?_
  refine v_istore hC (lv1 := [(5, .int v), (0, .ref b), (1, .ref (zad Z 0)), (2, .ref (zad Z 9)), (3, .ref (zad Z 10)), (4, .int i)]) dL_law_1662 (by decide) rfl ?_
  refine v_aload_n hC 3 dL_law_1664 rfl rfl ?_
  refine v_aload_n hC 1 dL_law_1665 rfl rfl ?_
  refine v_iload hC 5 dL_law_1666 rfl ?_
  refine v_iconst hC (v := 1) dL_law_1668 (by decide) ?_
  refine v_iadd hC dL_law_1669 ?_
  refine v_sld hC hX hbl hbA h1 dL_law_1670 ?_
  refine v_callEi (n := 1) hC hr2 [.int (xs (i + 1).toNatClampNeg)] 9 9 (by decide) rfl rfl (fun hne => c_X9_cure hfl Z M1 (xs (i + 1).toNatClampNeg) hne) ll_255 mw_X9_cure.1 mw_X9_cure.2.1 mw_X9_cure.2.2.1 mw_X9_cure.2.2.2 ⟨rfl, by decide, by decide, by decide +kernel⟩ rfl rfl ⟨by decide, by decide⟩ rfl rfl (Nat.le_of_ble_eq_true rfl) (by show _ ≤ 601024; omega) (by show _ ≤ 7293034; omega) dL_law_1671 ?_
  refine v_istore hC (lv1 := [(6, .int b0), (5, .int v), (0, .ref b), (1, .ref (zad Z 0)), (2, .ref (zad Z 9)), (3, .ref (zad Z 10)), (4, .int i)]) dL_law_1674 (by decide) rfl ?_
  refine v_aload_n hC 4 dL_law_1676 rfl rfl ?_
  refine v_callEi (n := 0) hC (rfl : f_X9_thrown M2 = rRet (M2 9 0) M2) [] 9 9 (by decide) rfl rfl (fun hne => c_X9_thrown hfl Z M2  hne) ll_184 mw_X9_thrown.1 mw_X9_thrown.2.1 mw_X9_thrown.2.2.1 mw_X9_thrown.2.2.2 ⟨rfl, by decide, by decide, by decide +kernel⟩ rfl rfl ⟨by decide, by decide⟩ rfl rfl (Nat.le_of_ble_eq_true rfl) (by show _ ≤ 601024; omega) (by show _ ≤ 7293034; omega) dL_law_1677 ?_
  refine v_iload hC 1 dL_law_1680 rfl ?_
  refine v_icmp_eq (tgt := 1687) hC dL_law_1682 (by decide) (fun _ => ?_) (fun h => absurd h9 h)
  refine v_iload hC 1 dL_law_1687 rfl ?_
  refine v_if_ne (tgt := 1711) hC dL_law_1689 (by decide) (fun _ => ?_) (fun hv0 => ?_)
  · refine v_goto (tgt := 3558) hC dL_law_1711 (by decide) ?_
    refine v_sub (lv1 := [(0, .ref b), (1, .ref (zad Z 0)), (2, .ref (zad Z 9)), (3, .ref (zad Z 10)), (4, .int i)]) [2, 3, 4, 5, 6] rfl ?_
    refine v_widen (k1 := k + 6) (by omega) ?_
    exact kk M2 hPM
  · skip
    refine v_aload_n hC 5 dL_law_1692 rfl rfl ?_
    refine v_iconst hC (v := 0) dL_law_1693 (by decide) ?_
    refine v_lald hC dL_law_1694 ?_
    refine v_iload hC 0 dL_law_1695 rfl ?_
    refine v_boolL (tgt := 1704) hC dL_law_1697 (by decide) dL_law_1700 dL_law_1701 (by decide) dL_law_1704 ?_
    refine v_lcmp hC dL_law_1705 ?_
    refine v_if_eq (tgt := 1711) hC dL_law_1706 (by decide) (fun _ => ?_) (fun h => absurd (lg_cmp_self (by rw [hout hv0])) h)
    refine v_goto (tgt := 3558) hC dL_law_1711 (by decide) ?_
    refine v_sub (lv1 := [(0, .ref b), (1, .ref (zad Z 0)), (2, .ref (zad Z 9)), (3, .ref (zad Z 10)), (4, .int i)]) [2, 3, 4, 5, 6] rfl ?_
    refine v_widen (k1 := k + 6) (by omega) ?_
    exact kk M2 hPM
set_option maxRecDepth 20000 in
set_option maxHeartbeats 4000000 in
theorem lawc_22 {p : Program} {l : Launch} {e : Env} {s : State} {m : MethodId} {args : Array Value} {below : List Frame} {meth : Method} {c : Code} {Z : gZ} {Q : State → Prop} {k : Nat} {M : gM} {b L : Nat} {xs : Nat → Int32} {i : Int32} {PM : gM → Prop} (hfl : l.stackTraces = false) (hC : gD p s m args c cL_law 7 RL Z) (hNc : gNc s) (hX : va_X b L xs s s.heap) (hbl : b < s.heap.size) (hbA : ¬ zA Z b) (h1 : vp_in (i + 1) L) (h2 : vp_in (i + 2) L) (h3 : vp_in (i + 3) L) (hk1 : k + 6 ≤ 601024) (hk2 : 6 * (k + 6) ≤ 7293034) (hAg : AgI (f_L_extend M (xs (i + 1).toNatClampNeg) (xs (i + 2).toNatClampNeg) (xs (i + 3).toNatClampNeg)) (fun M1 => f_X9_extend M1 (xs (i + 1).toNatClampNeg) (xs (i + 2).toNatClampNeg) (xs (i + 3).toNatClampNeg)) PM) (kk : ∀ M2, PM M2 → gV p l e room_1 s m args below meth c 7 Z Q (k + 6) M2 3558 [(0, .ref b), (1, .ref (zad Z 0)), (2, .ref (zad Z 9)), (3, .ref (zad Z 10)), (4, .int i)] []) : gV p l e room_1 s m args below meth c 7 Z Q k M 1714 [(0, .ref b), (1, .ref (zad Z 0)), (2, .ref (zad Z 9)), (3, .ref (zad Z 10)), (4, .int i)] [] := by
  obtain ⟨v, M1, b0, M2, hr1, hr2, h9, hout, hPM⟩ := hAg
  dsimp only at hr2
  refine v_aload_n hC 1 dL_law_1714 rfl rfl ?_
  refine v_aload_n hC 0 dL_law_1715 rfl rfl ?_
  refine v_iload hC 4 dL_law_1716 rfl ?_
  refine v_iconst hC (v := 1) dL_law_1718 (by decide) ?_
  refine v_iadd hC dL_law_1719 ?_
  refine v_sld hC hX hbl hbA h1 dL_law_1720 ?_
  refine v_aload_n hC 0 dL_law_1721 rfl rfl ?_
  refine v_iload hC 4 dL_law_1722 rfl ?_
  refine v_iconst hC (v := 2) dL_law_1724 (by decide) ?_
  refine v_iadd hC dL_law_1725 ?_
  refine v_sld hC hX hbl hbA h2 dL_law_1726 ?_
  refine v_aload_n hC 0 dL_law_1727 rfl rfl ?_
  refine v_iload hC 4 dL_law_1728 rfl ?_
  refine v_iconst hC (v := 3) dL_law_1730 (by decide) ?_
  refine v_iadd hC dL_law_1731 ?_
  refine v_sld hC hX hbl hbA h3 dL_law_1732 ?_
  refine v_aload_n hC 3 dL_law_1733 rfl rfl ?_
  refine v_callLE (n := 5) hC hr1 [.ref (zad Z 0), .int (xs (i + 1).toNatClampNeg), .int (xs (i + 2).toNatClampNeg), .int (xs (i + 3).toNatClampNeg), .ref (zad Z 10)] hNc (fun hne => c_L_extend hfl Z M (xs (i + 1).toNatClampNeg) (xs (i + 2).toNatClampNeg) (xs (i + 3).toNatClampNeg) hne) ll_256 mw_L_extend.1 mw_L_extend.2.1 mw_L_extend.2.2 ⟨by decide, by decide, by decide +kernel⟩ rfl rfl ⟨by decide, by decide⟩ rfl rfl (Nat.le_of_ble_eq_true rfl) (by show _ ≤ 601024; omega) (by show _ ≤ 7293034; omega) dL_law_1734 ?_
  refine v_istore hC (lv1 := [(5, .int v), (0, .ref b), (1, .ref (zad Z 0)), (2, .ref (zad Z 9)), (3, .ref (zad Z 10)), (4, .int i)]) dL_law_1737 (by decide) rfl ?_
  refine v_aload_n hC 3 dL_law_1739 rfl rfl ?_
  refine v_aload_n hC 1 dL_law_1740 rfl rfl ?_
  refine v_iload hC 5 dL_law_1741 rfl ?_
  refine v_iconst hC (v := 1) dL_law_1743 (by decide) ?_
  refine v_iadd hC dL_law_1744 ?_
  refine v_sld hC hX hbl hbA h1 dL_law_1745 ?_
  refine v_aload_n hC 1 dL_law_1746 rfl rfl ?_
  refine v_iload hC 5 dL_law_1747 rfl ?_
  refine v_iconst hC (v := 2) dL_law_1749 (by decide) ?_
  refine v_iadd hC dL_law_1750 ?_
  refine v_sld hC hX hbl hbA h2 dL_law_1751 ?_
  refine v_aload_n hC 1 dL_law_1752 rfl rfl ?_
  refine v_iload hC 5 dL_law_1753 rfl ?_
  refine v_iconst hC (v := 3) dL_law_1755 (by decide) ?_
  refine v_iadd hC dL_law_1756 ?_
  refine v_sld hC hX hbl hbA h3 dL_law_1757 ?_
  refine v_callEi (n := 3) hC hr2 [.int (xs (i + 1).toNatClampNeg), .int (xs (i + 2).toNatClampNeg), .int (xs (i + 3).toNatClampNeg)] 9 9 (by decide) rfl rfl (fun hne => c_X9_extend hfl Z M1 (xs (i + 1).toNatClampNeg) (xs (i + 2).toNatClampNeg) (xs (i + 3).toNatClampNeg) hne) ll_258 mw_X9_extend.1 mw_X9_extend.2.1 mw_X9_extend.2.2.1 mw_X9_extend.2.2.2 ⟨rfl, by decide, by decide, by decide +kernel⟩ rfl rfl ⟨by decide, by decide⟩ rfl rfl (Nat.le_of_ble_eq_true rfl) (by show _ ≤ 601024; omega) (by show _ ≤ 7293034; omega) dL_law_1758 ?_
  refine v_istore hC (lv1 := [(6, .int b0), (5, .int v), (0, .ref b), (1, .ref (zad Z 0)), (2, .ref (zad Z 9)), (3, .ref (zad Z 10)), (4, .int i)]) dL_law_1761 (by decide) rfl ?_
  refine v_aload_n hC 4 dL_law_1763 rfl rfl ?_
  refine v_callEi (n := 0) hC (rfl : f_X9_thrown M2 = rRet (M2 9 0) M2) [] 9 9 (by decide) rfl rfl (fun hne => c_X9_thrown hfl Z M2  hne) ll_184 mw_X9_thrown.1 mw_X9_thrown.2.1 mw_X9_thrown.2.2.1 mw_X9_thrown.2.2.2 ⟨rfl, by decide, by decide, by decide +kernel⟩ rfl rfl ⟨by decide, by decide⟩ rfl rfl (Nat.le_of_ble_eq_true rfl) (by show _ ≤ 601024; omega) (by show _ ≤ 7293034; omega) dL_law_1764 ?_
  refine v_iload hC 1 dL_law_1767 rfl ?_
  refine v_icmp_eq (tgt := 1774) hC dL_law_1769 (by decide) (fun _ => ?_) (fun h => absurd h9 h)
  refine v_iload hC 1 dL_law_1774 rfl ?_
  refine v_if_ne (tgt := 1791) hC dL_law_1776 (by decide) (fun _ => ?_) (fun hv0 => ?_)
  · refine v_goto (tgt := 3558) hC dL_law_1791 (by decide) ?_
    refine v_sub (lv1 := [(0, .ref b), (1, .ref (zad Z 0)), (2, .ref (zad Z 9)), (3, .ref (zad Z 10)), (4, .int i)]) [2, 3, 4, 5, 6] rfl ?_
    refine v_widen (k1 := k + 6) (by omega) ?_
    exact kk M2 hPM
  · skip
    refine v_aload_n hC 5 dL_law_1779 rfl rfl ?_
    refine v_iconst hC (v := 0) dL_law_1780 (by decide) ?_
    refine v_lald hC dL_law_1781 ?_
    refine v_iload hC 0 dL_law_1782 rfl ?_
    refine v_i2l hC dL_law_1784 ?_
    refine v_lcmp hC dL_law_1785 ?_
    refine v_if_eq (tgt := 1791) hC dL_law_1786 (by decide) (fun _ => ?_) (fun h => absurd (lg_cmp_self (by rw [hout hv0])) h)
    refine v_goto (tgt := 3558) hC dL_law_1791 (by decide) ?_
    refine v_sub (lv1 := [(0, .ref b), (1, .ref (zad Z 0)), (2, .ref (zad Z 9)), (3, .ref (zad Z 10)), (4, .int i)]) [2, 3, 4, 5, 6] rfl ?_
    refine v_widen (k1 := k + 6) (by omega) ?_
    exact kk M2 hPM
set_option maxRecDepth 20000 in
set_option maxHeartbeats 4000000 in
theorem lawc_23 {p : Program} {l : Launch} {e : Env} {s : State} {m : MethodId} {args : Array Value} {below : List Frame} {meth : Method} {c : Code} {Z : gZ} {Q : State → Prop} {k : Nat} {M : gM} {b L : Nat} {xs : Nat → Int32} {i : Int32} {PM : gM → Prop} (hfl : l.stackTraces = false) (hC : gD p s m args c cL_law 7 RL Z) (hNc : gNc s) (hX : va_X b L xs s s.heap) (hbl : b < s.heap.size) (hbA : ¬ zA Z b) (h1 : vp_in (i + 1) L) (h2 : vp_in (i + 2) L) (h3 : vp_in (i + 3) L) (hk1 : k + 6 ≤ 601024) (hk2 : 6 * (k + 6) ≤ 7293034) (hAg : AgI (f_L_hearing M (xs (i + 1).toNatClampNeg) (xs (i + 2).toNatClampNeg) (xs (i + 3).toNatClampNeg)) (fun M1 => f_X9_hearing M1 (xs (i + 1).toNatClampNeg) (xs (i + 2).toNatClampNeg) (xs (i + 3).toNatClampNeg)) PM) (kk : ∀ M2, PM M2 → gV p l e room_1 s m args below meth c 7 Z Q (k + 6) M2 3558 [(0, .ref b), (1, .ref (zad Z 0)), (2, .ref (zad Z 9)), (3, .ref (zad Z 10)), (4, .int i)] []) : gV p l e room_1 s m args below meth c 7 Z Q k M 1794 [(0, .ref b), (1, .ref (zad Z 0)), (2, .ref (zad Z 9)), (3, .ref (zad Z 10)), (4, .int i)] [] := by
  obtain ⟨v, M1, b0, M2, hr1, hr2, h9, hout, hPM⟩ := hAg
  dsimp only at hr2
  refine v_aload_n hC 1 dL_law_1794 rfl rfl ?_
  refine v_aload_n hC 0 dL_law_1795 rfl rfl ?_
  refine v_iload hC 4 dL_law_1796 rfl ?_
  refine v_iconst hC (v := 1) dL_law_1798 (by decide) ?_
  refine v_iadd hC dL_law_1799 ?_
  refine v_sld hC hX hbl hbA h1 dL_law_1800 ?_
  refine v_aload_n hC 0 dL_law_1801 rfl rfl ?_
  refine v_iload hC 4 dL_law_1802 rfl ?_
  refine v_iconst hC (v := 2) dL_law_1804 (by decide) ?_
  refine v_iadd hC dL_law_1805 ?_
  refine v_sld hC hX hbl hbA h2 dL_law_1806 ?_
  refine v_aload_n hC 0 dL_law_1807 rfl rfl ?_
  refine v_iload hC 4 dL_law_1808 rfl ?_
  refine v_iconst hC (v := 3) dL_law_1810 (by decide) ?_
  refine v_iadd hC dL_law_1811 ?_
  refine v_sld hC hX hbl hbA h3 dL_law_1812 ?_
  refine v_aload_n hC 3 dL_law_1813 rfl rfl ?_
  refine v_callLE (n := 5) hC hr1 [.ref (zad Z 0), .int (xs (i + 1).toNatClampNeg), .int (xs (i + 2).toNatClampNeg), .int (xs (i + 3).toNatClampNeg), .ref (zad Z 10)] hNc (fun hne => c_L_hearing hfl Z M (xs (i + 1).toNatClampNeg) (xs (i + 2).toNatClampNeg) (xs (i + 3).toNatClampNeg) hne) ll_259 mw_L_hearing.1 mw_L_hearing.2.1 mw_L_hearing.2.2 ⟨by decide, by decide, by decide +kernel⟩ rfl rfl ⟨by decide, by decide⟩ rfl rfl (Nat.le_of_ble_eq_true rfl) (by show _ ≤ 601024; omega) (by show _ ≤ 7293034; omega) dL_law_1814 ?_
  refine v_istore hC (lv1 := [(5, .int v), (0, .ref b), (1, .ref (zad Z 0)), (2, .ref (zad Z 9)), (3, .ref (zad Z 10)), (4, .int i)]) dL_law_1817 (by decide) rfl ?_
  refine v_aload_n hC 3 dL_law_1819 rfl rfl ?_
  refine v_aload_n hC 1 dL_law_1820 rfl rfl ?_
  refine v_iload hC 5 dL_law_1821 rfl ?_
  refine v_iconst hC (v := 1) dL_law_1823 (by decide) ?_
  refine v_iadd hC dL_law_1824 ?_
  refine v_sld hC hX hbl hbA h1 dL_law_1825 ?_
  refine v_aload_n hC 1 dL_law_1826 rfl rfl ?_
  refine v_iload hC 5 dL_law_1827 rfl ?_
  refine v_iconst hC (v := 2) dL_law_1829 (by decide) ?_
  refine v_iadd hC dL_law_1830 ?_
  refine v_sld hC hX hbl hbA h2 dL_law_1831 ?_
  refine v_aload_n hC 1 dL_law_1832 rfl rfl ?_
  refine v_iload hC 5 dL_law_1833 rfl ?_
  refine v_iconst hC (v := 3) dL_law_1835 (by decide) ?_
  refine v_iadd hC dL_law_1836 ?_
  refine v_sld hC hX hbl hbA h3 dL_law_1837 ?_
  refine v_callEi (n := 3) hC hr2 [.int (xs (i + 1).toNatClampNeg), .int (xs (i + 2).toNatClampNeg), .int (xs (i + 3).toNatClampNeg)] 9 9 (by decide) rfl rfl (fun hne => c_X9_hearing hfl Z M1 (xs (i + 1).toNatClampNeg) (xs (i + 2).toNatClampNeg) (xs (i + 3).toNatClampNeg) hne) ll_261 mw_X9_hearing.1 mw_X9_hearing.2.1 mw_X9_hearing.2.2.1 mw_X9_hearing.2.2.2 ⟨rfl, by decide, by decide, by decide +kernel⟩ rfl rfl ⟨by decide, by decide⟩ rfl rfl (Nat.le_of_ble_eq_true rfl) (by show _ ≤ 601024; omega) (by show _ ≤ 7293034; omega) dL_law_1838 ?_
  refine v_istore hC (lv1 := [(6, .int b0), (5, .int v), (0, .ref b), (1, .ref (zad Z 0)), (2, .ref (zad Z 9)), (3, .ref (zad Z 10)), (4, .int i)]) dL_law_1841 (by decide) rfl ?_
  refine v_aload_n hC 4 dL_law_1843 rfl rfl ?_
  refine v_callEi (n := 0) hC (rfl : f_X9_thrown M2 = rRet (M2 9 0) M2) [] 9 9 (by decide) rfl rfl (fun hne => c_X9_thrown hfl Z M2  hne) ll_184 mw_X9_thrown.1 mw_X9_thrown.2.1 mw_X9_thrown.2.2.1 mw_X9_thrown.2.2.2 ⟨rfl, by decide, by decide, by decide +kernel⟩ rfl rfl ⟨by decide, by decide⟩ rfl rfl (Nat.le_of_ble_eq_true rfl) (by show _ ≤ 601024; omega) (by show _ ≤ 7293034; omega) dL_law_1844 ?_
  refine v_iload hC 1 dL_law_1847 rfl ?_
  refine v_icmp_eq (tgt := 1854) hC dL_law_1849 (by decide) (fun _ => ?_) (fun h => absurd h9 h)
  refine v_iload hC 1 dL_law_1854 rfl ?_
  refine v_if_ne (tgt := 1871) hC dL_law_1856 (by decide) (fun _ => ?_) (fun hv0 => ?_)
  · refine v_goto (tgt := 3558) hC dL_law_1871 (by decide) ?_
    refine v_sub (lv1 := [(0, .ref b), (1, .ref (zad Z 0)), (2, .ref (zad Z 9)), (3, .ref (zad Z 10)), (4, .int i)]) [2, 3, 4, 5, 6] rfl ?_
    refine v_widen (k1 := k + 6) (by omega) ?_
    exact kk M2 hPM
  · skip
    refine v_aload_n hC 5 dL_law_1859 rfl rfl ?_
    refine v_iconst hC (v := 0) dL_law_1860 (by decide) ?_
    refine v_lald hC dL_law_1861 ?_
    refine v_iload hC 0 dL_law_1862 rfl ?_
    refine v_i2l hC dL_law_1864 ?_
    refine v_lcmp hC dL_law_1865 ?_
    refine v_if_eq (tgt := 1871) hC dL_law_1866 (by decide) (fun _ => ?_) (fun h => absurd (lg_cmp_self (by rw [hout hv0])) h)
    refine v_goto (tgt := 3558) hC dL_law_1871 (by decide) ?_
    refine v_sub (lv1 := [(0, .ref b), (1, .ref (zad Z 0)), (2, .ref (zad Z 9)), (3, .ref (zad Z 10)), (4, .int i)]) [2, 3, 4, 5, 6] rfl ?_
    refine v_widen (k1 := k + 6) (by omega) ?_
    exact kk M2 hPM
set_option maxRecDepth 20000 in
set_option maxHeartbeats 4000000 in
theorem lawc_24 {p : Program} {l : Launch} {e : Env} {s : State} {m : MethodId} {args : Array Value} {below : List Frame} {meth : Method} {c : Code} {Z : gZ} {Q : State → Prop} {k : Nat} {M : gM} {b L : Nat} {xs : Nat → Int32} {i : Int32} {PM : gM → Prop} (hfl : l.stackTraces = false) (hC : gD p s m args c cL_law 7 RL Z) (hNc : gNc s) (hX : va_X b L xs s s.heap) (hbl : b < s.heap.size) (hbA : ¬ zA Z b) (h1 : vp_in (i + 1) L) (hk1 : k + 6 ≤ 601024) (hk2 : 6 * (k + 6) ≤ 7293034) (hAg : AgI (f_L_continueHearing M (xs (i + 1).toNatClampNeg)) (fun M1 => f_X9_continueHearing M1 (xs (i + 1).toNatClampNeg)) PM) (kk : ∀ M2, PM M2 → gV p l e room_1 s m args below meth c 7 Z Q (k + 6) M2 3558 [(0, .ref b), (1, .ref (zad Z 0)), (2, .ref (zad Z 9)), (3, .ref (zad Z 10)), (4, .int i)] []) : gV p l e room_1 s m args below meth c 7 Z Q k M 1874 [(0, .ref b), (1, .ref (zad Z 0)), (2, .ref (zad Z 9)), (3, .ref (zad Z 10)), (4, .int i)] [] := by
  obtain ⟨v, M1, b0, M2, hr1, hr2, h9, hout, hPM⟩ := hAg
  dsimp only at hr2
  refine v_aload_n hC 1 dL_law_1874 rfl rfl ?_
  refine v_aload_n hC 0 dL_law_1875 rfl rfl ?_
  refine v_iload hC 4 dL_law_1876 rfl ?_
  refine v_iconst hC (v := 1) dL_law_1878 (by decide) ?_
  refine v_iadd hC dL_law_1879 ?_
  refine v_sld hC hX hbl hbA h1 dL_law_1880 ?_
  refine v_aload_n hC 3 dL_law_1881 rfl rfl ?_
  refine v_callLE (n := 3) hC hr1 [.ref (zad Z 0), .int (xs (i + 1).toNatClampNeg), .ref (zad Z 10)] hNc (fun hne => c_L_continueHearing hfl Z M (xs (i + 1).toNatClampNeg) hne) ll_262 mw_L_continueHearing.1 mw_L_continueHearing.2.1 mw_L_continueHearing.2.2 ⟨by decide, by decide, by decide +kernel⟩ rfl rfl ⟨by decide, by decide⟩ rfl rfl (Nat.le_of_ble_eq_true rfl) (by show _ ≤ 601024; omega) (by show _ ≤ 7293034; omega) dL_law_1882 ?_
  refine v_istore hC (lv1 := [(5, .int v), (0, .ref b), (1, .ref (zad Z 0)), (2, .ref (zad Z 9)), (3, .ref (zad Z 10)), (4, .int i)]) dL_law_1885 (by decide) rfl ?_
  refine v_aload_n hC 3 dL_law_1887 rfl rfl ?_
  refine v_aload_n hC 1 dL_law_1888 rfl rfl ?_
  refine v_iload hC 5 dL_law_1889 rfl ?_
  refine v_iconst hC (v := 1) dL_law_1891 (by decide) ?_
  refine v_iadd hC dL_law_1892 ?_
  refine v_sld hC hX hbl hbA h1 dL_law_1893 ?_
  refine v_callEi (n := 1) hC hr2 [.int (xs (i + 1).toNatClampNeg)] 9 9 (by decide) rfl rfl (fun hne => c_X9_continueHearing hfl Z M1 (xs (i + 1).toNatClampNeg) hne) ll_264 mw_X9_continueHearing.1 mw_X9_continueHearing.2.1 mw_X9_continueHearing.2.2.1 mw_X9_continueHearing.2.2.2 ⟨rfl, by decide, by decide, by decide +kernel⟩ rfl rfl ⟨by decide, by decide⟩ rfl rfl (Nat.le_of_ble_eq_true rfl) (by show _ ≤ 601024; omega) (by show _ ≤ 7293034; omega) dL_law_1894 ?_
  refine v_istore hC (lv1 := [(6, .int b0), (5, .int v), (0, .ref b), (1, .ref (zad Z 0)), (2, .ref (zad Z 9)), (3, .ref (zad Z 10)), (4, .int i)]) dL_law_1897 (by decide) rfl ?_
  refine v_aload_n hC 4 dL_law_1899 rfl rfl ?_
  refine v_callEi (n := 0) hC (rfl : f_X9_thrown M2 = rRet (M2 9 0) M2) [] 9 9 (by decide) rfl rfl (fun hne => c_X9_thrown hfl Z M2  hne) ll_184 mw_X9_thrown.1 mw_X9_thrown.2.1 mw_X9_thrown.2.2.1 mw_X9_thrown.2.2.2 ⟨rfl, by decide, by decide, by decide +kernel⟩ rfl rfl ⟨by decide, by decide⟩ rfl rfl (Nat.le_of_ble_eq_true rfl) (by show _ ≤ 601024; omega) (by show _ ≤ 7293034; omega) dL_law_1900 ?_
  refine v_iload hC 1 dL_law_1903 rfl ?_
  refine v_icmp_eq (tgt := 1910) hC dL_law_1905 (by decide) (fun _ => ?_) (fun h => absurd h9 h)
  refine v_iload hC 1 dL_law_1910 rfl ?_
  refine v_if_ne (tgt := 1927) hC dL_law_1912 (by decide) (fun _ => ?_) (fun hv0 => ?_)
  · refine v_goto (tgt := 3558) hC dL_law_1927 (by decide) ?_
    refine v_sub (lv1 := [(0, .ref b), (1, .ref (zad Z 0)), (2, .ref (zad Z 9)), (3, .ref (zad Z 10)), (4, .int i)]) [2, 3, 4, 5, 6] rfl ?_
    refine v_widen (k1 := k + 6) (by omega) ?_
    exact kk M2 hPM
  · skip
    refine v_aload_n hC 5 dL_law_1915 rfl rfl ?_
    refine v_iconst hC (v := 0) dL_law_1916 (by decide) ?_
    refine v_lald hC dL_law_1917 ?_
    refine v_iload hC 0 dL_law_1918 rfl ?_
    refine v_i2l hC dL_law_1920 ?_
    refine v_lcmp hC dL_law_1921 ?_
    refine v_if_eq (tgt := 1927) hC dL_law_1922 (by decide) (fun _ => ?_) (fun h => absurd (lg_cmp_self (by rw [hout hv0])) h)
    refine v_goto (tgt := 3558) hC dL_law_1927 (by decide) ?_
    refine v_sub (lv1 := [(0, .ref b), (1, .ref (zad Z 0)), (2, .ref (zad Z 9)), (3, .ref (zad Z 10)), (4, .int i)]) [2, 3, 4, 5, 6] rfl ?_
    refine v_widen (k1 := k + 6) (by omega) ?_
    exact kk M2 hPM
set_option maxRecDepth 20000 in
set_option maxHeartbeats 4000000 in
theorem lawc_25 {p : Program} {l : Launch} {e : Env} {s : State} {m : MethodId} {args : Array Value} {below : List Frame} {meth : Method} {c : Code} {Z : gZ} {Q : State → Prop} {k : Nat} {M : gM} {b L : Nat} {xs : Nat → Int32} {i : Int32} {PM : gM → Prop} (hfl : l.stackTraces = false) (hC : gD p s m args c cL_law 7 RL Z) (hNc : gNc s) (hX : va_X b L xs s s.heap) (hbl : b < s.heap.size) (hbA : ¬ zA Z b) (h1 : vp_in (i + 1) L) (h2 : vp_in (i + 2) L) (h3 : vp_in (i + 3) L) (hk1 : k + 6 ≤ 601024) (hk2 : 6 * (k + 6) ≤ 7293034) (hAg : AgI (f_L_strike M (xs (i + 1).toNatClampNeg) (xs (i + 2).toNatClampNeg) (xs (i + 3).toNatClampNeg)) (fun M1 => f_X9_strike M1 (xs (i + 1).toNatClampNeg) (xs (i + 2).toNatClampNeg) (xs (i + 3).toNatClampNeg)) PM) (kk : ∀ M2, PM M2 → gV p l e room_1 s m args below meth c 7 Z Q (k + 6) M2 3558 [(0, .ref b), (1, .ref (zad Z 0)), (2, .ref (zad Z 9)), (3, .ref (zad Z 10)), (4, .int i)] []) : gV p l e room_1 s m args below meth c 7 Z Q k M 1930 [(0, .ref b), (1, .ref (zad Z 0)), (2, .ref (zad Z 9)), (3, .ref (zad Z 10)), (4, .int i)] [] := by
  obtain ⟨v, M1, b0, M2, hr1, hr2, h9, hout, hPM⟩ := hAg
  dsimp only at hr2
  refine v_aload_n hC 1 dL_law_1930 rfl rfl ?_
  refine v_aload_n hC 0 dL_law_1931 rfl rfl ?_
  refine v_iload hC 4 dL_law_1932 rfl ?_
  refine v_iconst hC (v := 1) dL_law_1934 (by decide) ?_
  refine v_iadd hC dL_law_1935 ?_
  refine v_sld hC hX hbl hbA h1 dL_law_1936 ?_
  refine v_aload_n hC 0 dL_law_1937 rfl rfl ?_
  refine v_iload hC 4 dL_law_1938 rfl ?_
  refine v_iconst hC (v := 2) dL_law_1940 (by decide) ?_
  refine v_iadd hC dL_law_1941 ?_
  refine v_sld hC hX hbl hbA h2 dL_law_1942 ?_
  refine v_aload_n hC 0 dL_law_1943 rfl rfl ?_
  refine v_iload hC 4 dL_law_1944 rfl ?_
  refine v_iconst hC (v := 3) dL_law_1946 (by decide) ?_
  refine v_iadd hC dL_law_1947 ?_
  refine v_sld hC hX hbl hbA h3 dL_law_1948 ?_
  refine v_aload_n hC 3 dL_law_1949 rfl rfl ?_
  refine v_callLE (n := 5) hC hr1 [.ref (zad Z 0), .int (xs (i + 1).toNatClampNeg), .int (xs (i + 2).toNatClampNeg), .int (xs (i + 3).toNatClampNeg), .ref (zad Z 10)] hNc (fun hne => c_L_strike hfl Z M (xs (i + 1).toNatClampNeg) (xs (i + 2).toNatClampNeg) (xs (i + 3).toNatClampNeg) hne) ll_265 mw_L_strike.1 mw_L_strike.2.1 mw_L_strike.2.2 ⟨by decide, by decide, by decide +kernel⟩ rfl rfl ⟨by decide, by decide⟩ rfl rfl (Nat.le_of_ble_eq_true rfl) (by show _ ≤ 601024; omega) (by show _ ≤ 7293034; omega) dL_law_1950 ?_
  refine v_istore hC (lv1 := [(5, .int v), (0, .ref b), (1, .ref (zad Z 0)), (2, .ref (zad Z 9)), (3, .ref (zad Z 10)), (4, .int i)]) dL_law_1953 (by decide) rfl ?_
  refine v_aload_n hC 3 dL_law_1955 rfl rfl ?_
  refine v_aload_n hC 1 dL_law_1956 rfl rfl ?_
  refine v_iload hC 5 dL_law_1957 rfl ?_
  refine v_iconst hC (v := 1) dL_law_1959 (by decide) ?_
  refine v_iadd hC dL_law_1960 ?_
  refine v_sld hC hX hbl hbA h1 dL_law_1961 ?_
  refine v_aload_n hC 1 dL_law_1962 rfl rfl ?_
  refine v_iload hC 5 dL_law_1963 rfl ?_
  refine v_iconst hC (v := 2) dL_law_1965 (by decide) ?_
  refine v_iadd hC dL_law_1966 ?_
  refine v_sld hC hX hbl hbA h2 dL_law_1967 ?_
  refine v_aload_n hC 1 dL_law_1968 rfl rfl ?_
  refine v_iload hC 5 dL_law_1969 rfl ?_
  refine v_iconst hC (v := 3) dL_law_1971 (by decide) ?_
  refine v_iadd hC dL_law_1972 ?_
  refine v_sld hC hX hbl hbA h3 dL_law_1973 ?_
  refine v_callEi (n := 3) hC hr2 [.int (xs (i + 1).toNatClampNeg), .int (xs (i + 2).toNatClampNeg), .int (xs (i + 3).toNatClampNeg)] 9 9 (by decide) rfl rfl (fun hne => c_X9_strike hfl Z M1 (xs (i + 1).toNatClampNeg) (xs (i + 2).toNatClampNeg) (xs (i + 3).toNatClampNeg) hne) ll_267 mw_X9_strike.1 mw_X9_strike.2.1 mw_X9_strike.2.2.1 mw_X9_strike.2.2.2 ⟨rfl, by decide, by decide, by decide +kernel⟩ rfl rfl ⟨by decide, by decide⟩ rfl rfl (Nat.le_of_ble_eq_true rfl) (by show _ ≤ 601024; omega) (by show _ ≤ 7293034; omega) dL_law_1974 ?_
  refine v_istore hC (lv1 := [(6, .int b0), (5, .int v), (0, .ref b), (1, .ref (zad Z 0)), (2, .ref (zad Z 9)), (3, .ref (zad Z 10)), (4, .int i)]) dL_law_1977 (by decide) rfl ?_
  refine v_aload_n hC 4 dL_law_1979 rfl rfl ?_
  refine v_callEi (n := 0) hC (rfl : f_X9_thrown M2 = rRet (M2 9 0) M2) [] 9 9 (by decide) rfl rfl (fun hne => c_X9_thrown hfl Z M2  hne) ll_184 mw_X9_thrown.1 mw_X9_thrown.2.1 mw_X9_thrown.2.2.1 mw_X9_thrown.2.2.2 ⟨rfl, by decide, by decide, by decide +kernel⟩ rfl rfl ⟨by decide, by decide⟩ rfl rfl (Nat.le_of_ble_eq_true rfl) (by show _ ≤ 601024; omega) (by show _ ≤ 7293034; omega) dL_law_1980 ?_
  refine v_iload hC 1 dL_law_1983 rfl ?_
  refine v_icmp_eq (tgt := 1990) hC dL_law_1985 (by decide) (fun _ => ?_) (fun h => absurd h9 h)
  refine v_iload hC 1 dL_law_1990 rfl ?_
  refine v_if_ne (tgt := 2007) hC dL_law_1992 (by decide) (fun _ => ?_) (fun hv0 => ?_)
  · refine v_goto (tgt := 3558) hC dL_law_2007 (by decide) ?_
    refine v_sub (lv1 := [(0, .ref b), (1, .ref (zad Z 0)), (2, .ref (zad Z 9)), (3, .ref (zad Z 10)), (4, .int i)]) [2, 3, 4, 5, 6] rfl ?_
    refine v_widen (k1 := k + 6) (by omega) ?_
    exact kk M2 hPM
  · skip
    refine v_aload_n hC 5 dL_law_1995 rfl rfl ?_
    refine v_iconst hC (v := 0) dL_law_1996 (by decide) ?_
    refine v_lald hC dL_law_1997 ?_
    refine v_iload hC 0 dL_law_1998 rfl ?_
    refine v_i2l hC dL_law_2000 ?_
    refine v_lcmp hC dL_law_2001 ?_
    refine v_if_eq (tgt := 2007) hC dL_law_2002 (by decide) (fun _ => ?_) (fun h => absurd (lg_cmp_self (by rw [hout hv0])) h)
    refine v_goto (tgt := 3558) hC dL_law_2007 (by decide) ?_
    refine v_sub (lv1 := [(0, .ref b), (1, .ref (zad Z 0)), (2, .ref (zad Z 9)), (3, .ref (zad Z 10)), (4, .int i)]) [2, 3, 4, 5, 6] rfl ?_
    refine v_widen (k1 := k + 6) (by omega) ?_
    exact kk M2 hPM
set_option maxRecDepth 20000 in
set_option maxHeartbeats 4000000 in
theorem lawc_26 {p : Program} {l : Launch} {e : Env} {s : State} {m : MethodId} {args : Array Value} {below : List Frame} {meth : Method} {c : Code} {Z : gZ} {Q : State → Prop} {k : Nat} {M : gM} {b L : Nat} {xs : Nat → Int32} {i : Int32} {PM : gM → Prop} (hfl : l.stackTraces = false) (hC : gD p s m args c cL_law 7 RL Z) (hNc : gNc s) (hX : va_X b L xs s s.heap) (hbl : b < s.heap.size) (hbA : ¬ zA Z b) (h1 : vp_in (i + 1) L) (h2 : vp_in (i + 2) L) (hk1 : k + 6 ≤ 601024) (hk2 : 6 * (k + 6) ≤ 7293034) (hAg : AgI (f_L_dismiss M (xs (i + 1).toNatClampNeg) (xs (i + 2).toNatClampNeg)) (fun M1 => f_X9_dismiss M1 (xs (i + 1).toNatClampNeg) (xs (i + 2).toNatClampNeg)) PM) (kk : ∀ M2, PM M2 → gV p l e room_1 s m args below meth c 7 Z Q (k + 6) M2 3558 [(0, .ref b), (1, .ref (zad Z 0)), (2, .ref (zad Z 9)), (3, .ref (zad Z 10)), (4, .int i)] []) : gV p l e room_1 s m args below meth c 7 Z Q k M 2010 [(0, .ref b), (1, .ref (zad Z 0)), (2, .ref (zad Z 9)), (3, .ref (zad Z 10)), (4, .int i)] [] := by
  obtain ⟨v, M1, b0, M2, hr1, hr2, h9, hout, hPM⟩ := hAg
  dsimp only at hr2
  refine v_aload_n hC 1 dL_law_2010 rfl rfl ?_
  refine v_aload_n hC 0 dL_law_2011 rfl rfl ?_
  refine v_iload hC 4 dL_law_2012 rfl ?_
  refine v_iconst hC (v := 1) dL_law_2014 (by decide) ?_
  refine v_iadd hC dL_law_2015 ?_
  refine v_sld hC hX hbl hbA h1 dL_law_2016 ?_
  refine v_aload_n hC 0 dL_law_2017 rfl rfl ?_
  refine v_iload hC 4 dL_law_2018 rfl ?_
  refine v_iconst hC (v := 2) dL_law_2020 (by decide) ?_
  refine v_iadd hC dL_law_2021 ?_
  refine v_sld hC hX hbl hbA h2 dL_law_2022 ?_
  refine v_aload_n hC 3 dL_law_2023 rfl rfl ?_
  refine v_callLE (n := 4) hC hr1 [.ref (zad Z 0), .int (xs (i + 1).toNatClampNeg), .int (xs (i + 2).toNatClampNeg), .ref (zad Z 10)] hNc (fun hne => c_L_dismiss hfl Z M (xs (i + 1).toNatClampNeg) (xs (i + 2).toNatClampNeg) hne) ll_268 mw_L_dismiss.1 mw_L_dismiss.2.1 mw_L_dismiss.2.2 ⟨by decide, by decide, by decide +kernel⟩ rfl rfl ⟨by decide, by decide⟩ rfl rfl (Nat.le_of_ble_eq_true rfl) (by show _ ≤ 601024; omega) (by show _ ≤ 7293034; omega) dL_law_2024 ?_
  refine v_istore hC (lv1 := [(5, .int v), (0, .ref b), (1, .ref (zad Z 0)), (2, .ref (zad Z 9)), (3, .ref (zad Z 10)), (4, .int i)]) dL_law_2027 (by decide) rfl ?_
  refine v_aload_n hC 3 dL_law_2029 rfl rfl ?_
  refine v_aload_n hC 1 dL_law_2030 rfl rfl ?_
  refine v_iload hC 5 dL_law_2031 rfl ?_
  refine v_iconst hC (v := 1) dL_law_2033 (by decide) ?_
  refine v_iadd hC dL_law_2034 ?_
  refine v_sld hC hX hbl hbA h1 dL_law_2035 ?_
  refine v_aload_n hC 1 dL_law_2036 rfl rfl ?_
  refine v_iload hC 5 dL_law_2037 rfl ?_
  refine v_iconst hC (v := 2) dL_law_2039 (by decide) ?_
  refine v_iadd hC dL_law_2040 ?_
  refine v_sld hC hX hbl hbA h2 dL_law_2041 ?_
  refine v_callEi (n := 2) hC hr2 [.int (xs (i + 1).toNatClampNeg), .int (xs (i + 2).toNatClampNeg)] 9 9 (by decide) rfl rfl (fun hne => c_X9_dismiss hfl Z M1 (xs (i + 1).toNatClampNeg) (xs (i + 2).toNatClampNeg) hne) ll_270 mw_X9_dismiss.1 mw_X9_dismiss.2.1 mw_X9_dismiss.2.2.1 mw_X9_dismiss.2.2.2 ⟨rfl, by decide, by decide, by decide +kernel⟩ rfl rfl ⟨by decide, by decide⟩ rfl rfl (Nat.le_of_ble_eq_true rfl) (by show _ ≤ 601024; omega) (by show _ ≤ 7293034; omega) dL_law_2042 ?_
  refine v_istore hC (lv1 := [(6, .int b0), (5, .int v), (0, .ref b), (1, .ref (zad Z 0)), (2, .ref (zad Z 9)), (3, .ref (zad Z 10)), (4, .int i)]) dL_law_2045 (by decide) rfl ?_
  refine v_aload_n hC 4 dL_law_2047 rfl rfl ?_
  refine v_callEi (n := 0) hC (rfl : f_X9_thrown M2 = rRet (M2 9 0) M2) [] 9 9 (by decide) rfl rfl (fun hne => c_X9_thrown hfl Z M2  hne) ll_184 mw_X9_thrown.1 mw_X9_thrown.2.1 mw_X9_thrown.2.2.1 mw_X9_thrown.2.2.2 ⟨rfl, by decide, by decide, by decide +kernel⟩ rfl rfl ⟨by decide, by decide⟩ rfl rfl (Nat.le_of_ble_eq_true rfl) (by show _ ≤ 601024; omega) (by show _ ≤ 7293034; omega) dL_law_2048 ?_
  refine v_iload hC 1 dL_law_2051 rfl ?_
  refine v_icmp_eq (tgt := 2058) hC dL_law_2053 (by decide) (fun _ => ?_) (fun h => absurd h9 h)
  refine v_iload hC 1 dL_law_2058 rfl ?_
  refine v_if_ne (tgt := 2075) hC dL_law_2060 (by decide) (fun _ => ?_) (fun hv0 => ?_)
  · refine v_goto (tgt := 3558) hC dL_law_2075 (by decide) ?_
    refine v_sub (lv1 := [(0, .ref b), (1, .ref (zad Z 0)), (2, .ref (zad Z 9)), (3, .ref (zad Z 10)), (4, .int i)]) [2, 3, 4, 5, 6] rfl ?_
    refine v_widen (k1 := k + 6) (by omega) ?_
    exact kk M2 hPM
  · skip
    refine v_aload_n hC 5 dL_law_2063 rfl rfl ?_
    refine v_iconst hC (v := 0) dL_law_2064 (by decide) ?_
    refine v_lald hC dL_law_2065 ?_
    refine v_iload hC 0 dL_law_2066 rfl ?_
    refine v_i2l hC dL_law_2068 ?_
    refine v_lcmp hC dL_law_2069 ?_
    refine v_if_eq (tgt := 2075) hC dL_law_2070 (by decide) (fun _ => ?_) (fun h => absurd (lg_cmp_self (by rw [hout hv0])) h)
    refine v_goto (tgt := 3558) hC dL_law_2075 (by decide) ?_
    refine v_sub (lv1 := [(0, .ref b), (1, .ref (zad Z 0)), (2, .ref (zad Z 9)), (3, .ref (zad Z 10)), (4, .int i)]) [2, 3, 4, 5, 6] rfl ?_
    refine v_widen (k1 := k + 6) (by omega) ?_
    exact kk M2 hPM
set_option maxRecDepth 20000 in
set_option maxHeartbeats 4000000 in
theorem lawc_27 {p : Program} {l : Launch} {e : Env} {s : State} {m : MethodId} {args : Array Value} {below : List Frame} {meth : Method} {c : Code} {Z : gZ} {Q : State → Prop} {k : Nat} {M : gM} {b L : Nat} {xs : Nat → Int32} {i : Int32} {PM : gM → Prop} (hfl : l.stackTraces = false) (hC : gD p s m args c cL_law 7 RL Z) (hNc : gNc s) (hX : va_X b L xs s s.heap) (hbl : b < s.heap.size) (hbA : ¬ zA Z b) (h1 : vp_in (i + 1) L) (h2 : vp_in (i + 2) L) (hk1 : k + 6 ≤ 601024) (hk2 : 6 * (k + 6) ≤ 7293034) (hAg : AgI (f_L_seat M (xs (i + 1).toNatClampNeg) (xs (i + 2).toNatClampNeg)) (fun M1 => f_X9_seat M1 (xs (i + 1).toNatClampNeg) (xs (i + 2).toNatClampNeg)) PM) (kk : ∀ M2, PM M2 → gV p l e room_1 s m args below meth c 7 Z Q (k + 6) M2 3558 [(0, .ref b), (1, .ref (zad Z 0)), (2, .ref (zad Z 9)), (3, .ref (zad Z 10)), (4, .int i)] []) : gV p l e room_1 s m args below meth c 7 Z Q k M 2078 [(0, .ref b), (1, .ref (zad Z 0)), (2, .ref (zad Z 9)), (3, .ref (zad Z 10)), (4, .int i)] [] := by
  obtain ⟨v, M1, b0, M2, hr1, hr2, h9, hout, hPM⟩ := hAg
  dsimp only at hr2
  refine v_aload_n hC 1 dL_law_2078 rfl rfl ?_
  refine v_aload_n hC 0 dL_law_2079 rfl rfl ?_
  refine v_iload hC 4 dL_law_2080 rfl ?_
  refine v_iconst hC (v := 1) dL_law_2082 (by decide) ?_
  refine v_iadd hC dL_law_2083 ?_
  refine v_sld hC hX hbl hbA h1 dL_law_2084 ?_
  refine v_aload_n hC 0 dL_law_2085 rfl rfl ?_
  refine v_iload hC 4 dL_law_2086 rfl ?_
  refine v_iconst hC (v := 2) dL_law_2088 (by decide) ?_
  refine v_iadd hC dL_law_2089 ?_
  refine v_sld hC hX hbl hbA h2 dL_law_2090 ?_
  refine v_aload_n hC 3 dL_law_2091 rfl rfl ?_
  refine v_callLE (n := 4) hC hr1 [.ref (zad Z 0), .int (xs (i + 1).toNatClampNeg), .int (xs (i + 2).toNatClampNeg), .ref (zad Z 10)] hNc (fun hne => c_L_seat hfl Z M (xs (i + 1).toNatClampNeg) (xs (i + 2).toNatClampNeg) hne) ll_271 mw_L_seat.1 mw_L_seat.2.1 mw_L_seat.2.2 ⟨by decide, by decide, by decide +kernel⟩ rfl rfl ⟨by decide, by decide⟩ rfl rfl (Nat.le_of_ble_eq_true rfl) (by show _ ≤ 601024; omega) (by show _ ≤ 7293034; omega) dL_law_2092 ?_
  refine v_istore hC (lv1 := [(5, .int v), (0, .ref b), (1, .ref (zad Z 0)), (2, .ref (zad Z 9)), (3, .ref (zad Z 10)), (4, .int i)]) dL_law_2095 (by decide) rfl ?_
  refine v_aload_n hC 3 dL_law_2097 rfl rfl ?_
  refine v_aload_n hC 1 dL_law_2098 rfl rfl ?_
  refine v_iload hC 5 dL_law_2099 rfl ?_
  refine v_iconst hC (v := 1) dL_law_2101 (by decide) ?_
  refine v_iadd hC dL_law_2102 ?_
  refine v_sld hC hX hbl hbA h1 dL_law_2103 ?_
  refine v_aload_n hC 1 dL_law_2104 rfl rfl ?_
  refine v_iload hC 5 dL_law_2105 rfl ?_
  refine v_iconst hC (v := 2) dL_law_2107 (by decide) ?_
  refine v_iadd hC dL_law_2108 ?_
  refine v_sld hC hX hbl hbA h2 dL_law_2109 ?_
  refine v_callEi (n := 2) hC hr2 [.int (xs (i + 1).toNatClampNeg), .int (xs (i + 2).toNatClampNeg)] 9 9 (by decide) rfl rfl (fun hne => c_X9_seat hfl Z M1 (xs (i + 1).toNatClampNeg) (xs (i + 2).toNatClampNeg) hne) ll_273 mw_X9_seat.1 mw_X9_seat.2.1 mw_X9_seat.2.2.1 mw_X9_seat.2.2.2 ⟨rfl, by decide, by decide, by decide +kernel⟩ rfl rfl ⟨by decide, by decide⟩ rfl rfl (Nat.le_of_ble_eq_true rfl) (by show _ ≤ 601024; omega) (by show _ ≤ 7293034; omega) dL_law_2110 ?_
  refine v_istore hC (lv1 := [(6, .int b0), (5, .int v), (0, .ref b), (1, .ref (zad Z 0)), (2, .ref (zad Z 9)), (3, .ref (zad Z 10)), (4, .int i)]) dL_law_2113 (by decide) rfl ?_
  refine v_aload_n hC 4 dL_law_2115 rfl rfl ?_
  refine v_callEi (n := 0) hC (rfl : f_X9_thrown M2 = rRet (M2 9 0) M2) [] 9 9 (by decide) rfl rfl (fun hne => c_X9_thrown hfl Z M2  hne) ll_184 mw_X9_thrown.1 mw_X9_thrown.2.1 mw_X9_thrown.2.2.1 mw_X9_thrown.2.2.2 ⟨rfl, by decide, by decide, by decide +kernel⟩ rfl rfl ⟨by decide, by decide⟩ rfl rfl (Nat.le_of_ble_eq_true rfl) (by show _ ≤ 601024; omega) (by show _ ≤ 7293034; omega) dL_law_2116 ?_
  refine v_iload hC 1 dL_law_2119 rfl ?_
  refine v_icmp_eq (tgt := 2126) hC dL_law_2121 (by decide) (fun _ => ?_) (fun h => absurd h9 h)
  refine v_iload hC 1 dL_law_2126 rfl ?_
  refine v_if_ne (tgt := 2143) hC dL_law_2128 (by decide) (fun _ => ?_) (fun hv0 => ?_)
  · refine v_goto (tgt := 3558) hC dL_law_2143 (by decide) ?_
    refine v_sub (lv1 := [(0, .ref b), (1, .ref (zad Z 0)), (2, .ref (zad Z 9)), (3, .ref (zad Z 10)), (4, .int i)]) [2, 3, 4, 5, 6] rfl ?_
    refine v_widen (k1 := k + 6) (by omega) ?_
    exact kk M2 hPM
  · skip
    refine v_aload_n hC 5 dL_law_2131 rfl rfl ?_
    refine v_iconst hC (v := 0) dL_law_2132 (by decide) ?_
    refine v_lald hC dL_law_2133 ?_
    refine v_iload hC 0 dL_law_2134 rfl ?_
    refine v_i2l hC dL_law_2136 ?_
    refine v_lcmp hC dL_law_2137 ?_
    refine v_if_eq (tgt := 2143) hC dL_law_2138 (by decide) (fun _ => ?_) (fun h => absurd (lg_cmp_self (by rw [hout hv0])) h)
    refine v_goto (tgt := 3558) hC dL_law_2143 (by decide) ?_
    refine v_sub (lv1 := [(0, .ref b), (1, .ref (zad Z 0)), (2, .ref (zad Z 9)), (3, .ref (zad Z 10)), (4, .int i)]) [2, 3, 4, 5, 6] rfl ?_
    refine v_widen (k1 := k + 6) (by omega) ?_
    exact kk M2 hPM
set_option maxRecDepth 20000 in
set_option maxHeartbeats 4000000 in
theorem lawc_28 {p : Program} {l : Launch} {e : Env} {s : State} {m : MethodId} {args : Array Value} {below : List Frame} {meth : Method} {c : Code} {Z : gZ} {Q : State → Prop} {k : Nat} {M : gM} {b L : Nat} {xs : Nat → Int32} {i : Int32} {PM : gM → Prop} (hfl : l.stackTraces = false) (hC : gD p s m args c cL_law 7 RL Z) (hNc : gNc s) (hX : va_X b L xs s s.heap) (hbl : b < s.heap.size) (hbA : ¬ zA Z b) (h1 : vp_in (i + 1) L) (h2 : vp_in (i + 2) L) (hk1 : k + 6 ≤ 601024) (hk2 : 6 * (k + 6) ≤ 7293034) (hAg : AgI (f_L_exhibit M (xs (i + 1).toNatClampNeg) (xs (i + 2).toNatClampNeg)) (fun M1 => f_X9_exhibit M1 (xs (i + 1).toNatClampNeg) (xs (i + 2).toNatClampNeg)) PM) (kk : ∀ M2, PM M2 → gV p l e room_1 s m args below meth c 7 Z Q (k + 6) M2 3558 [(0, .ref b), (1, .ref (zad Z 0)), (2, .ref (zad Z 9)), (3, .ref (zad Z 10)), (4, .int i)] []) : gV p l e room_1 s m args below meth c 7 Z Q k M 2146 [(0, .ref b), (1, .ref (zad Z 0)), (2, .ref (zad Z 9)), (3, .ref (zad Z 10)), (4, .int i)] [] := by
  obtain ⟨v, M1, b0, M2, hr1, hr2, h9, hout, hPM⟩ := hAg
  dsimp only at hr2
  refine v_aload_n hC 1 dL_law_2146 rfl rfl ?_
  refine v_aload_n hC 0 dL_law_2147 rfl rfl ?_
  refine v_iload hC 4 dL_law_2148 rfl ?_
  refine v_iconst hC (v := 1) dL_law_2150 (by decide) ?_
  refine v_iadd hC dL_law_2151 ?_
  refine v_sld hC hX hbl hbA h1 dL_law_2152 ?_
  refine v_aload_n hC 0 dL_law_2153 rfl rfl ?_
  refine v_iload hC 4 dL_law_2154 rfl ?_
  refine v_iconst hC (v := 2) dL_law_2156 (by decide) ?_
  refine v_iadd hC dL_law_2157 ?_
  refine v_sld hC hX hbl hbA h2 dL_law_2158 ?_
  refine v_aload_n hC 3 dL_law_2159 rfl rfl ?_
  refine v_callLE (n := 4) hC hr1 [.ref (zad Z 0), .int (xs (i + 1).toNatClampNeg), .int (xs (i + 2).toNatClampNeg), .ref (zad Z 10)] hNc (fun hne => c_L_exhibit hfl Z M (xs (i + 1).toNatClampNeg) (xs (i + 2).toNatClampNeg) hne) ll_274 mw_L_exhibit.1 mw_L_exhibit.2.1 mw_L_exhibit.2.2 ⟨by decide, by decide, by decide +kernel⟩ rfl rfl ⟨by decide, by decide⟩ rfl rfl (Nat.le_of_ble_eq_true rfl) (by show _ ≤ 601024; omega) (by show _ ≤ 7293034; omega) dL_law_2160 ?_
  refine v_istore hC (lv1 := [(5, .int v), (0, .ref b), (1, .ref (zad Z 0)), (2, .ref (zad Z 9)), (3, .ref (zad Z 10)), (4, .int i)]) dL_law_2163 (by decide) rfl ?_
  refine v_aload_n hC 3 dL_law_2165 rfl rfl ?_
  refine v_aload_n hC 1 dL_law_2166 rfl rfl ?_
  refine v_iload hC 5 dL_law_2167 rfl ?_
  refine v_iconst hC (v := 1) dL_law_2169 (by decide) ?_
  refine v_iadd hC dL_law_2170 ?_
  refine v_sld hC hX hbl hbA h1 dL_law_2171 ?_
  refine v_aload_n hC 1 dL_law_2172 rfl rfl ?_
  refine v_iload hC 5 dL_law_2173 rfl ?_
  refine v_iconst hC (v := 2) dL_law_2175 (by decide) ?_
  refine v_iadd hC dL_law_2176 ?_
  refine v_sld hC hX hbl hbA h2 dL_law_2177 ?_
  refine v_callEi (n := 2) hC hr2 [.int (xs (i + 1).toNatClampNeg), .int (xs (i + 2).toNatClampNeg)] 9 9 (by decide) rfl rfl (fun hne => c_X9_exhibit hfl Z M1 (xs (i + 1).toNatClampNeg) (xs (i + 2).toNatClampNeg) hne) ll_276 mw_X9_exhibit.1 mw_X9_exhibit.2.1 mw_X9_exhibit.2.2.1 mw_X9_exhibit.2.2.2 ⟨rfl, by decide, by decide, by decide +kernel⟩ rfl rfl ⟨by decide, by decide⟩ rfl rfl (Nat.le_of_ble_eq_true rfl) (by show _ ≤ 601024; omega) (by show _ ≤ 7293034; omega) dL_law_2178 ?_
  refine v_istore hC (lv1 := [(6, .int b0), (5, .int v), (0, .ref b), (1, .ref (zad Z 0)), (2, .ref (zad Z 9)), (3, .ref (zad Z 10)), (4, .int i)]) dL_law_2181 (by decide) rfl ?_
  refine v_aload_n hC 4 dL_law_2183 rfl rfl ?_
  refine v_callEi (n := 0) hC (rfl : f_X9_thrown M2 = rRet (M2 9 0) M2) [] 9 9 (by decide) rfl rfl (fun hne => c_X9_thrown hfl Z M2  hne) ll_184 mw_X9_thrown.1 mw_X9_thrown.2.1 mw_X9_thrown.2.2.1 mw_X9_thrown.2.2.2 ⟨rfl, by decide, by decide, by decide +kernel⟩ rfl rfl ⟨by decide, by decide⟩ rfl rfl (Nat.le_of_ble_eq_true rfl) (by show _ ≤ 601024; omega) (by show _ ≤ 7293034; omega) dL_law_2184 ?_
  refine v_iload hC 1 dL_law_2187 rfl ?_
  refine v_icmp_eq (tgt := 2194) hC dL_law_2189 (by decide) (fun _ => ?_) (fun h => absurd h9 h)
  refine v_iload hC 1 dL_law_2194 rfl ?_
  refine v_if_ne (tgt := 2211) hC dL_law_2196 (by decide) (fun _ => ?_) (fun hv0 => ?_)
  · refine v_goto (tgt := 3558) hC dL_law_2211 (by decide) ?_
    refine v_sub (lv1 := [(0, .ref b), (1, .ref (zad Z 0)), (2, .ref (zad Z 9)), (3, .ref (zad Z 10)), (4, .int i)]) [2, 3, 4, 5, 6] rfl ?_
    refine v_widen (k1 := k + 6) (by omega) ?_
    exact kk M2 hPM
  · skip
    refine v_aload_n hC 5 dL_law_2199 rfl rfl ?_
    refine v_iconst hC (v := 0) dL_law_2200 (by decide) ?_
    refine v_lald hC dL_law_2201 ?_
    refine v_iload hC 0 dL_law_2202 rfl ?_
    refine v_i2l hC dL_law_2204 ?_
    refine v_lcmp hC dL_law_2205 ?_
    refine v_if_eq (tgt := 2211) hC dL_law_2206 (by decide) (fun _ => ?_) (fun h => absurd (lg_cmp_self (by rw [hout hv0])) h)
    refine v_goto (tgt := 3558) hC dL_law_2211 (by decide) ?_
    refine v_sub (lv1 := [(0, .ref b), (1, .ref (zad Z 0)), (2, .ref (zad Z 9)), (3, .ref (zad Z 10)), (4, .int i)]) [2, 3, 4, 5, 6] rfl ?_
    refine v_widen (k1 := k + 6) (by omega) ?_
    exact kk M2 hPM
set_option maxRecDepth 20000 in
set_option maxHeartbeats 4000000 in
theorem lawc_29 {p : Program} {l : Launch} {e : Env} {s : State} {m : MethodId} {args : Array Value} {below : List Frame} {meth : Method} {c : Code} {Z : gZ} {Q : State → Prop} {k : Nat} {M : gM} {b L : Nat} {xs : Nat → Int32} {i : Int32} {PM : gM → Prop} (hfl : l.stackTraces = false) (hC : gD p s m args c cL_law 7 RL Z) (hNc : gNc s) (hX : va_X b L xs s s.heap) (hbl : b < s.heap.size) (hbA : ¬ zA Z b) (h1 : vp_in (i + 1) L) (h2 : vp_in (i + 2) L) (h3 : vp_in (i + 3) L) (hk1 : k + 6 ≤ 601024) (hk2 : 6 * (k + 6) ≤ 7293034) (hAg : AgB (f_L_hand M (xs (i + 1).toNatClampNeg) (xs (i + 2).toNatClampNeg) (xs (i + 3).toNatClampNeg)) (fun M1 => f_X9_hand M1 (xs (i + 1).toNatClampNeg) (xs (i + 2).toNatClampNeg) (xs (i + 3).toNatClampNeg)) PM) (kk : ∀ M2, PM M2 → gV p l e room_1 s m args below meth c 7 Z Q (k + 6) M2 3558 [(0, .ref b), (1, .ref (zad Z 0)), (2, .ref (zad Z 9)), (3, .ref (zad Z 10)), (4, .int i)] []) : gV p l e room_1 s m args below meth c 7 Z Q k M 2214 [(0, .ref b), (1, .ref (zad Z 0)), (2, .ref (zad Z 9)), (3, .ref (zad Z 10)), (4, .int i)] [] := by
  obtain ⟨v, M1, b0, M2, hr1, hr2, h9, hout, hPM⟩ := hAg
  dsimp only at hr2
  refine v_aload_n hC 1 dL_law_2214 rfl rfl ?_
  refine v_aload_n hC 0 dL_law_2215 rfl rfl ?_
  refine v_iload hC 4 dL_law_2216 rfl ?_
  refine v_iconst hC (v := 1) dL_law_2218 (by decide) ?_
  refine v_iadd hC dL_law_2219 ?_
  refine v_sld hC hX hbl hbA h1 dL_law_2220 ?_
  refine v_aload_n hC 0 dL_law_2221 rfl rfl ?_
  refine v_iload hC 4 dL_law_2222 rfl ?_
  refine v_iconst hC (v := 2) dL_law_2224 (by decide) ?_
  refine v_iadd hC dL_law_2225 ?_
  refine v_sld hC hX hbl hbA h2 dL_law_2226 ?_
  refine v_aload_n hC 0 dL_law_2227 rfl rfl ?_
  refine v_iload hC 4 dL_law_2228 rfl ?_
  refine v_iconst hC (v := 3) dL_law_2230 (by decide) ?_
  refine v_iadd hC dL_law_2231 ?_
  refine v_sld hC hX hbl hbA h3 dL_law_2232 ?_
  refine v_aload_n hC 3 dL_law_2233 rfl rfl ?_
  refine v_callLE (n := 5) hC hr1 [.ref (zad Z 0), .int (xs (i + 1).toNatClampNeg), .int (xs (i + 2).toNatClampNeg), .int (xs (i + 3).toNatClampNeg), .ref (zad Z 10)] hNc (fun hne => c_L_hand hfl Z M (xs (i + 1).toNatClampNeg) (xs (i + 2).toNatClampNeg) (xs (i + 3).toNatClampNeg) hne) ll_277 mw_L_hand.1 mw_L_hand.2.1 mw_L_hand.2.2 ⟨by decide, by decide, by decide +kernel⟩ rfl rfl ⟨by decide, by decide⟩ rfl rfl (Nat.le_of_ble_eq_true rfl) (by show _ ≤ 601024; omega) (by show _ ≤ 7293034; omega) dL_law_2234 ?_
  refine v_istore hC (lv1 := [(5, .int v), (0, .ref b), (1, .ref (zad Z 0)), (2, .ref (zad Z 9)), (3, .ref (zad Z 10)), (4, .int i)]) dL_law_2237 (by decide) rfl ?_
  refine v_aload_n hC 3 dL_law_2239 rfl rfl ?_
  refine v_aload_n hC 1 dL_law_2240 rfl rfl ?_
  refine v_iload hC 5 dL_law_2241 rfl ?_
  refine v_iconst hC (v := 1) dL_law_2243 (by decide) ?_
  refine v_iadd hC dL_law_2244 ?_
  refine v_sld hC hX hbl hbA h1 dL_law_2245 ?_
  refine v_aload_n hC 1 dL_law_2246 rfl rfl ?_
  refine v_iload hC 5 dL_law_2247 rfl ?_
  refine v_iconst hC (v := 2) dL_law_2249 (by decide) ?_
  refine v_iadd hC dL_law_2250 ?_
  refine v_sld hC hX hbl hbA h2 dL_law_2251 ?_
  refine v_aload_n hC 1 dL_law_2252 rfl rfl ?_
  refine v_iload hC 5 dL_law_2253 rfl ?_
  refine v_iconst hC (v := 3) dL_law_2255 (by decide) ?_
  refine v_iadd hC dL_law_2256 ?_
  refine v_sld hC hX hbl hbA h3 dL_law_2257 ?_
  refine v_callEi (n := 3) hC hr2 [.int (xs (i + 1).toNatClampNeg), .int (xs (i + 2).toNatClampNeg), .int (xs (i + 3).toNatClampNeg)] 9 9 (by decide) rfl rfl (fun hne => c_X9_hand hfl Z M1 (xs (i + 1).toNatClampNeg) (xs (i + 2).toNatClampNeg) (xs (i + 3).toNatClampNeg) hne) ll_279 mw_X9_hand.1 mw_X9_hand.2.1 mw_X9_hand.2.2.1 mw_X9_hand.2.2.2 ⟨rfl, by decide, by decide, by decide +kernel⟩ rfl rfl ⟨by decide, by decide⟩ rfl rfl (Nat.le_of_ble_eq_true rfl) (by show _ ≤ 601024; omega) (by show _ ≤ 7293034; omega) dL_law_2258 ?_
  refine v_istore hC (lv1 := [(6, .int b0), (5, .int v), (0, .ref b), (1, .ref (zad Z 0)), (2, .ref (zad Z 9)), (3, .ref (zad Z 10)), (4, .int i)]) dL_law_2261 (by decide) rfl ?_
  refine v_aload_n hC 4 dL_law_2263 rfl rfl ?_
  refine v_callEi (n := 0) hC (rfl : f_X9_thrown M2 = rRet (M2 9 0) M2) [] 9 9 (by decide) rfl rfl (fun hne => c_X9_thrown hfl Z M2  hne) ll_184 mw_X9_thrown.1 mw_X9_thrown.2.1 mw_X9_thrown.2.2.1 mw_X9_thrown.2.2.2 ⟨rfl, by decide, by decide, by decide +kernel⟩ rfl rfl ⟨by decide, by decide⟩ rfl rfl (Nat.le_of_ble_eq_true rfl) (by show _ ≤ 601024; omega) (by show _ ≤ 7293034; omega) dL_law_2264 ?_
  refine v_iload hC 1 dL_law_2267 rfl ?_
  refine v_icmp_eq (tgt := 2274) hC dL_law_2269 (by decide) (fun _ => ?_) (fun h => absurd h9 h)
  refine v_iload hC 1 dL_law_2274 rfl ?_
  refine v_if_ne (tgt := 2298) hC dL_law_2276 (by decide) (fun _ => ?_) (fun hv0 => ?_)
  · refine v_goto (tgt := 3558) hC dL_law_2298 (by decide) ?_
    refine v_sub (lv1 := [(0, .ref b), (1, .ref (zad Z 0)), (2, .ref (zad Z 9)), (3, .ref (zad Z 10)), (4, .int i)]) [2, 3, 4, 5, 6] rfl ?_
    refine v_widen (k1 := k + 6) (by omega) ?_
    exact kk M2 hPM
  · skip
    refine v_aload_n hC 5 dL_law_2279 rfl rfl ?_
    refine v_iconst hC (v := 0) dL_law_2280 (by decide) ?_
    refine v_lald hC dL_law_2281 ?_
    refine v_iload hC 0 dL_law_2282 rfl ?_
    refine v_boolL (tgt := 2291) hC dL_law_2284 (by decide) dL_law_2287 dL_law_2288 (by decide) dL_law_2291 ?_
    refine v_lcmp hC dL_law_2292 ?_
    refine v_if_eq (tgt := 2298) hC dL_law_2293 (by decide) (fun _ => ?_) (fun h => absurd (lg_cmp_self (by rw [hout hv0])) h)
    refine v_goto (tgt := 3558) hC dL_law_2298 (by decide) ?_
    refine v_sub (lv1 := [(0, .ref b), (1, .ref (zad Z 0)), (2, .ref (zad Z 9)), (3, .ref (zad Z 10)), (4, .int i)]) [2, 3, 4, 5, 6] rfl ?_
    refine v_widen (k1 := k + 6) (by omega) ?_
    exact kk M2 hPM
set_option maxRecDepth 20000 in
set_option maxHeartbeats 4000000 in
theorem lawc_30 {p : Program} {l : Launch} {e : Env} {s : State} {m : MethodId} {args : Array Value} {below : List Frame} {meth : Method} {c : Code} {Z : gZ} {Q : State → Prop} {k : Nat} {M : gM} {b L : Nat} {xs : Nat → Int32} {i : Int32} {PM : gM → Prop} (hfl : l.stackTraces = false) (hC : gD p s m args c cL_law 7 RL Z) (hNc : gNc s) (hX : va_X b L xs s s.heap) (hbl : b < s.heap.size) (hbA : ¬ zA Z b) (h1 : vp_in (i + 1) L) (h2 : vp_in (i + 2) L) (hk1 : k + 6 ≤ 601024) (hk2 : 6 * (k + 6) ≤ 7293034) (hAg : AgV (f_L_object M (xs (i + 1).toNatClampNeg) (xs (i + 2).toNatClampNeg)) (fun M1 => f_X9_object M1 (xs (i + 1).toNatClampNeg) (xs (i + 2).toNatClampNeg)) PM) (kk : ∀ M2, PM M2 → gV p l e room_1 s m args below meth c 7 Z Q (k + 6) M2 3558 [(0, .ref b), (1, .ref (zad Z 0)), (2, .ref (zad Z 9)), (3, .ref (zad Z 10)), (4, .int i)] []) : gV p l e room_1 s m args below meth c 7 Z Q k M 2301 [(0, .ref b), (1, .ref (zad Z 0)), (2, .ref (zad Z 9)), (3, .ref (zad Z 10)), (4, .int i)] [] := by
  obtain ⟨v, M1, M2, hr1, hr2, h9, hPM⟩ := hAg
  dsimp only at hr2
  refine v_aload_n hC 1 dL_law_2301 rfl rfl ?_
  refine v_aload_n hC 0 dL_law_2302 rfl rfl ?_
  refine v_iload hC 4 dL_law_2303 rfl ?_
  refine v_iconst hC (v := 1) dL_law_2305 (by decide) ?_
  refine v_iadd hC dL_law_2306 ?_
  refine v_sld hC hX hbl hbA h1 dL_law_2307 ?_
  refine v_aload_n hC 0 dL_law_2308 rfl rfl ?_
  refine v_iload hC 4 dL_law_2309 rfl ?_
  refine v_iconst hC (v := 2) dL_law_2311 (by decide) ?_
  refine v_iadd hC dL_law_2312 ?_
  refine v_sld hC hX hbl hbA h2 dL_law_2313 ?_
  refine v_callLE (n := 3) hC hr1 [.ref (zad Z 0), .int (xs (i + 1).toNatClampNeg), .int (xs (i + 2).toNatClampNeg)] hNc (fun hne => c_L_object hfl Z M (xs (i + 1).toNatClampNeg) (xs (i + 2).toNatClampNeg) hne) ll_280 mw_L_object.1 mw_L_object.2.1 mw_L_object.2.2 ⟨by decide, by decide, by decide +kernel⟩ rfl rfl ⟨by decide, by decide⟩ rfl rfl (Nat.le_of_ble_eq_true rfl) (by show _ ≤ 601024; omega) (by show _ ≤ 7293034; omega) dL_law_2314 ?_
  refine v_istore hC (lv1 := [(5, .int v), (0, .ref b), (1, .ref (zad Z 0)), (2, .ref (zad Z 9)), (3, .ref (zad Z 10)), (4, .int i)]) dL_law_2317 (by decide) rfl ?_
  refine v_aload_n hC 3 dL_law_2319 rfl rfl ?_
  refine v_aload_n hC 1 dL_law_2320 rfl rfl ?_
  refine v_iload hC 5 dL_law_2321 rfl ?_
  refine v_iconst hC (v := 1) dL_law_2323 (by decide) ?_
  refine v_iadd hC dL_law_2324 ?_
  refine v_sld hC hX hbl hbA h1 dL_law_2325 ?_
  refine v_aload_n hC 1 dL_law_2326 rfl rfl ?_
  refine v_iload hC 5 dL_law_2327 rfl ?_
  refine v_iconst hC (v := 2) dL_law_2329 (by decide) ?_
  refine v_iadd hC dL_law_2330 ?_
  refine v_sld hC hX hbl hbA h2 dL_law_2331 ?_
  refine v_callEv (n := 2) hC hr2 [.int (xs (i + 1).toNatClampNeg), .int (xs (i + 2).toNatClampNeg)] 9 9 (by decide) rfl rfl (fun hne => c_X9_object hfl Z M1 (xs (i + 1).toNatClampNeg) (xs (i + 2).toNatClampNeg) hne) ll_283 mw_X9_object.1 mw_X9_object.2.1 mw_X9_object.2.2.1 mw_X9_object.2.2.2 ⟨rfl, by decide, by decide, by decide +kernel⟩ rfl rfl ⟨by decide, by decide⟩ rfl rfl (Nat.le_of_ble_eq_true rfl) (by show _ ≤ 601024; omega) (by show _ ≤ 7293034; omega) dL_law_2332 ?_
  refine v_aload_n hC 3 dL_law_2335 rfl rfl ?_
  refine v_callEi (n := 0) hC (rfl : f_X9_thrown M2 = rRet (M2 9 0) M2) [] 9 9 (by decide) rfl rfl (fun hne => c_X9_thrown hfl Z M2  hne) ll_184 mw_X9_thrown.1 mw_X9_thrown.2.1 mw_X9_thrown.2.2.1 mw_X9_thrown.2.2.2 ⟨rfl, by decide, by decide, by decide +kernel⟩ rfl rfl ⟨by decide, by decide⟩ rfl rfl (Nat.le_of_ble_eq_true rfl) (by show _ ≤ 601024; omega) (by show _ ≤ 7293034; omega) dL_law_2336 ?_
  refine v_iload hC 0 dL_law_2339 rfl ?_
  refine v_icmp_eq (tgt := 2346) hC dL_law_2341 (by decide) (fun _ => ?_) (fun h => absurd h9 h)
  refine v_goto (tgt := 3558) hC dL_law_2346 (by decide) ?_
  refine v_sub (lv1 := [(0, .ref b), (1, .ref (zad Z 0)), (2, .ref (zad Z 9)), (3, .ref (zad Z 10)), (4, .int i)]) [1, 2, 3, 4, 5] rfl ?_
  refine v_widen (k1 := k + 6) (by omega) ?_
  exact kk M2 hPM
set_option maxRecDepth 20000 in
set_option maxHeartbeats 4000000 in
theorem lawc_31 {p : Program} {l : Launch} {e : Env} {s : State} {m : MethodId} {args : Array Value} {below : List Frame} {meth : Method} {c : Code} {Z : gZ} {Q : State → Prop} {k : Nat} {M : gM} {b L : Nat} {xs : Nat → Int32} {i : Int32} {PM : gM → Prop} (hfl : l.stackTraces = false) (hC : gD p s m args c cL_law 7 RL Z) (hNc : gNc s) (hX : va_X b L xs s s.heap) (hbl : b < s.heap.size) (hbA : ¬ zA Z b) (h1 : vp_in (i + 1) L) (h2 : vp_in (i + 2) L) (h3 : vp_in (i + 3) L) (hk1 : k + 6 ≤ 601024) (hk2 : 6 * (k + 6) ≤ 7293034) (hAg : AgV (f_L_sustain M (xs (i + 1).toNatClampNeg) (xs (i + 2).toNatClampNeg) (gb (xs (i + 3).toNatClampNeg))) (fun M1 => f_X9_sustain M1 (xs (i + 1).toNatClampNeg) (xs (i + 2).toNatClampNeg) (gb (xs (i + 3).toNatClampNeg))) PM) (kk : ∀ M2, PM M2 → gV p l e room_1 s m args below meth c 7 Z Q (k + 6) M2 3558 [(0, .ref b), (1, .ref (zad Z 0)), (2, .ref (zad Z 9)), (3, .ref (zad Z 10)), (4, .int i)] []) : gV p l e room_1 s m args below meth c 7 Z Q k M 2349 [(0, .ref b), (1, .ref (zad Z 0)), (2, .ref (zad Z 9)), (3, .ref (zad Z 10)), (4, .int i)] [] := by
  obtain ⟨v, M1, M2, hr1, hr2, h9, hPM⟩ := hAg
  dsimp only at hr2
  refine v_aload_n hC 1 dL_law_2349 rfl rfl ?_
  refine v_aload_n hC 0 dL_law_2350 rfl rfl ?_
  refine v_iload hC 4 dL_law_2351 rfl ?_
  refine v_iconst hC (v := 1) dL_law_2353 (by decide) ?_
  refine v_iadd hC dL_law_2354 ?_
  refine v_sld hC hX hbl hbA h1 dL_law_2355 ?_
  refine v_aload_n hC 0 dL_law_2356 rfl rfl ?_
  refine v_iload hC 4 dL_law_2357 rfl ?_
  refine v_iconst hC (v := 2) dL_law_2359 (by decide) ?_
  refine v_iadd hC dL_law_2360 ?_
  refine v_sld hC hX hbl hbA h2 dL_law_2361 ?_
  refine v_aload_n hC 0 dL_law_2362 rfl rfl ?_
  refine v_iload hC 4 dL_law_2363 rfl ?_
  refine v_iconst hC (v := 3) dL_law_2365 (by decide) ?_
  refine v_iadd hC dL_law_2366 ?_
  refine v_sld hC hX hbl hbA h3 dL_law_2367 ?_
  refine v_bool (tgt := 2375) hC dL_law_2368 (by decide) dL_law_2371 dL_law_2372 (by decide) dL_law_2375 ?_
  refine v_callLE (n := 4) hC hr1 [.ref (zad Z 0), .int (xs (i + 1).toNatClampNeg), .int (xs (i + 2).toNatClampNeg), .int (gb (xs (i + 3).toNatClampNeg))] hNc (fun hne => c_L_sustain hfl Z M (xs (i + 1).toNatClampNeg) (xs (i + 2).toNatClampNeg) (gb (xs (i + 3).toNatClampNeg)) hne) ll_284 mw_L_sustain.1 mw_L_sustain.2.1 mw_L_sustain.2.2 ⟨by decide, by decide, by decide +kernel⟩ rfl rfl ⟨by decide, by decide⟩ rfl rfl (Nat.le_of_ble_eq_true rfl) (by show _ ≤ 601024; omega) (by show _ ≤ 7293034; omega) dL_law_2376 ?_
  refine v_istore hC (lv1 := [(5, .int v), (0, .ref b), (1, .ref (zad Z 0)), (2, .ref (zad Z 9)), (3, .ref (zad Z 10)), (4, .int i)]) dL_law_2379 (by decide) rfl ?_
  refine v_aload_n hC 3 dL_law_2381 rfl rfl ?_
  refine v_aload_n hC 1 dL_law_2382 rfl rfl ?_
  refine v_iload hC 5 dL_law_2383 rfl ?_
  refine v_iconst hC (v := 1) dL_law_2385 (by decide) ?_
  refine v_iadd hC dL_law_2386 ?_
  refine v_sld hC hX hbl hbA h1 dL_law_2387 ?_
  refine v_aload_n hC 1 dL_law_2388 rfl rfl ?_
  refine v_iload hC 5 dL_law_2389 rfl ?_
  refine v_iconst hC (v := 2) dL_law_2391 (by decide) ?_
  refine v_iadd hC dL_law_2392 ?_
  refine v_sld hC hX hbl hbA h2 dL_law_2393 ?_
  refine v_aload_n hC 1 dL_law_2394 rfl rfl ?_
  refine v_iload hC 5 dL_law_2395 rfl ?_
  refine v_iconst hC (v := 3) dL_law_2397 (by decide) ?_
  refine v_iadd hC dL_law_2398 ?_
  refine v_sld hC hX hbl hbA h3 dL_law_2399 ?_
  refine v_bool (tgt := 2407) hC dL_law_2400 (by decide) dL_law_2403 dL_law_2404 (by decide) dL_law_2407 ?_
  refine v_callEv (n := 3) hC hr2 [.int (xs (i + 1).toNatClampNeg), .int (xs (i + 2).toNatClampNeg), .int (gb (xs (i + 3).toNatClampNeg))] 9 9 (by decide) rfl rfl (fun hne => c_X9_sustain hfl Z M1 (xs (i + 1).toNatClampNeg) (xs (i + 2).toNatClampNeg) (gb (xs (i + 3).toNatClampNeg)) hne) ll_287 mw_X9_sustain.1 mw_X9_sustain.2.1 mw_X9_sustain.2.2.1 mw_X9_sustain.2.2.2 ⟨rfl, by decide, by decide, by decide +kernel⟩ rfl rfl ⟨by decide, by decide⟩ rfl rfl (Nat.le_of_ble_eq_true rfl) (by show _ ≤ 601024; omega) (by show _ ≤ 7293034; omega) dL_law_2408 ?_
  refine v_aload_n hC 3 dL_law_2411 rfl rfl ?_
  refine v_callEi (n := 0) hC (rfl : f_X9_thrown M2 = rRet (M2 9 0) M2) [] 9 9 (by decide) rfl rfl (fun hne => c_X9_thrown hfl Z M2  hne) ll_184 mw_X9_thrown.1 mw_X9_thrown.2.1 mw_X9_thrown.2.2.1 mw_X9_thrown.2.2.2 ⟨rfl, by decide, by decide, by decide +kernel⟩ rfl rfl ⟨by decide, by decide⟩ rfl rfl (Nat.le_of_ble_eq_true rfl) (by show _ ≤ 601024; omega) (by show _ ≤ 7293034; omega) dL_law_2412 ?_
  refine v_iload hC 0 dL_law_2415 rfl ?_
  refine v_icmp_eq (tgt := 2422) hC dL_law_2417 (by decide) (fun _ => ?_) (fun h => absurd h9 h)
  refine v_goto (tgt := 3558) hC dL_law_2422 (by decide) ?_
  refine v_sub (lv1 := [(0, .ref b), (1, .ref (zad Z 0)), (2, .ref (zad Z 9)), (3, .ref (zad Z 10)), (4, .int i)]) [1, 2, 3, 4, 5] rfl ?_
  refine v_widen (k1 := k + 6) (by omega) ?_
  exact kk M2 hPM
set_option maxRecDepth 20000 in
set_option maxHeartbeats 4000000 in
theorem lawc_32 {p : Program} {l : Launch} {e : Env} {s : State} {m : MethodId} {args : Array Value} {below : List Frame} {meth : Method} {c : Code} {Z : gZ} {Q : State → Prop} {k : Nat} {M : gM} {b L : Nat} {xs : Nat → Int32} {i : Int32} {PM : gM → Prop} (hfl : l.stackTraces = false) (hC : gD p s m args c cL_law 7 RL Z) (hNc : gNc s) (hX : va_X b L xs s s.heap) (hbl : b < s.heap.size) (hbA : ¬ zA Z b) (h1 : vp_in (i + 1) L) (hk1 : k + 6 ≤ 601024) (hk2 : 6 * (k + 6) ≤ 7293034) (hAg : AgB (f_L_isAdmitted M (xs (i + 1).toNatClampNeg)) (fun M1 => f_X9_isAdmitted M1 (xs (i + 1).toNatClampNeg)) PM) (kk : ∀ M2, PM M2 → gV p l e room_1 s m args below meth c 7 Z Q (k + 6) M2 3558 [(0, .ref b), (1, .ref (zad Z 0)), (2, .ref (zad Z 9)), (3, .ref (zad Z 10)), (4, .int i)] []) : gV p l e room_1 s m args below meth c 7 Z Q k M 2425 [(0, .ref b), (1, .ref (zad Z 0)), (2, .ref (zad Z 9)), (3, .ref (zad Z 10)), (4, .int i)] [] := by
  obtain ⟨v, M1, b0, M2, hr1, hr2, h9, hout, hPM⟩ := hAg
  dsimp only at hr2
  refine v_aload_n hC 1 dL_law_2425 rfl rfl ?_
  refine v_aload_n hC 0 dL_law_2426 rfl rfl ?_
  refine v_iload hC 4 dL_law_2427 rfl ?_
  refine v_iconst hC (v := 1) dL_law_2429 (by decide) ?_
  refine v_iadd hC dL_law_2430 ?_
  refine v_sld hC hX hbl hbA h1 dL_law_2431 ?_
  refine v_aload_n hC 3 dL_law_2432 rfl rfl ?_
  refine v_callLE (n := 3) hC hr1 [.ref (zad Z 0), .int (xs (i + 1).toNatClampNeg), .ref (zad Z 10)] hNc (fun hne => c_L_isAdmitted hfl Z M (xs (i + 1).toNatClampNeg) hne) ll_288 mw_L_isAdmitted.1 mw_L_isAdmitted.2.1 mw_L_isAdmitted.2.2 ⟨by decide, by decide, by decide +kernel⟩ rfl rfl ⟨by decide, by decide⟩ rfl rfl (Nat.le_of_ble_eq_true rfl) (by show _ ≤ 601024; omega) (by show _ ≤ 7293034; omega) dL_law_2433 ?_
  refine v_istore hC (lv1 := [(5, .int v), (0, .ref b), (1, .ref (zad Z 0)), (2, .ref (zad Z 9)), (3, .ref (zad Z 10)), (4, .int i)]) dL_law_2436 (by decide) rfl ?_
  refine v_aload_n hC 3 dL_law_2438 rfl rfl ?_
  refine v_aload_n hC 1 dL_law_2439 rfl rfl ?_
  refine v_iload hC 5 dL_law_2440 rfl ?_
  refine v_iconst hC (v := 1) dL_law_2442 (by decide) ?_
  refine v_iadd hC dL_law_2443 ?_
  refine v_sld hC hX hbl hbA h1 dL_law_2444 ?_
  refine v_callEi (n := 1) hC hr2 [.int (xs (i + 1).toNatClampNeg)] 9 9 (by decide) rfl rfl (fun hne => c_X9_isAdmitted hfl Z M1 (xs (i + 1).toNatClampNeg) hne) ll_290 mw_X9_isAdmitted.1 mw_X9_isAdmitted.2.1 mw_X9_isAdmitted.2.2.1 mw_X9_isAdmitted.2.2.2 ⟨rfl, by decide, by decide, by decide +kernel⟩ rfl rfl ⟨by decide, by decide⟩ rfl rfl (Nat.le_of_ble_eq_true rfl) (by show _ ≤ 601024; omega) (by show _ ≤ 7293034; omega) dL_law_2445 ?_
  refine v_istore hC (lv1 := [(6, .int b0), (5, .int v), (0, .ref b), (1, .ref (zad Z 0)), (2, .ref (zad Z 9)), (3, .ref (zad Z 10)), (4, .int i)]) dL_law_2448 (by decide) rfl ?_
  refine v_aload_n hC 4 dL_law_2450 rfl rfl ?_
  refine v_callEi (n := 0) hC (rfl : f_X9_thrown M2 = rRet (M2 9 0) M2) [] 9 9 (by decide) rfl rfl (fun hne => c_X9_thrown hfl Z M2  hne) ll_184 mw_X9_thrown.1 mw_X9_thrown.2.1 mw_X9_thrown.2.2.1 mw_X9_thrown.2.2.2 ⟨rfl, by decide, by decide, by decide +kernel⟩ rfl rfl ⟨by decide, by decide⟩ rfl rfl (Nat.le_of_ble_eq_true rfl) (by show _ ≤ 601024; omega) (by show _ ≤ 7293034; omega) dL_law_2451 ?_
  refine v_iload hC 1 dL_law_2454 rfl ?_
  refine v_icmp_eq (tgt := 2461) hC dL_law_2456 (by decide) (fun _ => ?_) (fun h => absurd h9 h)
  refine v_iload hC 1 dL_law_2461 rfl ?_
  refine v_if_ne (tgt := 2485) hC dL_law_2463 (by decide) (fun _ => ?_) (fun hv0 => ?_)
  · refine v_goto (tgt := 3558) hC dL_law_2485 (by decide) ?_
    refine v_sub (lv1 := [(0, .ref b), (1, .ref (zad Z 0)), (2, .ref (zad Z 9)), (3, .ref (zad Z 10)), (4, .int i)]) [2, 3, 4, 5, 6] rfl ?_
    refine v_widen (k1 := k + 6) (by omega) ?_
    exact kk M2 hPM
  · skip
    refine v_aload_n hC 5 dL_law_2466 rfl rfl ?_
    refine v_iconst hC (v := 0) dL_law_2467 (by decide) ?_
    refine v_lald hC dL_law_2468 ?_
    refine v_iload hC 0 dL_law_2469 rfl ?_
    refine v_boolL (tgt := 2478) hC dL_law_2471 (by decide) dL_law_2474 dL_law_2475 (by decide) dL_law_2478 ?_
    refine v_lcmp hC dL_law_2479 ?_
    refine v_if_eq (tgt := 2485) hC dL_law_2480 (by decide) (fun _ => ?_) (fun h => absurd (lg_cmp_self (by rw [hout hv0])) h)
    refine v_goto (tgt := 3558) hC dL_law_2485 (by decide) ?_
    refine v_sub (lv1 := [(0, .ref b), (1, .ref (zad Z 0)), (2, .ref (zad Z 9)), (3, .ref (zad Z 10)), (4, .int i)]) [2, 3, 4, 5, 6] rfl ?_
    refine v_widen (k1 := k + 6) (by omega) ?_
    exact kk M2 hPM
set_option maxRecDepth 20000 in
set_option maxHeartbeats 4000000 in
theorem lawc_33 {p : Program} {l : Launch} {e : Env} {s : State} {m : MethodId} {args : Array Value} {below : List Frame} {meth : Method} {c : Code} {Z : gZ} {Q : State → Prop} {k : Nat} {M : gM} {b L : Nat} {xs : Nat → Int32} {i : Int32} {PM : gM → Prop} (hfl : l.stackTraces = false) (hC : gD p s m args c cL_law 7 RL Z) (hNc : gNc s) (hX : va_X b L xs s s.heap) (hbl : b < s.heap.size) (hbA : ¬ zA Z b) (h1 : vp_in (i + 1) L) (h2 : vp_in (i + 2) L) (hk1 : k + 6 ≤ 601024) (hk2 : 6 * (k + 6) ≤ 7293034) (hAg : AgB (f_L_seal M (xs (i + 1).toNatClampNeg) (gb (xs (i + 2).toNatClampNeg))) (fun M1 => f_X9_seal M1 (xs (i + 1).toNatClampNeg) (gb (xs (i + 2).toNatClampNeg))) PM) (kk : ∀ M2, PM M2 → gV p l e room_1 s m args below meth c 7 Z Q (k + 6) M2 3558 [(0, .ref b), (1, .ref (zad Z 0)), (2, .ref (zad Z 9)), (3, .ref (zad Z 10)), (4, .int i)] []) : gV p l e room_1 s m args below meth c 7 Z Q k M 2488 [(0, .ref b), (1, .ref (zad Z 0)), (2, .ref (zad Z 9)), (3, .ref (zad Z 10)), (4, .int i)] [] := by
  obtain ⟨v, M1, b0, M2, hr1, hr2, h9, hout, hPM⟩ := hAg
  dsimp only at hr2
  refine v_aload_n hC 1 dL_law_2488 rfl rfl ?_
  refine v_aload_n hC 0 dL_law_2489 rfl rfl ?_
  refine v_iload hC 4 dL_law_2490 rfl ?_
  refine v_iconst hC (v := 1) dL_law_2492 (by decide) ?_
  refine v_iadd hC dL_law_2493 ?_
  refine v_sld hC hX hbl hbA h1 dL_law_2494 ?_
  refine v_aload_n hC 0 dL_law_2495 rfl rfl ?_
  refine v_iload hC 4 dL_law_2496 rfl ?_
  refine v_iconst hC (v := 2) dL_law_2498 (by decide) ?_
  refine v_iadd hC dL_law_2499 ?_
  refine v_sld hC hX hbl hbA h2 dL_law_2500 ?_
  refine v_bool (tgt := 2508) hC dL_law_2501 (by decide) dL_law_2504 dL_law_2505 (by decide) dL_law_2508 ?_
  refine v_aload_n hC 3 dL_law_2509 rfl rfl ?_
  refine v_callLE (n := 4) hC hr1 [.ref (zad Z 0), .int (xs (i + 1).toNatClampNeg), .int (gb (xs (i + 2).toNatClampNeg)), .ref (zad Z 10)] hNc (fun hne => c_L_seal hfl Z M (xs (i + 1).toNatClampNeg) (gb (xs (i + 2).toNatClampNeg)) hne) ll_291 mw_L_seal.1 mw_L_seal.2.1 mw_L_seal.2.2 ⟨by decide, by decide, by decide +kernel⟩ rfl rfl ⟨by decide, by decide⟩ rfl rfl (Nat.le_of_ble_eq_true rfl) (by show _ ≤ 601024; omega) (by show _ ≤ 7293034; omega) dL_law_2510 ?_
  refine v_istore hC (lv1 := [(5, .int v), (0, .ref b), (1, .ref (zad Z 0)), (2, .ref (zad Z 9)), (3, .ref (zad Z 10)), (4, .int i)]) dL_law_2513 (by decide) rfl ?_
  refine v_aload_n hC 3 dL_law_2515 rfl rfl ?_
  refine v_aload_n hC 1 dL_law_2516 rfl rfl ?_
  refine v_iload hC 5 dL_law_2517 rfl ?_
  refine v_iconst hC (v := 1) dL_law_2519 (by decide) ?_
  refine v_iadd hC dL_law_2520 ?_
  refine v_sld hC hX hbl hbA h1 dL_law_2521 ?_
  refine v_aload_n hC 1 dL_law_2522 rfl rfl ?_
  refine v_iload hC 5 dL_law_2523 rfl ?_
  refine v_iconst hC (v := 2) dL_law_2525 (by decide) ?_
  refine v_iadd hC dL_law_2526 ?_
  refine v_sld hC hX hbl hbA h2 dL_law_2527 ?_
  refine v_bool (tgt := 2535) hC dL_law_2528 (by decide) dL_law_2531 dL_law_2532 (by decide) dL_law_2535 ?_
  refine v_callEi (n := 2) hC hr2 [.int (xs (i + 1).toNatClampNeg), .int (gb (xs (i + 2).toNatClampNeg))] 9 9 (by decide) rfl rfl (fun hne => c_X9_seal hfl Z M1 (xs (i + 1).toNatClampNeg) (gb (xs (i + 2).toNatClampNeg)) hne) ll_293 mw_X9_seal.1 mw_X9_seal.2.1 mw_X9_seal.2.2.1 mw_X9_seal.2.2.2 ⟨rfl, by decide, by decide, by decide +kernel⟩ rfl rfl ⟨by decide, by decide⟩ rfl rfl (Nat.le_of_ble_eq_true rfl) (by show _ ≤ 601024; omega) (by show _ ≤ 7293034; omega) dL_law_2536 ?_
  refine v_istore hC (lv1 := [(6, .int b0), (5, .int v), (0, .ref b), (1, .ref (zad Z 0)), (2, .ref (zad Z 9)), (3, .ref (zad Z 10)), (4, .int i)]) dL_law_2539 (by decide) rfl ?_
  refine v_aload_n hC 4 dL_law_2541 rfl rfl ?_
  refine v_callEi (n := 0) hC (rfl : f_X9_thrown M2 = rRet (M2 9 0) M2) [] 9 9 (by decide) rfl rfl (fun hne => c_X9_thrown hfl Z M2  hne) ll_184 mw_X9_thrown.1 mw_X9_thrown.2.1 mw_X9_thrown.2.2.1 mw_X9_thrown.2.2.2 ⟨rfl, by decide, by decide, by decide +kernel⟩ rfl rfl ⟨by decide, by decide⟩ rfl rfl (Nat.le_of_ble_eq_true rfl) (by show _ ≤ 601024; omega) (by show _ ≤ 7293034; omega) dL_law_2542 ?_
  refine v_iload hC 1 dL_law_2545 rfl ?_
  refine v_icmp_eq (tgt := 2552) hC dL_law_2547 (by decide) (fun _ => ?_) (fun h => absurd h9 h)
  refine v_iload hC 1 dL_law_2552 rfl ?_
  refine v_if_ne (tgt := 2576) hC dL_law_2554 (by decide) (fun _ => ?_) (fun hv0 => ?_)
  · refine v_goto (tgt := 3558) hC dL_law_2576 (by decide) ?_
    refine v_sub (lv1 := [(0, .ref b), (1, .ref (zad Z 0)), (2, .ref (zad Z 9)), (3, .ref (zad Z 10)), (4, .int i)]) [2, 3, 4, 5, 6] rfl ?_
    refine v_widen (k1 := k + 6) (by omega) ?_
    exact kk M2 hPM
  · skip
    refine v_aload_n hC 5 dL_law_2557 rfl rfl ?_
    refine v_iconst hC (v := 0) dL_law_2558 (by decide) ?_
    refine v_lald hC dL_law_2559 ?_
    refine v_iload hC 0 dL_law_2560 rfl ?_
    refine v_boolL (tgt := 2569) hC dL_law_2562 (by decide) dL_law_2565 dL_law_2566 (by decide) dL_law_2569 ?_
    refine v_lcmp hC dL_law_2570 ?_
    refine v_if_eq (tgt := 2576) hC dL_law_2571 (by decide) (fun _ => ?_) (fun h => absurd (lg_cmp_self (by rw [hout hv0])) h)
    refine v_goto (tgt := 3558) hC dL_law_2576 (by decide) ?_
    refine v_sub (lv1 := [(0, .ref b), (1, .ref (zad Z 0)), (2, .ref (zad Z 9)), (3, .ref (zad Z 10)), (4, .int i)]) [2, 3, 4, 5, 6] rfl ?_
    refine v_widen (k1 := k + 6) (by omega) ?_
    exact kk M2 hPM
set_option maxRecDepth 20000 in
set_option maxHeartbeats 4000000 in
theorem lawc_34 {p : Program} {l : Launch} {e : Env} {s : State} {m : MethodId} {args : Array Value} {below : List Frame} {meth : Method} {c : Code} {Z : gZ} {Q : State → Prop} {k : Nat} {M : gM} {b L : Nat} {xs : Nat → Int32} {i : Int32} {PM : gM → Prop} (hfl : l.stackTraces = false) (hC : gD p s m args c cL_law 7 RL Z) (hNc : gNc s) (hX : va_X b L xs s s.heap) (hbl : b < s.heap.size) (hbA : ¬ zA Z b) (h1 : vp_in (i + 1) L) (h2 : vp_in (i + 2) L) (h3 : vp_in (i + 3) L) (hk1 : k + 6 ≤ 601024) (hk2 : 6 * (k + 6) ≤ 7293034) (hAg : AgB (f_L_maySee M (xs (i + 1).toNatClampNeg) (xs (i + 2).toNatClampNeg) (xs (i + 3).toNatClampNeg)) (fun M1 => f_X9_maySee M1 (xs (i + 1).toNatClampNeg) (xs (i + 2).toNatClampNeg) (xs (i + 3).toNatClampNeg)) PM) (kk : ∀ M2, PM M2 → gV p l e room_1 s m args below meth c 7 Z Q (k + 6) M2 3558 [(0, .ref b), (1, .ref (zad Z 0)), (2, .ref (zad Z 9)), (3, .ref (zad Z 10)), (4, .int i)] []) : gV p l e room_1 s m args below meth c 7 Z Q k M 2579 [(0, .ref b), (1, .ref (zad Z 0)), (2, .ref (zad Z 9)), (3, .ref (zad Z 10)), (4, .int i)] [] := by
  obtain ⟨v, M1, b0, M2, hr1, hr2, h9, hout, hPM⟩ := hAg
  dsimp only at hr2
  refine v_aload_n hC 1 dL_law_2579 rfl rfl ?_
  refine v_aload_n hC 0 dL_law_2580 rfl rfl ?_
  refine v_iload hC 4 dL_law_2581 rfl ?_
  refine v_iconst hC (v := 1) dL_law_2583 (by decide) ?_
  refine v_iadd hC dL_law_2584 ?_
  refine v_sld hC hX hbl hbA h1 dL_law_2585 ?_
  refine v_aload_n hC 0 dL_law_2586 rfl rfl ?_
  refine v_iload hC 4 dL_law_2587 rfl ?_
  refine v_iconst hC (v := 2) dL_law_2589 (by decide) ?_
  refine v_iadd hC dL_law_2590 ?_
  refine v_sld hC hX hbl hbA h2 dL_law_2591 ?_
  refine v_aload_n hC 0 dL_law_2592 rfl rfl ?_
  refine v_iload hC 4 dL_law_2593 rfl ?_
  refine v_iconst hC (v := 3) dL_law_2595 (by decide) ?_
  refine v_iadd hC dL_law_2596 ?_
  refine v_sld hC hX hbl hbA h3 dL_law_2597 ?_
  refine v_aload_n hC 3 dL_law_2598 rfl rfl ?_
  refine v_callLE (n := 5) hC hr1 [.ref (zad Z 0), .int (xs (i + 1).toNatClampNeg), .int (xs (i + 2).toNatClampNeg), .int (xs (i + 3).toNatClampNeg), .ref (zad Z 10)] hNc (fun hne => c_L_maySee hfl Z M (xs (i + 1).toNatClampNeg) (xs (i + 2).toNatClampNeg) (xs (i + 3).toNatClampNeg) hne) ll_294 mw_L_maySee.1 mw_L_maySee.2.1 mw_L_maySee.2.2 ⟨by decide, by decide, by decide +kernel⟩ rfl rfl ⟨by decide, by decide⟩ rfl rfl (Nat.le_of_ble_eq_true rfl) (by show _ ≤ 601024; omega) (by show _ ≤ 7293034; omega) dL_law_2599 ?_
  refine v_istore hC (lv1 := [(5, .int v), (0, .ref b), (1, .ref (zad Z 0)), (2, .ref (zad Z 9)), (3, .ref (zad Z 10)), (4, .int i)]) dL_law_2602 (by decide) rfl ?_
  refine v_aload_n hC 3 dL_law_2604 rfl rfl ?_
  refine v_aload_n hC 1 dL_law_2605 rfl rfl ?_
  refine v_iload hC 5 dL_law_2606 rfl ?_
  refine v_iconst hC (v := 1) dL_law_2608 (by decide) ?_
  refine v_iadd hC dL_law_2609 ?_
  refine v_sld hC hX hbl hbA h1 dL_law_2610 ?_
  refine v_aload_n hC 1 dL_law_2611 rfl rfl ?_
  refine v_iload hC 5 dL_law_2612 rfl ?_
  refine v_iconst hC (v := 2) dL_law_2614 (by decide) ?_
  refine v_iadd hC dL_law_2615 ?_
  refine v_sld hC hX hbl hbA h2 dL_law_2616 ?_
  refine v_aload_n hC 1 dL_law_2617 rfl rfl ?_
  refine v_iload hC 5 dL_law_2618 rfl ?_
  refine v_iconst hC (v := 3) dL_law_2620 (by decide) ?_
  refine v_iadd hC dL_law_2621 ?_
  refine v_sld hC hX hbl hbA h3 dL_law_2622 ?_
  refine v_callEi (n := 3) hC hr2 [.int (xs (i + 1).toNatClampNeg), .int (xs (i + 2).toNatClampNeg), .int (xs (i + 3).toNatClampNeg)] 9 9 (by decide) rfl rfl (fun hne => c_X9_maySee hfl Z M1 (xs (i + 1).toNatClampNeg) (xs (i + 2).toNatClampNeg) (xs (i + 3).toNatClampNeg) hne) ll_296 mw_X9_maySee.1 mw_X9_maySee.2.1 mw_X9_maySee.2.2.1 mw_X9_maySee.2.2.2 ⟨rfl, by decide, by decide, by decide +kernel⟩ rfl rfl ⟨by decide, by decide⟩ rfl rfl (Nat.le_of_ble_eq_true rfl) (by show _ ≤ 601024; omega) (by show _ ≤ 7293034; omega) dL_law_2623 ?_
  refine v_istore hC (lv1 := [(6, .int b0), (5, .int v), (0, .ref b), (1, .ref (zad Z 0)), (2, .ref (zad Z 9)), (3, .ref (zad Z 10)), (4, .int i)]) dL_law_2626 (by decide) rfl ?_
  refine v_aload_n hC 4 dL_law_2628 rfl rfl ?_
  refine v_callEi (n := 0) hC (rfl : f_X9_thrown M2 = rRet (M2 9 0) M2) [] 9 9 (by decide) rfl rfl (fun hne => c_X9_thrown hfl Z M2  hne) ll_184 mw_X9_thrown.1 mw_X9_thrown.2.1 mw_X9_thrown.2.2.1 mw_X9_thrown.2.2.2 ⟨rfl, by decide, by decide, by decide +kernel⟩ rfl rfl ⟨by decide, by decide⟩ rfl rfl (Nat.le_of_ble_eq_true rfl) (by show _ ≤ 601024; omega) (by show _ ≤ 7293034; omega) dL_law_2629 ?_
  refine v_iload hC 1 dL_law_2632 rfl ?_
  refine v_icmp_eq (tgt := 2639) hC dL_law_2634 (by decide) (fun _ => ?_) (fun h => absurd h9 h)
  refine v_iload hC 1 dL_law_2639 rfl ?_
  refine v_if_ne (tgt := 2663) hC dL_law_2641 (by decide) (fun _ => ?_) (fun hv0 => ?_)
  · refine v_goto (tgt := 3558) hC dL_law_2663 (by decide) ?_
    refine v_sub (lv1 := [(0, .ref b), (1, .ref (zad Z 0)), (2, .ref (zad Z 9)), (3, .ref (zad Z 10)), (4, .int i)]) [2, 3, 4, 5, 6] rfl ?_
    refine v_widen (k1 := k + 6) (by omega) ?_
    exact kk M2 hPM
  · skip
    refine v_aload_n hC 5 dL_law_2644 rfl rfl ?_
    refine v_iconst hC (v := 0) dL_law_2645 (by decide) ?_
    refine v_lald hC dL_law_2646 ?_
    refine v_iload hC 0 dL_law_2647 rfl ?_
    refine v_boolL (tgt := 2656) hC dL_law_2649 (by decide) dL_law_2652 dL_law_2653 (by decide) dL_law_2656 ?_
    refine v_lcmp hC dL_law_2657 ?_
    refine v_if_eq (tgt := 2663) hC dL_law_2658 (by decide) (fun _ => ?_) (fun h => absurd (lg_cmp_self (by rw [hout hv0])) h)
    refine v_goto (tgt := 3558) hC dL_law_2663 (by decide) ?_
    refine v_sub (lv1 := [(0, .ref b), (1, .ref (zad Z 0)), (2, .ref (zad Z 9)), (3, .ref (zad Z 10)), (4, .int i)]) [2, 3, 4, 5, 6] rfl ?_
    refine v_widen (k1 := k + 6) (by omega) ?_
    exact kk M2 hPM
set_option maxRecDepth 20000 in
set_option maxHeartbeats 4000000 in
theorem lawc_35 {p : Program} {l : Launch} {e : Env} {s : State} {m : MethodId} {args : Array Value} {below : List Frame} {meth : Method} {c : Code} {Z : gZ} {Q : State → Prop} {k : Nat} {M : gM} {b L : Nat} {xs : Nat → Int32} {i : Int32} {PM : gM → Prop} (hfl : l.stackTraces = false) (hC : gD p s m args c cL_law 7 RL Z) (hNc : gNc s) (hX : va_X b L xs s s.heap) (hbl : b < s.heap.size) (hbA : ¬ zA Z b) (h1 : vp_in (i + 1) L) (hk1 : k + 6 ≤ 601024) (hk2 : 6 * (k + 6) ≤ 7293034) (hAg : AgV (f_L_certify M (xs (i + 1).toNatClampNeg)) (fun M1 => f_X9_certify M1 (xs (i + 1).toNatClampNeg)) PM) (kk : ∀ M2, PM M2 → gV p l e room_1 s m args below meth c 7 Z Q (k + 6) M2 3558 [(0, .ref b), (1, .ref (zad Z 0)), (2, .ref (zad Z 9)), (3, .ref (zad Z 10)), (4, .int i)] []) : gV p l e room_1 s m args below meth c 7 Z Q k M 2666 [(0, .ref b), (1, .ref (zad Z 0)), (2, .ref (zad Z 9)), (3, .ref (zad Z 10)), (4, .int i)] [] := by
  obtain ⟨v, M1, M2, hr1, hr2, h9, hPM⟩ := hAg
  dsimp only at hr2
  refine v_aload_n hC 1 dL_law_2666 rfl rfl ?_
  refine v_aload_n hC 0 dL_law_2667 rfl rfl ?_
  refine v_iload hC 4 dL_law_2668 rfl ?_
  refine v_iconst hC (v := 1) dL_law_2670 (by decide) ?_
  refine v_iadd hC dL_law_2671 ?_
  refine v_sld hC hX hbl hbA h1 dL_law_2672 ?_
  refine v_callLE (n := 2) hC hr1 [.ref (zad Z 0), .int (xs (i + 1).toNatClampNeg)] hNc (fun hne => c_L_certify hfl Z M (xs (i + 1).toNatClampNeg) hne) ll_297 mw_L_certify.1 mw_L_certify.2.1 mw_L_certify.2.2 ⟨by decide, by decide, by decide +kernel⟩ rfl rfl ⟨by decide, by decide⟩ rfl rfl (Nat.le_of_ble_eq_true rfl) (by show _ ≤ 601024; omega) (by show _ ≤ 7293034; omega) dL_law_2673 ?_
  refine v_istore hC (lv1 := [(5, .int v), (0, .ref b), (1, .ref (zad Z 0)), (2, .ref (zad Z 9)), (3, .ref (zad Z 10)), (4, .int i)]) dL_law_2676 (by decide) rfl ?_
  refine v_aload_n hC 3 dL_law_2678 rfl rfl ?_
  refine v_aload_n hC 1 dL_law_2679 rfl rfl ?_
  refine v_iload hC 5 dL_law_2680 rfl ?_
  refine v_iconst hC (v := 1) dL_law_2682 (by decide) ?_
  refine v_iadd hC dL_law_2683 ?_
  refine v_sld hC hX hbl hbA h1 dL_law_2684 ?_
  refine v_callEv (n := 1) hC hr2 [.int (xs (i + 1).toNatClampNeg)] 9 9 (by decide) rfl rfl (fun hne => c_X9_certify hfl Z M1 (xs (i + 1).toNatClampNeg) hne) ll_300 mw_X9_certify.1 mw_X9_certify.2.1 mw_X9_certify.2.2.1 mw_X9_certify.2.2.2 ⟨rfl, by decide, by decide, by decide +kernel⟩ rfl rfl ⟨by decide, by decide⟩ rfl rfl (Nat.le_of_ble_eq_true rfl) (by show _ ≤ 601024; omega) (by show _ ≤ 7293034; omega) dL_law_2685 ?_
  refine v_aload_n hC 3 dL_law_2688 rfl rfl ?_
  refine v_callEi (n := 0) hC (rfl : f_X9_thrown M2 = rRet (M2 9 0) M2) [] 9 9 (by decide) rfl rfl (fun hne => c_X9_thrown hfl Z M2  hne) ll_184 mw_X9_thrown.1 mw_X9_thrown.2.1 mw_X9_thrown.2.2.1 mw_X9_thrown.2.2.2 ⟨rfl, by decide, by decide, by decide +kernel⟩ rfl rfl ⟨by decide, by decide⟩ rfl rfl (Nat.le_of_ble_eq_true rfl) (by show _ ≤ 601024; omega) (by show _ ≤ 7293034; omega) dL_law_2689 ?_
  refine v_iload hC 0 dL_law_2692 rfl ?_
  refine v_icmp_eq (tgt := 2699) hC dL_law_2694 (by decide) (fun _ => ?_) (fun h => absurd h9 h)
  refine v_goto (tgt := 3558) hC dL_law_2699 (by decide) ?_
  refine v_sub (lv1 := [(0, .ref b), (1, .ref (zad Z 0)), (2, .ref (zad Z 9)), (3, .ref (zad Z 10)), (4, .int i)]) [1, 2, 3, 4, 5] rfl ?_
  refine v_widen (k1 := k + 6) (by omega) ?_
  exact kk M2 hPM
set_option maxRecDepth 20000 in
set_option maxHeartbeats 4000000 in
theorem lawc_36 {p : Program} {l : Launch} {e : Env} {s : State} {m : MethodId} {args : Array Value} {below : List Frame} {meth : Method} {c : Code} {Z : gZ} {Q : State → Prop} {k : Nat} {M : gM} {b L : Nat} {xs : Nat → Int32} {i : Int32} {PM : gM → Prop} (hfl : l.stackTraces = false) (hC : gD p s m args c cL_law 7 RL Z) (hNc : gNc s) (hX : va_X b L xs s s.heap) (hbl : b < s.heap.size) (hbA : ¬ zA Z b) (h1 : vp_in (i + 1) L) (h2 : vp_in (i + 2) L) (h3 : vp_in (i + 3) L) (hk1 : k + 6 ≤ 601024) (hk2 : 6 * (k + 6) ≤ 7293034) (hAg : AgI (f_L_member M (xs (i + 1).toNatClampNeg) (xs (i + 2).toNatClampNeg) (gb (xs (i + 3).toNatClampNeg))) (fun M1 => f_X9_member M1 (xs (i + 1).toNatClampNeg) (xs (i + 2).toNatClampNeg) (gb (xs (i + 3).toNatClampNeg))) PM) (kk : ∀ M2, PM M2 → gV p l e room_1 s m args below meth c 7 Z Q (k + 6) M2 3558 [(0, .ref b), (1, .ref (zad Z 0)), (2, .ref (zad Z 9)), (3, .ref (zad Z 10)), (4, .int i)] []) : gV p l e room_1 s m args below meth c 7 Z Q k M 2702 [(0, .ref b), (1, .ref (zad Z 0)), (2, .ref (zad Z 9)), (3, .ref (zad Z 10)), (4, .int i)] [] := by
  obtain ⟨v, M1, b0, M2, hr1, hr2, h9, hout, hPM⟩ := hAg
  dsimp only at hr2
  refine v_aload_n hC 1 dL_law_2702 rfl rfl ?_
  refine v_aload_n hC 0 dL_law_2703 rfl rfl ?_
  refine v_iload hC 4 dL_law_2704 rfl ?_
  refine v_iconst hC (v := 1) dL_law_2706 (by decide) ?_
  refine v_iadd hC dL_law_2707 ?_
  refine v_sld hC hX hbl hbA h1 dL_law_2708 ?_
  refine v_aload_n hC 0 dL_law_2709 rfl rfl ?_
  refine v_iload hC 4 dL_law_2710 rfl ?_
  refine v_iconst hC (v := 2) dL_law_2712 (by decide) ?_
  refine v_iadd hC dL_law_2713 ?_
  refine v_sld hC hX hbl hbA h2 dL_law_2714 ?_
  refine v_aload_n hC 0 dL_law_2715 rfl rfl ?_
  refine v_iload hC 4 dL_law_2716 rfl ?_
  refine v_iconst hC (v := 3) dL_law_2718 (by decide) ?_
  refine v_iadd hC dL_law_2719 ?_
  refine v_sld hC hX hbl hbA h3 dL_law_2720 ?_
  refine v_bool (tgt := 2728) hC dL_law_2721 (by decide) dL_law_2724 dL_law_2725 (by decide) dL_law_2728 ?_
  refine v_aload_n hC 3 dL_law_2729 rfl rfl ?_
  refine v_callLE (n := 5) hC hr1 [.ref (zad Z 0), .int (xs (i + 1).toNatClampNeg), .int (xs (i + 2).toNatClampNeg), .int (gb (xs (i + 3).toNatClampNeg)), .ref (zad Z 10)] hNc (fun hne => c_L_member hfl Z M (xs (i + 1).toNatClampNeg) (xs (i + 2).toNatClampNeg) (gb (xs (i + 3).toNatClampNeg)) hne) ll_301 mw_L_member.1 mw_L_member.2.1 mw_L_member.2.2 ⟨by decide, by decide, by decide +kernel⟩ rfl rfl ⟨by decide, by decide⟩ rfl rfl (Nat.le_of_ble_eq_true rfl) (by show _ ≤ 601024; omega) (by show _ ≤ 7293034; omega) dL_law_2730 ?_
  refine v_istore hC (lv1 := [(5, .int v), (0, .ref b), (1, .ref (zad Z 0)), (2, .ref (zad Z 9)), (3, .ref (zad Z 10)), (4, .int i)]) dL_law_2733 (by decide) rfl ?_
  refine v_aload_n hC 3 dL_law_2735 rfl rfl ?_
  refine v_aload_n hC 1 dL_law_2736 rfl rfl ?_
  refine v_iload hC 5 dL_law_2737 rfl ?_
  refine v_iconst hC (v := 1) dL_law_2739 (by decide) ?_
  refine v_iadd hC dL_law_2740 ?_
  refine v_sld hC hX hbl hbA h1 dL_law_2741 ?_
  refine v_aload_n hC 1 dL_law_2742 rfl rfl ?_
  refine v_iload hC 5 dL_law_2743 rfl ?_
  refine v_iconst hC (v := 2) dL_law_2745 (by decide) ?_
  refine v_iadd hC dL_law_2746 ?_
  refine v_sld hC hX hbl hbA h2 dL_law_2747 ?_
  refine v_aload_n hC 1 dL_law_2748 rfl rfl ?_
  refine v_iload hC 5 dL_law_2749 rfl ?_
  refine v_iconst hC (v := 3) dL_law_2751 (by decide) ?_
  refine v_iadd hC dL_law_2752 ?_
  refine v_sld hC hX hbl hbA h3 dL_law_2753 ?_
  refine v_bool (tgt := 2761) hC dL_law_2754 (by decide) dL_law_2757 dL_law_2758 (by decide) dL_law_2761 ?_
  refine v_callEi (n := 3) hC hr2 [.int (xs (i + 1).toNatClampNeg), .int (xs (i + 2).toNatClampNeg), .int (gb (xs (i + 3).toNatClampNeg))] 9 9 (by decide) rfl rfl (fun hne => c_X9_member hfl Z M1 (xs (i + 1).toNatClampNeg) (xs (i + 2).toNatClampNeg) (gb (xs (i + 3).toNatClampNeg)) hne) ll_303 mw_X9_member.1 mw_X9_member.2.1 mw_X9_member.2.2.1 mw_X9_member.2.2.2 ⟨rfl, by decide, by decide, by decide +kernel⟩ rfl rfl ⟨by decide, by decide⟩ rfl rfl (Nat.le_of_ble_eq_true rfl) (by show _ ≤ 601024; omega) (by show _ ≤ 7293034; omega) dL_law_2762 ?_
  refine v_istore hC (lv1 := [(6, .int b0), (5, .int v), (0, .ref b), (1, .ref (zad Z 0)), (2, .ref (zad Z 9)), (3, .ref (zad Z 10)), (4, .int i)]) dL_law_2765 (by decide) rfl ?_
  refine v_aload_n hC 4 dL_law_2767 rfl rfl ?_
  refine v_callEi (n := 0) hC (rfl : f_X9_thrown M2 = rRet (M2 9 0) M2) [] 9 9 (by decide) rfl rfl (fun hne => c_X9_thrown hfl Z M2  hne) ll_184 mw_X9_thrown.1 mw_X9_thrown.2.1 mw_X9_thrown.2.2.1 mw_X9_thrown.2.2.2 ⟨rfl, by decide, by decide, by decide +kernel⟩ rfl rfl ⟨by decide, by decide⟩ rfl rfl (Nat.le_of_ble_eq_true rfl) (by show _ ≤ 601024; omega) (by show _ ≤ 7293034; omega) dL_law_2768 ?_
  refine v_iload hC 1 dL_law_2771 rfl ?_
  refine v_icmp_eq (tgt := 2778) hC dL_law_2773 (by decide) (fun _ => ?_) (fun h => absurd h9 h)
  refine v_iload hC 1 dL_law_2778 rfl ?_
  refine v_if_ne (tgt := 2795) hC dL_law_2780 (by decide) (fun _ => ?_) (fun hv0 => ?_)
  · refine v_goto (tgt := 3558) hC dL_law_2795 (by decide) ?_
    refine v_sub (lv1 := [(0, .ref b), (1, .ref (zad Z 0)), (2, .ref (zad Z 9)), (3, .ref (zad Z 10)), (4, .int i)]) [2, 3, 4, 5, 6] rfl ?_
    refine v_widen (k1 := k + 6) (by omega) ?_
    exact kk M2 hPM
  · skip
    refine v_aload_n hC 5 dL_law_2783 rfl rfl ?_
    refine v_iconst hC (v := 0) dL_law_2784 (by decide) ?_
    refine v_lald hC dL_law_2785 ?_
    refine v_iload hC 0 dL_law_2786 rfl ?_
    refine v_i2l hC dL_law_2788 ?_
    refine v_lcmp hC dL_law_2789 ?_
    refine v_if_eq (tgt := 2795) hC dL_law_2790 (by decide) (fun _ => ?_) (fun h => absurd (lg_cmp_self (by rw [hout hv0])) h)
    refine v_goto (tgt := 3558) hC dL_law_2795 (by decide) ?_
    refine v_sub (lv1 := [(0, .ref b), (1, .ref (zad Z 0)), (2, .ref (zad Z 9)), (3, .ref (zad Z 10)), (4, .int i)]) [2, 3, 4, 5, 6] rfl ?_
    refine v_widen (k1 := k + 6) (by omega) ?_
    exact kk M2 hPM
set_option maxRecDepth 20000 in
set_option maxHeartbeats 4000000 in
theorem lawc_37 {p : Program} {l : Launch} {e : Env} {s : State} {m : MethodId} {args : Array Value} {below : List Frame} {meth : Method} {c : Code} {Z : gZ} {Q : State → Prop} {k : Nat} {M : gM} {b L : Nat} {xs : Nat → Int32} {i : Int32} {PM : gM → Prop} (hfl : l.stackTraces = false) (hC : gD p s m args c cL_law 7 RL Z) (hNc : gNc s) (hX : va_X b L xs s s.heap) (hbl : b < s.heap.size) (hbA : ¬ zA Z b) (h1 : vp_in (i + 1) L) (h2 : vp_in (i + 2) L) (hk1 : k + 6 ≤ 601024) (hk2 : 6 * (k + 6) ≤ 7293034) (hAg : AgI (f_L_share M (xs (i + 1).toNatClampNeg) (xs (i + 2).toNatClampNeg)) (fun M1 => f_X9_share M1 (xs (i + 1).toNatClampNeg) (xs (i + 2).toNatClampNeg)) PM) (kk : ∀ M2, PM M2 → gV p l e room_1 s m args below meth c 7 Z Q (k + 6) M2 3558 [(0, .ref b), (1, .ref (zad Z 0)), (2, .ref (zad Z 9)), (3, .ref (zad Z 10)), (4, .int i)] []) : gV p l e room_1 s m args below meth c 7 Z Q k M 2798 [(0, .ref b), (1, .ref (zad Z 0)), (2, .ref (zad Z 9)), (3, .ref (zad Z 10)), (4, .int i)] [] := by
  obtain ⟨v, M1, b0, M2, hr1, hr2, h9, hout, hPM⟩ := hAg
  dsimp only at hr2
  refine v_aload_n hC 1 dL_law_2798 rfl rfl ?_
  refine v_aload_n hC 0 dL_law_2799 rfl rfl ?_
  refine v_iload hC 4 dL_law_2800 rfl ?_
  refine v_iconst hC (v := 1) dL_law_2802 (by decide) ?_
  refine v_iadd hC dL_law_2803 ?_
  refine v_sld hC hX hbl hbA h1 dL_law_2804 ?_
  refine v_aload_n hC 0 dL_law_2805 rfl rfl ?_
  refine v_iload hC 4 dL_law_2806 rfl ?_
  refine v_iconst hC (v := 2) dL_law_2808 (by decide) ?_
  refine v_iadd hC dL_law_2809 ?_
  refine v_sld hC hX hbl hbA h2 dL_law_2810 ?_
  refine v_aload_n hC 3 dL_law_2811 rfl rfl ?_
  refine v_callLE (n := 4) hC hr1 [.ref (zad Z 0), .int (xs (i + 1).toNatClampNeg), .int (xs (i + 2).toNatClampNeg), .ref (zad Z 10)] hNc (fun hne => c_L_share hfl Z M (xs (i + 1).toNatClampNeg) (xs (i + 2).toNatClampNeg) hne) ll_304 mw_L_share.1 mw_L_share.2.1 mw_L_share.2.2 ⟨by decide, by decide, by decide +kernel⟩ rfl rfl ⟨by decide, by decide⟩ rfl rfl (Nat.le_of_ble_eq_true rfl) (by show _ ≤ 601024; omega) (by show _ ≤ 7293034; omega) dL_law_2812 ?_
  refine v_istore hC (lv1 := [(5, .int v), (0, .ref b), (1, .ref (zad Z 0)), (2, .ref (zad Z 9)), (3, .ref (zad Z 10)), (4, .int i)]) dL_law_2815 (by decide) rfl ?_
  refine v_aload_n hC 3 dL_law_2817 rfl rfl ?_
  refine v_aload_n hC 1 dL_law_2818 rfl rfl ?_
  refine v_iload hC 5 dL_law_2819 rfl ?_
  refine v_iconst hC (v := 1) dL_law_2821 (by decide) ?_
  refine v_iadd hC dL_law_2822 ?_
  refine v_sld hC hX hbl hbA h1 dL_law_2823 ?_
  refine v_aload_n hC 1 dL_law_2824 rfl rfl ?_
  refine v_iload hC 5 dL_law_2825 rfl ?_
  refine v_iconst hC (v := 2) dL_law_2827 (by decide) ?_
  refine v_iadd hC dL_law_2828 ?_
  refine v_sld hC hX hbl hbA h2 dL_law_2829 ?_
  refine v_callEi (n := 2) hC hr2 [.int (xs (i + 1).toNatClampNeg), .int (xs (i + 2).toNatClampNeg)] 9 9 (by decide) rfl rfl (fun hne => c_X9_share hfl Z M1 (xs (i + 1).toNatClampNeg) (xs (i + 2).toNatClampNeg) hne) ll_306 mw_X9_share.1 mw_X9_share.2.1 mw_X9_share.2.2.1 mw_X9_share.2.2.2 ⟨rfl, by decide, by decide, by decide +kernel⟩ rfl rfl ⟨by decide, by decide⟩ rfl rfl (Nat.le_of_ble_eq_true rfl) (by show _ ≤ 601024; omega) (by show _ ≤ 7293034; omega) dL_law_2830 ?_
  refine v_istore hC (lv1 := [(6, .int b0), (5, .int v), (0, .ref b), (1, .ref (zad Z 0)), (2, .ref (zad Z 9)), (3, .ref (zad Z 10)), (4, .int i)]) dL_law_2833 (by decide) rfl ?_
  refine v_aload_n hC 4 dL_law_2835 rfl rfl ?_
  refine v_callEi (n := 0) hC (rfl : f_X9_thrown M2 = rRet (M2 9 0) M2) [] 9 9 (by decide) rfl rfl (fun hne => c_X9_thrown hfl Z M2  hne) ll_184 mw_X9_thrown.1 mw_X9_thrown.2.1 mw_X9_thrown.2.2.1 mw_X9_thrown.2.2.2 ⟨rfl, by decide, by decide, by decide +kernel⟩ rfl rfl ⟨by decide, by decide⟩ rfl rfl (Nat.le_of_ble_eq_true rfl) (by show _ ≤ 601024; omega) (by show _ ≤ 7293034; omega) dL_law_2836 ?_
  refine v_iload hC 1 dL_law_2839 rfl ?_
  refine v_icmp_eq (tgt := 2846) hC dL_law_2841 (by decide) (fun _ => ?_) (fun h => absurd h9 h)
  refine v_iload hC 1 dL_law_2846 rfl ?_
  refine v_if_ne (tgt := 2863) hC dL_law_2848 (by decide) (fun _ => ?_) (fun hv0 => ?_)
  · refine v_goto (tgt := 3558) hC dL_law_2863 (by decide) ?_
    refine v_sub (lv1 := [(0, .ref b), (1, .ref (zad Z 0)), (2, .ref (zad Z 9)), (3, .ref (zad Z 10)), (4, .int i)]) [2, 3, 4, 5, 6] rfl ?_
    refine v_widen (k1 := k + 6) (by omega) ?_
    exact kk M2 hPM
  · skip
    refine v_aload_n hC 5 dL_law_2851 rfl rfl ?_
    refine v_iconst hC (v := 0) dL_law_2852 (by decide) ?_
    refine v_lald hC dL_law_2853 ?_
    refine v_iload hC 0 dL_law_2854 rfl ?_
    refine v_i2l hC dL_law_2856 ?_
    refine v_lcmp hC dL_law_2857 ?_
    refine v_if_eq (tgt := 2863) hC dL_law_2858 (by decide) (fun _ => ?_) (fun h => absurd (lg_cmp_self (by rw [hout hv0])) h)
    refine v_goto (tgt := 3558) hC dL_law_2863 (by decide) ?_
    refine v_sub (lv1 := [(0, .ref b), (1, .ref (zad Z 0)), (2, .ref (zad Z 9)), (3, .ref (zad Z 10)), (4, .int i)]) [2, 3, 4, 5, 6] rfl ?_
    refine v_widen (k1 := k + 6) (by omega) ?_
    exact kk M2 hPM
set_option maxRecDepth 20000 in
set_option maxHeartbeats 4000000 in
theorem lawc_38 {p : Program} {l : Launch} {e : Env} {s : State} {m : MethodId} {args : Array Value} {below : List Frame} {meth : Method} {c : Code} {Z : gZ} {Q : State → Prop} {k : Nat} {M : gM} {b L : Nat} {xs : Nat → Int32} {i : Int32} {PM : gM → Prop} (hfl : l.stackTraces = false) (hC : gD p s m args c cL_law 7 RL Z) (hNc : gNc s) (hX : va_X b L xs s s.heap) (hbl : b < s.heap.size) (hbA : ¬ zA Z b)  (hk1 : k + 6 ≤ 601024) (hk2 : 6 * (k + 6) ≤ 7293034) (hAg : AgT (f_X8_today M ) (fun M1 => f_X9_today M1 ) PM) (kk : ∀ M2, PM M2 → gV p l e room_1 s m args below meth c 7 Z Q (k + 6) M2 3558 [(0, .ref b), (1, .ref (zad Z 0)), (2, .ref (zad Z 9)), (3, .ref (zad Z 10)), (4, .int i)] []) : gV p l e room_1 s m args below meth c 7 Z Q k M 2866 [(0, .ref b), (1, .ref (zad Z 0)), (2, .ref (zad Z 9)), (3, .ref (zad Z 10)), (4, .int i)] [] := by
  obtain ⟨v, M1, M2, hr1, hr2, hPM⟩ := hAg
  dsimp only at hr2
  refine v_aload_n hC 1 dL_law_2866 rfl rfl ?_
  refine v_callEi (n := 0) hC hr1 [] 0 8 (by decide) rfl rfl (fun hne => c_X8_today hfl Z M  hne) ll_307 mw_X8_today.1 mw_X8_today.2.1 mw_X8_today.2.2.1 mw_X8_today.2.2.2 ⟨rfl, by decide, by decide, by decide +kernel⟩ rfl rfl ⟨by decide, by decide⟩ rfl rfl (Nat.le_of_ble_eq_true rfl) (by show _ ≤ 601024; omega) (by show _ ≤ 7293034; omega) dL_law_2867 ?_
  refine v_aload_n hC 2 dL_law_2870 rfl rfl ?_
  refine v_callEi (n := 0) hC hr2 [] 9 9 (by decide) rfl rfl (fun hne => c_X9_today hfl Z M1  hne) ll_310 mw_X9_today.1 mw_X9_today.2.1 mw_X9_today.2.2.1 mw_X9_today.2.2.2 ⟨rfl, by decide, by decide, by decide +kernel⟩ rfl rfl ⟨by decide, by decide⟩ rfl rfl (Nat.le_of_ble_eq_true rfl) (by show _ ≤ 601024; omega) (by show _ ≤ 7293034; omega) dL_law_2871 ?_
  refine v_icmp_eq (tgt := 3558) hC dL_law_2874 (by decide) (fun _ => ?_) (fun h => absurd rfl h)
  refine v_sub (lv1 := [(0, .ref b), (1, .ref (zad Z 0)), (2, .ref (zad Z 9)), (3, .ref (zad Z 10)), (4, .int i)]) [0, 1, 2, 3, 4] rfl ?_
  refine v_widen (k1 := k + 6) (by omega) ?_
  exact kk M2 hPM
set_option maxRecDepth 20000 in
set_option maxHeartbeats 4000000 in
theorem lawc_39 {p : Program} {l : Launch} {e : Env} {s : State} {m : MethodId} {args : Array Value} {below : List Frame} {meth : Method} {c : Code} {Z : gZ} {Q : State → Prop} {k : Nat} {M : gM} {b L : Nat} {xs : Nat → Int32} {i : Int32} {PM : gM → Prop} (hfl : l.stackTraces = false) (hC : gD p s m args c cL_law 7 RL Z) (hNc : gNc s) (hX : va_X b L xs s s.heap) (hbl : b < s.heap.size) (hbA : ¬ zA Z b)  (hk1 : k + 6 ≤ 601024) (hk2 : 6 * (k + 6) ≤ 7293034) (hAg : AgT (f_X8_entries M ) (fun M1 => f_X9_entries M1 ) PM) (kk : ∀ M2, PM M2 → gV p l e room_1 s m args below meth c 7 Z Q (k + 6) M2 3558 [(0, .ref b), (1, .ref (zad Z 0)), (2, .ref (zad Z 9)), (3, .ref (zad Z 10)), (4, .int i)] []) : gV p l e room_1 s m args below meth c 7 Z Q k M 2879 [(0, .ref b), (1, .ref (zad Z 0)), (2, .ref (zad Z 9)), (3, .ref (zad Z 10)), (4, .int i)] [] := by
  obtain ⟨v, M1, M2, hr1, hr2, hPM⟩ := hAg
  dsimp only at hr2
  refine v_aload_n hC 1 dL_law_2879 rfl rfl ?_
  refine v_callEi (n := 0) hC hr1 [] 0 8 (by decide) rfl rfl (fun hne => c_X8_entries hfl Z M  hne) ll_311 mw_X8_entries.1 mw_X8_entries.2.1 mw_X8_entries.2.2.1 mw_X8_entries.2.2.2 ⟨rfl, by decide, by decide, by decide +kernel⟩ rfl rfl ⟨by decide, by decide⟩ rfl rfl (Nat.le_of_ble_eq_true rfl) (by show _ ≤ 601024; omega) (by show _ ≤ 7293034; omega) dL_law_2880 ?_
  refine v_aload_n hC 2 dL_law_2883 rfl rfl ?_
  refine v_callEi (n := 0) hC hr2 [] 9 9 (by decide) rfl rfl (fun hne => c_X9_entries hfl Z M1  hne) ll_314 mw_X9_entries.1 mw_X9_entries.2.1 mw_X9_entries.2.2.1 mw_X9_entries.2.2.2 ⟨rfl, by decide, by decide, by decide +kernel⟩ rfl rfl ⟨by decide, by decide⟩ rfl rfl (Nat.le_of_ble_eq_true rfl) (by show _ ≤ 601024; omega) (by show _ ≤ 7293034; omega) dL_law_2884 ?_
  refine v_icmp_eq (tgt := 3558) hC dL_law_2887 (by decide) (fun _ => ?_) (fun h => absurd rfl h)
  refine v_sub (lv1 := [(0, .ref b), (1, .ref (zad Z 0)), (2, .ref (zad Z 9)), (3, .ref (zad Z 10)), (4, .int i)]) [0, 1, 2, 3, 4] rfl ?_
  refine v_widen (k1 := k + 6) (by omega) ?_
  exact kk M2 hPM
set_option maxRecDepth 20000 in
set_option maxHeartbeats 4000000 in
theorem lawc_40 {p : Program} {l : Launch} {e : Env} {s : State} {m : MethodId} {args : Array Value} {below : List Frame} {meth : Method} {c : Code} {Z : gZ} {Q : State → Prop} {k : Nat} {M : gM} {b L : Nat} {xs : Nat → Int32} {i : Int32} {PM : gM → Prop} (hfl : l.stackTraces = false) (hC : gD p s m args c cL_law 7 RL Z) (hNc : gNc s) (hX : va_X b L xs s s.heap) (hbl : b < s.heap.size) (hbA : ¬ zA Z b) (h1 : vp_in (i + 1) L) (h2 : vp_in (i + 2) L) (hk1 : k + 6 ≤ 601024) (hk2 : 6 * (k + 6) ≤ 7293034) (hAg : AgI (f_L_entryAt M (xs (i + 1).toNatClampNeg) (xs (i + 2).toNatClampNeg)) (fun M1 => f_X9_entryAt M1 (xs (i + 1).toNatClampNeg) (xs (i + 2).toNatClampNeg)) PM) (kk : ∀ M2, PM M2 → gV p l e room_1 s m args below meth c 7 Z Q (k + 6) M2 3558 [(0, .ref b), (1, .ref (zad Z 0)), (2, .ref (zad Z 9)), (3, .ref (zad Z 10)), (4, .int i)] []) : gV p l e room_1 s m args below meth c 7 Z Q k M 2892 [(0, .ref b), (1, .ref (zad Z 0)), (2, .ref (zad Z 9)), (3, .ref (zad Z 10)), (4, .int i)] [] := by
  obtain ⟨v, M1, b0, M2, hr1, hr2, h9, hout, hPM⟩ := hAg
  dsimp only at hr2
  refine v_aload_n hC 1 dL_law_2892 rfl rfl ?_
  refine v_aload_n hC 0 dL_law_2893 rfl rfl ?_
  refine v_iload hC 4 dL_law_2894 rfl ?_
  refine v_iconst hC (v := 1) dL_law_2896 (by decide) ?_
  refine v_iadd hC dL_law_2897 ?_
  refine v_sld hC hX hbl hbA h1 dL_law_2898 ?_
  refine v_aload_n hC 0 dL_law_2899 rfl rfl ?_
  refine v_iload hC 4 dL_law_2900 rfl ?_
  refine v_iconst hC (v := 2) dL_law_2902 (by decide) ?_
  refine v_iadd hC dL_law_2903 ?_
  refine v_sld hC hX hbl hbA h2 dL_law_2904 ?_
  refine v_aload_n hC 3 dL_law_2905 rfl rfl ?_
  refine v_callLE (n := 4) hC hr1 [.ref (zad Z 0), .int (xs (i + 1).toNatClampNeg), .int (xs (i + 2).toNatClampNeg), .ref (zad Z 10)] hNc (fun hne => c_L_entryAt hfl Z M (xs (i + 1).toNatClampNeg) (xs (i + 2).toNatClampNeg) hne) ll_315 mw_L_entryAt.1 mw_L_entryAt.2.1 mw_L_entryAt.2.2 ⟨by decide, by decide, by decide +kernel⟩ rfl rfl ⟨by decide, by decide⟩ rfl rfl (Nat.le_of_ble_eq_true rfl) (by show _ ≤ 601024; omega) (by show _ ≤ 7293034; omega) dL_law_2906 ?_
  refine v_istore hC (lv1 := [(5, .int v), (0, .ref b), (1, .ref (zad Z 0)), (2, .ref (zad Z 9)), (3, .ref (zad Z 10)), (4, .int i)]) dL_law_2909 (by decide) rfl ?_
  refine v_aload_n hC 3 dL_law_2911 rfl rfl ?_
  refine v_aload_n hC 1 dL_law_2912 rfl rfl ?_
  refine v_iload hC 5 dL_law_2913 rfl ?_
  refine v_iconst hC (v := 1) dL_law_2915 (by decide) ?_
  refine v_iadd hC dL_law_2916 ?_
  refine v_sld hC hX hbl hbA h1 dL_law_2917 ?_
  refine v_aload_n hC 1 dL_law_2918 rfl rfl ?_
  refine v_iload hC 5 dL_law_2919 rfl ?_
  refine v_iconst hC (v := 2) dL_law_2921 (by decide) ?_
  refine v_iadd hC dL_law_2922 ?_
  refine v_sld hC hX hbl hbA h2 dL_law_2923 ?_
  refine v_callEi (n := 2) hC hr2 [.int (xs (i + 1).toNatClampNeg), .int (xs (i + 2).toNatClampNeg)] 9 9 (by decide) rfl rfl (fun hne => c_X9_entryAt hfl Z M1 (xs (i + 1).toNatClampNeg) (xs (i + 2).toNatClampNeg) hne) ll_317 mw_X9_entryAt.1 mw_X9_entryAt.2.1 mw_X9_entryAt.2.2.1 mw_X9_entryAt.2.2.2 ⟨rfl, by decide, by decide, by decide +kernel⟩ rfl rfl ⟨by decide, by decide⟩ rfl rfl (Nat.le_of_ble_eq_true rfl) (by show _ ≤ 601024; omega) (by show _ ≤ 7293034; omega) dL_law_2924 ?_
  refine v_istore hC (lv1 := [(6, .int b0), (5, .int v), (0, .ref b), (1, .ref (zad Z 0)), (2, .ref (zad Z 9)), (3, .ref (zad Z 10)), (4, .int i)]) dL_law_2927 (by decide) rfl ?_
  refine v_aload_n hC 4 dL_law_2929 rfl rfl ?_
  refine v_callEi (n := 0) hC (rfl : f_X9_thrown M2 = rRet (M2 9 0) M2) [] 9 9 (by decide) rfl rfl (fun hne => c_X9_thrown hfl Z M2  hne) ll_184 mw_X9_thrown.1 mw_X9_thrown.2.1 mw_X9_thrown.2.2.1 mw_X9_thrown.2.2.2 ⟨rfl, by decide, by decide, by decide +kernel⟩ rfl rfl ⟨by decide, by decide⟩ rfl rfl (Nat.le_of_ble_eq_true rfl) (by show _ ≤ 601024; omega) (by show _ ≤ 7293034; omega) dL_law_2930 ?_
  refine v_iload hC 1 dL_law_2933 rfl ?_
  refine v_icmp_eq (tgt := 2940) hC dL_law_2935 (by decide) (fun _ => ?_) (fun h => absurd h9 h)
  refine v_iload hC 1 dL_law_2940 rfl ?_
  refine v_if_ne (tgt := 2957) hC dL_law_2942 (by decide) (fun _ => ?_) (fun hv0 => ?_)
  · refine v_goto (tgt := 3558) hC dL_law_2957 (by decide) ?_
    refine v_sub (lv1 := [(0, .ref b), (1, .ref (zad Z 0)), (2, .ref (zad Z 9)), (3, .ref (zad Z 10)), (4, .int i)]) [2, 3, 4, 5, 6] rfl ?_
    refine v_widen (k1 := k + 6) (by omega) ?_
    exact kk M2 hPM
  · skip
    refine v_aload_n hC 5 dL_law_2945 rfl rfl ?_
    refine v_iconst hC (v := 0) dL_law_2946 (by decide) ?_
    refine v_lald hC dL_law_2947 ?_
    refine v_iload hC 0 dL_law_2948 rfl ?_
    refine v_i2l hC dL_law_2950 ?_
    refine v_lcmp hC dL_law_2951 ?_
    refine v_if_eq (tgt := 2957) hC dL_law_2952 (by decide) (fun _ => ?_) (fun h => absurd (lg_cmp_self (by rw [hout hv0])) h)
    refine v_goto (tgt := 3558) hC dL_law_2957 (by decide) ?_
    refine v_sub (lv1 := [(0, .ref b), (1, .ref (zad Z 0)), (2, .ref (zad Z 9)), (3, .ref (zad Z 10)), (4, .int i)]) [2, 3, 4, 5, 6] rfl ?_
    refine v_widen (k1 := k + 6) (by omega) ?_
    exact kk M2 hPM
set_option maxRecDepth 20000 in
set_option maxHeartbeats 4000000 in
theorem lawc_41 {p : Program} {l : Launch} {e : Env} {s : State} {m : MethodId} {args : Array Value} {below : List Frame} {meth : Method} {c : Code} {Z : gZ} {Q : State → Prop} {k : Nat} {M : gM} {b L : Nat} {xs : Nat → Int32} {i : Int32} {PM : gM → Prop} (hfl : l.stackTraces = false) (hC : gD p s m args c cL_law 7 RL Z) (hNc : gNc s) (hX : va_X b L xs s s.heap) (hbl : b < s.heap.size) (hbA : ¬ zA Z b) (h1 : vp_in (i + 1) L) (hk1 : k + 6 ≤ 601024) (hk2 : 6 * (k + 6) ≤ 7293034) (hAg : AgB (f_L_counts M (xs (i + 1).toNatClampNeg)) (fun M1 => f_X9_counts M1 (xs (i + 1).toNatClampNeg)) PM) (kk : ∀ M2, PM M2 → gV p l e room_1 s m args below meth c 7 Z Q (k + 6) M2 3558 [(0, .ref b), (1, .ref (zad Z 0)), (2, .ref (zad Z 9)), (3, .ref (zad Z 10)), (4, .int i)] []) : gV p l e room_1 s m args below meth c 7 Z Q k M 2960 [(0, .ref b), (1, .ref (zad Z 0)), (2, .ref (zad Z 9)), (3, .ref (zad Z 10)), (4, .int i)] [] := by
  obtain ⟨v, M1, b0, M2, hr1, hr2, h9, hout, hPM⟩ := hAg
  dsimp only at hr2
  refine v_aload_n hC 1 dL_law_2960 rfl rfl ?_
  refine v_aload_n hC 0 dL_law_2961 rfl rfl ?_
  refine v_iload hC 4 dL_law_2962 rfl ?_
  refine v_iconst hC (v := 1) dL_law_2964 (by decide) ?_
  refine v_iadd hC dL_law_2965 ?_
  refine v_sld hC hX hbl hbA h1 dL_law_2966 ?_
  refine v_aload_n hC 3 dL_law_2967 rfl rfl ?_
  refine v_callLE (n := 3) hC hr1 [.ref (zad Z 0), .int (xs (i + 1).toNatClampNeg), .ref (zad Z 10)] hNc (fun hne => c_L_counts hfl Z M (xs (i + 1).toNatClampNeg) hne) ll_318 mw_L_counts.1 mw_L_counts.2.1 mw_L_counts.2.2 ⟨by decide, by decide, by decide +kernel⟩ rfl rfl ⟨by decide, by decide⟩ rfl rfl (Nat.le_of_ble_eq_true rfl) (by show _ ≤ 601024; omega) (by show _ ≤ 7293034; omega) dL_law_2968 ?_
  refine v_istore hC (lv1 := [(5, .int v), (0, .ref b), (1, .ref (zad Z 0)), (2, .ref (zad Z 9)), (3, .ref (zad Z 10)), (4, .int i)]) dL_law_2971 (by decide) rfl ?_
  refine v_aload_n hC 3 dL_law_2973 rfl rfl ?_
  refine v_aload_n hC 1 dL_law_2974 rfl rfl ?_
  refine v_iload hC 5 dL_law_2975 rfl ?_
  refine v_iconst hC (v := 1) dL_law_2977 (by decide) ?_
  refine v_iadd hC dL_law_2978 ?_
  refine v_sld hC hX hbl hbA h1 dL_law_2979 ?_
  refine v_callEi (n := 1) hC hr2 [.int (xs (i + 1).toNatClampNeg)] 9 9 (by decide) rfl rfl (fun hne => c_X9_counts hfl Z M1 (xs (i + 1).toNatClampNeg) hne) ll_320 mw_X9_counts.1 mw_X9_counts.2.1 mw_X9_counts.2.2.1 mw_X9_counts.2.2.2 ⟨rfl, by decide, by decide, by decide +kernel⟩ rfl rfl ⟨by decide, by decide⟩ rfl rfl (Nat.le_of_ble_eq_true rfl) (by show _ ≤ 601024; omega) (by show _ ≤ 7293034; omega) dL_law_2980 ?_
  refine v_istore hC (lv1 := [(6, .int b0), (5, .int v), (0, .ref b), (1, .ref (zad Z 0)), (2, .ref (zad Z 9)), (3, .ref (zad Z 10)), (4, .int i)]) dL_law_2983 (by decide) rfl ?_
  refine v_aload_n hC 4 dL_law_2985 rfl rfl ?_
  refine v_callEi (n := 0) hC (rfl : f_X9_thrown M2 = rRet (M2 9 0) M2) [] 9 9 (by decide) rfl rfl (fun hne => c_X9_thrown hfl Z M2  hne) ll_184 mw_X9_thrown.1 mw_X9_thrown.2.1 mw_X9_thrown.2.2.1 mw_X9_thrown.2.2.2 ⟨rfl, by decide, by decide, by decide +kernel⟩ rfl rfl ⟨by decide, by decide⟩ rfl rfl (Nat.le_of_ble_eq_true rfl) (by show _ ≤ 601024; omega) (by show _ ≤ 7293034; omega) dL_law_2986 ?_
  refine v_iload hC 1 dL_law_2989 rfl ?_
  refine v_icmp_eq (tgt := 2996) hC dL_law_2991 (by decide) (fun _ => ?_) (fun h => absurd h9 h)
  refine v_iload hC 1 dL_law_2996 rfl ?_
  refine v_if_ne (tgt := 3020) hC dL_law_2998 (by decide) (fun _ => ?_) (fun hv0 => ?_)
  · refine v_goto (tgt := 3558) hC dL_law_3020 (by decide) ?_
    refine v_sub (lv1 := [(0, .ref b), (1, .ref (zad Z 0)), (2, .ref (zad Z 9)), (3, .ref (zad Z 10)), (4, .int i)]) [2, 3, 4, 5, 6] rfl ?_
    refine v_widen (k1 := k + 6) (by omega) ?_
    exact kk M2 hPM
  · skip
    refine v_aload_n hC 5 dL_law_3001 rfl rfl ?_
    refine v_iconst hC (v := 0) dL_law_3002 (by decide) ?_
    refine v_lald hC dL_law_3003 ?_
    refine v_iload hC 0 dL_law_3004 rfl ?_
    refine v_boolL (tgt := 3013) hC dL_law_3006 (by decide) dL_law_3009 dL_law_3010 (by decide) dL_law_3013 ?_
    refine v_lcmp hC dL_law_3014 ?_
    refine v_if_eq (tgt := 3020) hC dL_law_3015 (by decide) (fun _ => ?_) (fun h => absurd (lg_cmp_self (by rw [hout hv0])) h)
    refine v_goto (tgt := 3558) hC dL_law_3020 (by decide) ?_
    refine v_sub (lv1 := [(0, .ref b), (1, .ref (zad Z 0)), (2, .ref (zad Z 9)), (3, .ref (zad Z 10)), (4, .int i)]) [2, 3, 4, 5, 6] rfl ?_
    refine v_widen (k1 := k + 6) (by omega) ?_
    exact kk M2 hPM
set_option maxRecDepth 20000 in
set_option maxHeartbeats 4000000 in
theorem lawc_42 {p : Program} {l : Launch} {e : Env} {s : State} {m : MethodId} {args : Array Value} {below : List Frame} {meth : Method} {c : Code} {Z : gZ} {Q : State → Prop} {k : Nat} {M : gM} {b L : Nat} {xs : Nat → Int32} {i : Int32} {PM : gM → Prop} (hfl : l.stackTraces = false) (hC : gD p s m args c cL_law 7 RL Z) (hNc : gNc s) (hX : va_X b L xs s s.heap) (hbl : b < s.heap.size) (hbA : ¬ zA Z b) (h1 : vp_in (i + 1) L) (hk1 : k + 6 ≤ 601024) (hk2 : 6 * (k + 6) ≤ 7293034) (hAg : AgI (f_L_stateOf M (xs (i + 1).toNatClampNeg)) (fun M1 => f_X9_stateOf M1 (xs (i + 1).toNatClampNeg)) PM) (kk : ∀ M2, PM M2 → gV p l e room_1 s m args below meth c 7 Z Q (k + 6) M2 3558 [(0, .ref b), (1, .ref (zad Z 0)), (2, .ref (zad Z 9)), (3, .ref (zad Z 10)), (4, .int i)] []) : gV p l e room_1 s m args below meth c 7 Z Q k M 3023 [(0, .ref b), (1, .ref (zad Z 0)), (2, .ref (zad Z 9)), (3, .ref (zad Z 10)), (4, .int i)] [] := by
  obtain ⟨v, M1, b0, M2, hr1, hr2, h9, hout, hPM⟩ := hAg
  dsimp only at hr2
  refine v_aload_n hC 1 dL_law_3023 rfl rfl ?_
  refine v_aload_n hC 0 dL_law_3024 rfl rfl ?_
  refine v_iload hC 4 dL_law_3025 rfl ?_
  refine v_iconst hC (v := 1) dL_law_3027 (by decide) ?_
  refine v_iadd hC dL_law_3028 ?_
  refine v_sld hC hX hbl hbA h1 dL_law_3029 ?_
  refine v_aload_n hC 3 dL_law_3030 rfl rfl ?_
  refine v_callLE (n := 3) hC hr1 [.ref (zad Z 0), .int (xs (i + 1).toNatClampNeg), .ref (zad Z 10)] hNc (fun hne => c_L_stateOf hfl Z M (xs (i + 1).toNatClampNeg) hne) ll_321 mw_L_stateOf.1 mw_L_stateOf.2.1 mw_L_stateOf.2.2 ⟨by decide, by decide, by decide +kernel⟩ rfl rfl ⟨by decide, by decide⟩ rfl rfl (Nat.le_of_ble_eq_true rfl) (by show _ ≤ 601024; omega) (by show _ ≤ 7293034; omega) dL_law_3031 ?_
  refine v_istore hC (lv1 := [(5, .int v), (0, .ref b), (1, .ref (zad Z 0)), (2, .ref (zad Z 9)), (3, .ref (zad Z 10)), (4, .int i)]) dL_law_3034 (by decide) rfl ?_
  refine v_aload_n hC 3 dL_law_3036 rfl rfl ?_
  refine v_aload_n hC 1 dL_law_3037 rfl rfl ?_
  refine v_iload hC 5 dL_law_3038 rfl ?_
  refine v_iconst hC (v := 1) dL_law_3040 (by decide) ?_
  refine v_iadd hC dL_law_3041 ?_
  refine v_sld hC hX hbl hbA h1 dL_law_3042 ?_
  refine v_callEi (n := 1) hC hr2 [.int (xs (i + 1).toNatClampNeg)] 9 9 (by decide) rfl rfl (fun hne => c_X9_stateOf hfl Z M1 (xs (i + 1).toNatClampNeg) hne) ll_323 mw_X9_stateOf.1 mw_X9_stateOf.2.1 mw_X9_stateOf.2.2.1 mw_X9_stateOf.2.2.2 ⟨rfl, by decide, by decide, by decide +kernel⟩ rfl rfl ⟨by decide, by decide⟩ rfl rfl (Nat.le_of_ble_eq_true rfl) (by show _ ≤ 601024; omega) (by show _ ≤ 7293034; omega) dL_law_3043 ?_
  refine v_istore hC (lv1 := [(6, .int b0), (5, .int v), (0, .ref b), (1, .ref (zad Z 0)), (2, .ref (zad Z 9)), (3, .ref (zad Z 10)), (4, .int i)]) dL_law_3046 (by decide) rfl ?_
  refine v_aload_n hC 4 dL_law_3048 rfl rfl ?_
  refine v_callEi (n := 0) hC (rfl : f_X9_thrown M2 = rRet (M2 9 0) M2) [] 9 9 (by decide) rfl rfl (fun hne => c_X9_thrown hfl Z M2  hne) ll_184 mw_X9_thrown.1 mw_X9_thrown.2.1 mw_X9_thrown.2.2.1 mw_X9_thrown.2.2.2 ⟨rfl, by decide, by decide, by decide +kernel⟩ rfl rfl ⟨by decide, by decide⟩ rfl rfl (Nat.le_of_ble_eq_true rfl) (by show _ ≤ 601024; omega) (by show _ ≤ 7293034; omega) dL_law_3049 ?_
  refine v_iload hC 1 dL_law_3052 rfl ?_
  refine v_icmp_eq (tgt := 3059) hC dL_law_3054 (by decide) (fun _ => ?_) (fun h => absurd h9 h)
  refine v_iload hC 1 dL_law_3059 rfl ?_
  refine v_if_ne (tgt := 3076) hC dL_law_3061 (by decide) (fun _ => ?_) (fun hv0 => ?_)
  · refine v_goto (tgt := 3558) hC dL_law_3076 (by decide) ?_
    refine v_sub (lv1 := [(0, .ref b), (1, .ref (zad Z 0)), (2, .ref (zad Z 9)), (3, .ref (zad Z 10)), (4, .int i)]) [2, 3, 4, 5, 6] rfl ?_
    refine v_widen (k1 := k + 6) (by omega) ?_
    exact kk M2 hPM
  · skip
    refine v_aload_n hC 5 dL_law_3064 rfl rfl ?_
    refine v_iconst hC (v := 0) dL_law_3065 (by decide) ?_
    refine v_lald hC dL_law_3066 ?_
    refine v_iload hC 0 dL_law_3067 rfl ?_
    refine v_i2l hC dL_law_3069 ?_
    refine v_lcmp hC dL_law_3070 ?_
    refine v_if_eq (tgt := 3076) hC dL_law_3071 (by decide) (fun _ => ?_) (fun h => absurd (lg_cmp_self (by rw [hout hv0])) h)
    refine v_goto (tgt := 3558) hC dL_law_3076 (by decide) ?_
    refine v_sub (lv1 := [(0, .ref b), (1, .ref (zad Z 0)), (2, .ref (zad Z 9)), (3, .ref (zad Z 10)), (4, .int i)]) [2, 3, 4, 5, 6] rfl ?_
    refine v_widen (k1 := k + 6) (by omega) ?_
    exact kk M2 hPM
set_option maxRecDepth 20000 in
set_option maxHeartbeats 4000000 in
theorem lawc_43 {p : Program} {l : Launch} {e : Env} {s : State} {m : MethodId} {args : Array Value} {below : List Frame} {meth : Method} {c : Code} {Z : gZ} {Q : State → Prop} {k : Nat} {M : gM} {b L : Nat} {xs : Nat → Int32} {i : Int32} {PM : gM → Prop} (hfl : l.stackTraces = false) (hC : gD p s m args c cL_law 7 RL Z) (hNc : gNc s) (hX : va_X b L xs s s.heap) (hbl : b < s.heap.size) (hbA : ¬ zA Z b) (h1 : vp_in (i + 1) L) (hk1 : k + 6 ≤ 601024) (hk2 : 6 * (k + 6) ≤ 7293034) (hAg : AgI (f_L_stateByDocket M (xs (i + 1).toNatClampNeg)) (fun M1 => f_X9_stateByDocket M1 (xs (i + 1).toNatClampNeg)) PM) (kk : ∀ M2, PM M2 → gV p l e room_1 s m args below meth c 7 Z Q (k + 6) M2 3558 [(0, .ref b), (1, .ref (zad Z 0)), (2, .ref (zad Z 9)), (3, .ref (zad Z 10)), (4, .int i)] []) : gV p l e room_1 s m args below meth c 7 Z Q k M 3079 [(0, .ref b), (1, .ref (zad Z 0)), (2, .ref (zad Z 9)), (3, .ref (zad Z 10)), (4, .int i)] [] := by
  obtain ⟨v, M1, b0, M2, hr1, hr2, h9, hout, hPM⟩ := hAg
  dsimp only at hr2
  refine v_aload_n hC 1 dL_law_3079 rfl rfl ?_
  refine v_aload_n hC 0 dL_law_3080 rfl rfl ?_
  refine v_iload hC 4 dL_law_3081 rfl ?_
  refine v_iconst hC (v := 1) dL_law_3083 (by decide) ?_
  refine v_iadd hC dL_law_3084 ?_
  refine v_sld hC hX hbl hbA h1 dL_law_3085 ?_
  refine v_aload_n hC 3 dL_law_3086 rfl rfl ?_
  refine v_callLE (n := 3) hC hr1 [.ref (zad Z 0), .int (xs (i + 1).toNatClampNeg), .ref (zad Z 10)] hNc (fun hne => c_L_stateByDocket hfl Z M (xs (i + 1).toNatClampNeg) hne) ll_324 mw_L_stateByDocket.1 mw_L_stateByDocket.2.1 mw_L_stateByDocket.2.2 ⟨by decide, by decide, by decide +kernel⟩ rfl rfl ⟨by decide, by decide⟩ rfl rfl (Nat.le_of_ble_eq_true rfl) (by show _ ≤ 601024; omega) (by show _ ≤ 7293034; omega) dL_law_3087 ?_
  refine v_istore hC (lv1 := [(5, .int v), (0, .ref b), (1, .ref (zad Z 0)), (2, .ref (zad Z 9)), (3, .ref (zad Z 10)), (4, .int i)]) dL_law_3090 (by decide) rfl ?_
  refine v_aload_n hC 3 dL_law_3092 rfl rfl ?_
  refine v_aload_n hC 1 dL_law_3093 rfl rfl ?_
  refine v_iload hC 5 dL_law_3094 rfl ?_
  refine v_iconst hC (v := 1) dL_law_3096 (by decide) ?_
  refine v_iadd hC dL_law_3097 ?_
  refine v_sld hC hX hbl hbA h1 dL_law_3098 ?_
  refine v_callEi (n := 1) hC hr2 [.int (xs (i + 1).toNatClampNeg)] 9 9 (by decide) rfl rfl (fun hne => c_X9_stateByDocket hfl Z M1 (xs (i + 1).toNatClampNeg) hne) ll_326 mw_X9_stateByDocket.1 mw_X9_stateByDocket.2.1 mw_X9_stateByDocket.2.2.1 mw_X9_stateByDocket.2.2.2 ⟨rfl, by decide, by decide, by decide +kernel⟩ rfl rfl ⟨by decide, by decide⟩ rfl rfl (Nat.le_of_ble_eq_true rfl) (by show _ ≤ 601024; omega) (by show _ ≤ 7293034; omega) dL_law_3099 ?_
  refine v_istore hC (lv1 := [(6, .int b0), (5, .int v), (0, .ref b), (1, .ref (zad Z 0)), (2, .ref (zad Z 9)), (3, .ref (zad Z 10)), (4, .int i)]) dL_law_3102 (by decide) rfl ?_
  refine v_aload_n hC 4 dL_law_3104 rfl rfl ?_
  refine v_callEi (n := 0) hC (rfl : f_X9_thrown M2 = rRet (M2 9 0) M2) [] 9 9 (by decide) rfl rfl (fun hne => c_X9_thrown hfl Z M2  hne) ll_184 mw_X9_thrown.1 mw_X9_thrown.2.1 mw_X9_thrown.2.2.1 mw_X9_thrown.2.2.2 ⟨rfl, by decide, by decide, by decide +kernel⟩ rfl rfl ⟨by decide, by decide⟩ rfl rfl (Nat.le_of_ble_eq_true rfl) (by show _ ≤ 601024; omega) (by show _ ≤ 7293034; omega) dL_law_3105 ?_
  refine v_iload hC 1 dL_law_3108 rfl ?_
  refine v_icmp_eq (tgt := 3115) hC dL_law_3110 (by decide) (fun _ => ?_) (fun h => absurd h9 h)
  refine v_iload hC 1 dL_law_3115 rfl ?_
  refine v_if_ne (tgt := 3132) hC dL_law_3117 (by decide) (fun _ => ?_) (fun hv0 => ?_)
  · refine v_goto (tgt := 3558) hC dL_law_3132 (by decide) ?_
    refine v_sub (lv1 := [(0, .ref b), (1, .ref (zad Z 0)), (2, .ref (zad Z 9)), (3, .ref (zad Z 10)), (4, .int i)]) [2, 3, 4, 5, 6] rfl ?_
    refine v_widen (k1 := k + 6) (by omega) ?_
    exact kk M2 hPM
  · skip
    refine v_aload_n hC 5 dL_law_3120 rfl rfl ?_
    refine v_iconst hC (v := 0) dL_law_3121 (by decide) ?_
    refine v_lald hC dL_law_3122 ?_
    refine v_iload hC 0 dL_law_3123 rfl ?_
    refine v_i2l hC dL_law_3125 ?_
    refine v_lcmp hC dL_law_3126 ?_
    refine v_if_eq (tgt := 3132) hC dL_law_3127 (by decide) (fun _ => ?_) (fun h => absurd (lg_cmp_self (by rw [hout hv0])) h)
    refine v_goto (tgt := 3558) hC dL_law_3132 (by decide) ?_
    refine v_sub (lv1 := [(0, .ref b), (1, .ref (zad Z 0)), (2, .ref (zad Z 9)), (3, .ref (zad Z 10)), (4, .int i)]) [2, 3, 4, 5, 6] rfl ?_
    refine v_widen (k1 := k + 6) (by omega) ?_
    exact kk M2 hPM
set_option maxRecDepth 20000 in
set_option maxHeartbeats 4000000 in
theorem lawc_44 {p : Program} {l : Launch} {e : Env} {s : State} {m : MethodId} {args : Array Value} {below : List Frame} {meth : Method} {c : Code} {Z : gZ} {Q : State → Prop} {k : Nat} {M : gM} {b L : Nat} {xs : Nat → Int32} {i : Int32} {PM : gM → Prop} (hfl : l.stackTraces = false) (hC : gD p s m args c cL_law 7 RL Z) (hNc : gNc s) (hX : va_X b L xs s s.heap) (hbl : b < s.heap.size) (hbA : ¬ zA Z b) (h1 : vp_in (i + 1) L) (hk1 : k + 6 ≤ 601024) (hk2 : 6 * (k + 6) ≤ 7293034) (hAg : AgI (f_L_amountOf M (xs (i + 1).toNatClampNeg)) (fun M1 => f_X9_amountOf M1 (xs (i + 1).toNatClampNeg)) PM) (kk : ∀ M2, PM M2 → gV p l e room_1 s m args below meth c 7 Z Q (k + 6) M2 3558 [(0, .ref b), (1, .ref (zad Z 0)), (2, .ref (zad Z 9)), (3, .ref (zad Z 10)), (4, .int i)] []) : gV p l e room_1 s m args below meth c 7 Z Q k M 3135 [(0, .ref b), (1, .ref (zad Z 0)), (2, .ref (zad Z 9)), (3, .ref (zad Z 10)), (4, .int i)] [] := by
  obtain ⟨v, M1, b0, M2, hr1, hr2, h9, hout, hPM⟩ := hAg
  dsimp only at hr2
  refine v_aload_n hC 1 dL_law_3135 rfl rfl ?_
  refine v_aload_n hC 0 dL_law_3136 rfl rfl ?_
  refine v_iload hC 4 dL_law_3137 rfl ?_
  refine v_iconst hC (v := 1) dL_law_3139 (by decide) ?_
  refine v_iadd hC dL_law_3140 ?_
  refine v_sld hC hX hbl hbA h1 dL_law_3141 ?_
  refine v_aload_n hC 3 dL_law_3142 rfl rfl ?_
  refine v_callLE (n := 3) hC hr1 [.ref (zad Z 0), .int (xs (i + 1).toNatClampNeg), .ref (zad Z 10)] hNc (fun hne => c_L_amountOf hfl Z M (xs (i + 1).toNatClampNeg) hne) ll_327 mw_L_amountOf.1 mw_L_amountOf.2.1 mw_L_amountOf.2.2 ⟨by decide, by decide, by decide +kernel⟩ rfl rfl ⟨by decide, by decide⟩ rfl rfl (Nat.le_of_ble_eq_true rfl) (by show _ ≤ 601024; omega) (by show _ ≤ 7293034; omega) dL_law_3143 ?_
  refine v_istore hC (lv1 := [(5, .int v), (0, .ref b), (1, .ref (zad Z 0)), (2, .ref (zad Z 9)), (3, .ref (zad Z 10)), (4, .int i)]) dL_law_3146 (by decide) rfl ?_
  refine v_aload_n hC 3 dL_law_3148 rfl rfl ?_
  refine v_aload_n hC 1 dL_law_3149 rfl rfl ?_
  refine v_iload hC 5 dL_law_3150 rfl ?_
  refine v_iconst hC (v := 1) dL_law_3152 (by decide) ?_
  refine v_iadd hC dL_law_3153 ?_
  refine v_sld hC hX hbl hbA h1 dL_law_3154 ?_
  refine v_callEi (n := 1) hC hr2 [.int (xs (i + 1).toNatClampNeg)] 9 9 (by decide) rfl rfl (fun hne => c_X9_amountOf hfl Z M1 (xs (i + 1).toNatClampNeg) hne) ll_329 mw_X9_amountOf.1 mw_X9_amountOf.2.1 mw_X9_amountOf.2.2.1 mw_X9_amountOf.2.2.2 ⟨rfl, by decide, by decide, by decide +kernel⟩ rfl rfl ⟨by decide, by decide⟩ rfl rfl (Nat.le_of_ble_eq_true rfl) (by show _ ≤ 601024; omega) (by show _ ≤ 7293034; omega) dL_law_3155 ?_
  refine v_istore hC (lv1 := [(6, .int b0), (5, .int v), (0, .ref b), (1, .ref (zad Z 0)), (2, .ref (zad Z 9)), (3, .ref (zad Z 10)), (4, .int i)]) dL_law_3158 (by decide) rfl ?_
  refine v_aload_n hC 4 dL_law_3160 rfl rfl ?_
  refine v_callEi (n := 0) hC (rfl : f_X9_thrown M2 = rRet (M2 9 0) M2) [] 9 9 (by decide) rfl rfl (fun hne => c_X9_thrown hfl Z M2  hne) ll_184 mw_X9_thrown.1 mw_X9_thrown.2.1 mw_X9_thrown.2.2.1 mw_X9_thrown.2.2.2 ⟨rfl, by decide, by decide, by decide +kernel⟩ rfl rfl ⟨by decide, by decide⟩ rfl rfl (Nat.le_of_ble_eq_true rfl) (by show _ ≤ 601024; omega) (by show _ ≤ 7293034; omega) dL_law_3161 ?_
  refine v_iload hC 1 dL_law_3164 rfl ?_
  refine v_icmp_eq (tgt := 3171) hC dL_law_3166 (by decide) (fun _ => ?_) (fun h => absurd h9 h)
  refine v_iload hC 1 dL_law_3171 rfl ?_
  refine v_if_ne (tgt := 3188) hC dL_law_3173 (by decide) (fun _ => ?_) (fun hv0 => ?_)
  · refine v_goto (tgt := 3558) hC dL_law_3188 (by decide) ?_
    refine v_sub (lv1 := [(0, .ref b), (1, .ref (zad Z 0)), (2, .ref (zad Z 9)), (3, .ref (zad Z 10)), (4, .int i)]) [2, 3, 4, 5, 6] rfl ?_
    refine v_widen (k1 := k + 6) (by omega) ?_
    exact kk M2 hPM
  · skip
    refine v_aload_n hC 5 dL_law_3176 rfl rfl ?_
    refine v_iconst hC (v := 0) dL_law_3177 (by decide) ?_
    refine v_lald hC dL_law_3178 ?_
    refine v_iload hC 0 dL_law_3179 rfl ?_
    refine v_i2l hC dL_law_3181 ?_
    refine v_lcmp hC dL_law_3182 ?_
    refine v_if_eq (tgt := 3188) hC dL_law_3183 (by decide) (fun _ => ?_) (fun h => absurd (lg_cmp_self (by rw [hout hv0])) h)
    refine v_goto (tgt := 3558) hC dL_law_3188 (by decide) ?_
    refine v_sub (lv1 := [(0, .ref b), (1, .ref (zad Z 0)), (2, .ref (zad Z 9)), (3, .ref (zad Z 10)), (4, .int i)]) [2, 3, 4, 5, 6] rfl ?_
    refine v_widen (k1 := k + 6) (by omega) ?_
    exact kk M2 hPM
set_option maxRecDepth 20000 in
set_option maxHeartbeats 4000000 in
theorem lawc_45 {p : Program} {l : Launch} {e : Env} {s : State} {m : MethodId} {args : Array Value} {below : List Frame} {meth : Method} {c : Code} {Z : gZ} {Q : State → Prop} {k : Nat} {M : gM} {b L : Nat} {xs : Nat → Int32} {i : Int32} {PM : gM → Prop} (hfl : l.stackTraces = false) (hC : gD p s m args c cL_law 7 RL Z) (hNc : gNc s) (hX : va_X b L xs s s.heap) (hbl : b < s.heap.size) (hbA : ¬ zA Z b) (h1 : vp_in (i + 1) L) (hk1 : k + 6 ≤ 601024) (hk2 : 6 * (k + 6) ≤ 7293034) (hAg : AgI (f_L_balance M (xs (i + 1).toNatClampNeg)) (fun M1 => f_X9_balance M1 (xs (i + 1).toNatClampNeg)) PM) (kk : ∀ M2, PM M2 → gV p l e room_1 s m args below meth c 7 Z Q (k + 6) M2 3558 [(0, .ref b), (1, .ref (zad Z 0)), (2, .ref (zad Z 9)), (3, .ref (zad Z 10)), (4, .int i)] []) : gV p l e room_1 s m args below meth c 7 Z Q k M 3191 [(0, .ref b), (1, .ref (zad Z 0)), (2, .ref (zad Z 9)), (3, .ref (zad Z 10)), (4, .int i)] [] := by
  obtain ⟨v, M1, b0, M2, hr1, hr2, h9, hout, hPM⟩ := hAg
  dsimp only at hr2
  refine v_aload_n hC 1 dL_law_3191 rfl rfl ?_
  refine v_aload_n hC 0 dL_law_3192 rfl rfl ?_
  refine v_iload hC 4 dL_law_3193 rfl ?_
  refine v_iconst hC (v := 1) dL_law_3195 (by decide) ?_
  refine v_iadd hC dL_law_3196 ?_
  refine v_sld hC hX hbl hbA h1 dL_law_3197 ?_
  refine v_aload_n hC 3 dL_law_3198 rfl rfl ?_
  refine v_callLE (n := 3) hC hr1 [.ref (zad Z 0), .int (xs (i + 1).toNatClampNeg), .ref (zad Z 10)] hNc (fun hne => c_L_balance hfl Z M (xs (i + 1).toNatClampNeg) hne) ll_330 mw_L_balance.1 mw_L_balance.2.1 mw_L_balance.2.2 ⟨by decide, by decide, by decide +kernel⟩ rfl rfl ⟨by decide, by decide⟩ rfl rfl (Nat.le_of_ble_eq_true rfl) (by show _ ≤ 601024; omega) (by show _ ≤ 7293034; omega) dL_law_3199 ?_
  refine v_istore hC (lv1 := [(5, .int v), (0, .ref b), (1, .ref (zad Z 0)), (2, .ref (zad Z 9)), (3, .ref (zad Z 10)), (4, .int i)]) dL_law_3202 (by decide) rfl ?_
  refine v_aload_n hC 3 dL_law_3204 rfl rfl ?_
  refine v_aload_n hC 1 dL_law_3205 rfl rfl ?_
  refine v_iload hC 5 dL_law_3206 rfl ?_
  refine v_iconst hC (v := 1) dL_law_3208 (by decide) ?_
  refine v_iadd hC dL_law_3209 ?_
  refine v_sld hC hX hbl hbA h1 dL_law_3210 ?_
  refine v_callEi (n := 1) hC hr2 [.int (xs (i + 1).toNatClampNeg)] 9 9 (by decide) rfl rfl (fun hne => c_X9_balance hfl Z M1 (xs (i + 1).toNatClampNeg) hne) ll_332 mw_X9_balance.1 mw_X9_balance.2.1 mw_X9_balance.2.2.1 mw_X9_balance.2.2.2 ⟨rfl, by decide, by decide, by decide +kernel⟩ rfl rfl ⟨by decide, by decide⟩ rfl rfl (Nat.le_of_ble_eq_true rfl) (by show _ ≤ 601024; omega) (by show _ ≤ 7293034; omega) dL_law_3211 ?_
  refine v_istore hC (lv1 := [(6, .int b0), (5, .int v), (0, .ref b), (1, .ref (zad Z 0)), (2, .ref (zad Z 9)), (3, .ref (zad Z 10)), (4, .int i)]) dL_law_3214 (by decide) rfl ?_
  refine v_aload_n hC 4 dL_law_3216 rfl rfl ?_
  refine v_callEi (n := 0) hC (rfl : f_X9_thrown M2 = rRet (M2 9 0) M2) [] 9 9 (by decide) rfl rfl (fun hne => c_X9_thrown hfl Z M2  hne) ll_184 mw_X9_thrown.1 mw_X9_thrown.2.1 mw_X9_thrown.2.2.1 mw_X9_thrown.2.2.2 ⟨rfl, by decide, by decide, by decide +kernel⟩ rfl rfl ⟨by decide, by decide⟩ rfl rfl (Nat.le_of_ble_eq_true rfl) (by show _ ≤ 601024; omega) (by show _ ≤ 7293034; omega) dL_law_3217 ?_
  refine v_iload hC 1 dL_law_3220 rfl ?_
  refine v_icmp_eq (tgt := 3227) hC dL_law_3222 (by decide) (fun _ => ?_) (fun h => absurd h9 h)
  refine v_iload hC 1 dL_law_3227 rfl ?_
  refine v_if_ne (tgt := 3244) hC dL_law_3229 (by decide) (fun _ => ?_) (fun hv0 => ?_)
  · refine v_goto (tgt := 3558) hC dL_law_3244 (by decide) ?_
    refine v_sub (lv1 := [(0, .ref b), (1, .ref (zad Z 0)), (2, .ref (zad Z 9)), (3, .ref (zad Z 10)), (4, .int i)]) [2, 3, 4, 5, 6] rfl ?_
    refine v_widen (k1 := k + 6) (by omega) ?_
    exact kk M2 hPM
  · skip
    refine v_aload_n hC 5 dL_law_3232 rfl rfl ?_
    refine v_iconst hC (v := 0) dL_law_3233 (by decide) ?_
    refine v_lald hC dL_law_3234 ?_
    refine v_iload hC 0 dL_law_3235 rfl ?_
    refine v_i2l hC dL_law_3237 ?_
    refine v_lcmp hC dL_law_3238 ?_
    refine v_if_eq (tgt := 3244) hC dL_law_3239 (by decide) (fun _ => ?_) (fun h => absurd (lg_cmp_self (by rw [hout hv0])) h)
    refine v_goto (tgt := 3558) hC dL_law_3244 (by decide) ?_
    refine v_sub (lv1 := [(0, .ref b), (1, .ref (zad Z 0)), (2, .ref (zad Z 9)), (3, .ref (zad Z 10)), (4, .int i)]) [2, 3, 4, 5, 6] rfl ?_
    refine v_widen (k1 := k + 6) (by omega) ?_
    exact kk M2 hPM
set_option maxRecDepth 20000 in
set_option maxHeartbeats 4000000 in
theorem lawc_46 {p : Program} {l : Launch} {e : Env} {s : State} {m : MethodId} {args : Array Value} {below : List Frame} {meth : Method} {c : Code} {Z : gZ} {Q : State → Prop} {k : Nat} {M : gM} {b L : Nat} {xs : Nat → Int32} {i : Int32} {PM : gM → Prop} (hfl : l.stackTraces = false) (hC : gD p s m args c cL_law 7 RL Z) (hNc : gNc s) (hX : va_X b L xs s s.heap) (hbl : b < s.heap.size) (hbA : ¬ zA Z b) (h1 : vp_in (i + 1) L) (hk1 : k + 6 ≤ 601024) (hk2 : 6 * (k + 6) ≤ 7293034) (hAg : AgI (f_L_caseOf M (xs (i + 1).toNatClampNeg)) (fun M1 => f_X9_caseOf M1 (xs (i + 1).toNatClampNeg)) PM) (kk : ∀ M2, PM M2 → gV p l e room_1 s m args below meth c 7 Z Q (k + 6) M2 3558 [(0, .ref b), (1, .ref (zad Z 0)), (2, .ref (zad Z 9)), (3, .ref (zad Z 10)), (4, .int i)] []) : gV p l e room_1 s m args below meth c 7 Z Q k M 3247 [(0, .ref b), (1, .ref (zad Z 0)), (2, .ref (zad Z 9)), (3, .ref (zad Z 10)), (4, .int i)] [] := by
  obtain ⟨v, M1, b0, M2, hr1, hr2, h9, hout, hPM⟩ := hAg
  dsimp only at hr2
  refine v_aload_n hC 1 dL_law_3247 rfl rfl ?_
  refine v_aload_n hC 0 dL_law_3248 rfl rfl ?_
  refine v_iload hC 4 dL_law_3249 rfl ?_
  refine v_iconst hC (v := 1) dL_law_3251 (by decide) ?_
  refine v_iadd hC dL_law_3252 ?_
  refine v_sld hC hX hbl hbA h1 dL_law_3253 ?_
  refine v_aload_n hC 3 dL_law_3254 rfl rfl ?_
  refine v_callLE (n := 3) hC hr1 [.ref (zad Z 0), .int (xs (i + 1).toNatClampNeg), .ref (zad Z 10)] hNc (fun hne => c_L_caseOf hfl Z M (xs (i + 1).toNatClampNeg) hne) ll_333 mw_L_caseOf.1 mw_L_caseOf.2.1 mw_L_caseOf.2.2 ⟨by decide, by decide, by decide +kernel⟩ rfl rfl ⟨by decide, by decide⟩ rfl rfl (Nat.le_of_ble_eq_true rfl) (by show _ ≤ 601024; omega) (by show _ ≤ 7293034; omega) dL_law_3255 ?_
  refine v_istore hC (lv1 := [(5, .int v), (0, .ref b), (1, .ref (zad Z 0)), (2, .ref (zad Z 9)), (3, .ref (zad Z 10)), (4, .int i)]) dL_law_3258 (by decide) rfl ?_
  refine v_aload_n hC 3 dL_law_3260 rfl rfl ?_
  refine v_aload_n hC 1 dL_law_3261 rfl rfl ?_
  refine v_iload hC 5 dL_law_3262 rfl ?_
  refine v_iconst hC (v := 1) dL_law_3264 (by decide) ?_
  refine v_iadd hC dL_law_3265 ?_
  refine v_sld hC hX hbl hbA h1 dL_law_3266 ?_
  refine v_callEi (n := 1) hC hr2 [.int (xs (i + 1).toNatClampNeg)] 9 9 (by decide) rfl rfl (fun hne => c_X9_caseOf hfl Z M1 (xs (i + 1).toNatClampNeg) hne) ll_335 mw_X9_caseOf.1 mw_X9_caseOf.2.1 mw_X9_caseOf.2.2.1 mw_X9_caseOf.2.2.2 ⟨rfl, by decide, by decide, by decide +kernel⟩ rfl rfl ⟨by decide, by decide⟩ rfl rfl (Nat.le_of_ble_eq_true rfl) (by show _ ≤ 601024; omega) (by show _ ≤ 7293034; omega) dL_law_3267 ?_
  refine v_istore hC (lv1 := [(6, .int b0), (5, .int v), (0, .ref b), (1, .ref (zad Z 0)), (2, .ref (zad Z 9)), (3, .ref (zad Z 10)), (4, .int i)]) dL_law_3270 (by decide) rfl ?_
  refine v_aload_n hC 4 dL_law_3272 rfl rfl ?_
  refine v_callEi (n := 0) hC (rfl : f_X9_thrown M2 = rRet (M2 9 0) M2) [] 9 9 (by decide) rfl rfl (fun hne => c_X9_thrown hfl Z M2  hne) ll_184 mw_X9_thrown.1 mw_X9_thrown.2.1 mw_X9_thrown.2.2.1 mw_X9_thrown.2.2.2 ⟨rfl, by decide, by decide, by decide +kernel⟩ rfl rfl ⟨by decide, by decide⟩ rfl rfl (Nat.le_of_ble_eq_true rfl) (by show _ ≤ 601024; omega) (by show _ ≤ 7293034; omega) dL_law_3273 ?_
  refine v_iload hC 1 dL_law_3276 rfl ?_
  refine v_icmp_eq (tgt := 3283) hC dL_law_3278 (by decide) (fun _ => ?_) (fun h => absurd h9 h)
  refine v_iload hC 1 dL_law_3283 rfl ?_
  refine v_if_ne (tgt := 3300) hC dL_law_3285 (by decide) (fun _ => ?_) (fun hv0 => ?_)
  · refine v_goto (tgt := 3558) hC dL_law_3300 (by decide) ?_
    refine v_sub (lv1 := [(0, .ref b), (1, .ref (zad Z 0)), (2, .ref (zad Z 9)), (3, .ref (zad Z 10)), (4, .int i)]) [2, 3, 4, 5, 6] rfl ?_
    refine v_widen (k1 := k + 6) (by omega) ?_
    exact kk M2 hPM
  · skip
    refine v_aload_n hC 5 dL_law_3288 rfl rfl ?_
    refine v_iconst hC (v := 0) dL_law_3289 (by decide) ?_
    refine v_lald hC dL_law_3290 ?_
    refine v_iload hC 0 dL_law_3291 rfl ?_
    refine v_i2l hC dL_law_3293 ?_
    refine v_lcmp hC dL_law_3294 ?_
    refine v_if_eq (tgt := 3300) hC dL_law_3295 (by decide) (fun _ => ?_) (fun h => absurd (lg_cmp_self (by rw [hout hv0])) h)
    refine v_goto (tgt := 3558) hC dL_law_3300 (by decide) ?_
    refine v_sub (lv1 := [(0, .ref b), (1, .ref (zad Z 0)), (2, .ref (zad Z 9)), (3, .ref (zad Z 10)), (4, .int i)]) [2, 3, 4, 5, 6] rfl ?_
    refine v_widen (k1 := k + 6) (by omega) ?_
    exact kk M2 hPM
set_option maxRecDepth 20000 in
set_option maxHeartbeats 4000000 in
theorem lawc_47 {p : Program} {l : Launch} {e : Env} {s : State} {m : MethodId} {args : Array Value} {below : List Frame} {meth : Method} {c : Code} {Z : gZ} {Q : State → Prop} {k : Nat} {M : gM} {b L : Nat} {xs : Nat → Int32} {i : Int32} {PM : gM → Prop} (hfl : l.stackTraces = false) (hC : gD p s m args c cL_law 7 RL Z) (hNc : gNc s) (hX : va_X b L xs s s.heap) (hbl : b < s.heap.size) (hbA : ¬ zA Z b) (h1 : vp_in (i + 1) L) (hk1 : k + 6 ≤ 601024) (hk2 : 6 * (k + 6) ≤ 7293034) (hAg : AgB (f_L_isAnswered M (xs (i + 1).toNatClampNeg)) (fun M1 => f_X9_isAnswered M1 (xs (i + 1).toNatClampNeg)) PM) (kk : ∀ M2, PM M2 → gV p l e room_1 s m args below meth c 7 Z Q (k + 6) M2 3558 [(0, .ref b), (1, .ref (zad Z 0)), (2, .ref (zad Z 9)), (3, .ref (zad Z 10)), (4, .int i)] []) : gV p l e room_1 s m args below meth c 7 Z Q k M 3303 [(0, .ref b), (1, .ref (zad Z 0)), (2, .ref (zad Z 9)), (3, .ref (zad Z 10)), (4, .int i)] [] := by
  obtain ⟨v, M1, b0, M2, hr1, hr2, h9, hout, hPM⟩ := hAg
  dsimp only at hr2
  refine v_aload_n hC 1 dL_law_3303 rfl rfl ?_
  refine v_aload_n hC 0 dL_law_3304 rfl rfl ?_
  refine v_iload hC 4 dL_law_3305 rfl ?_
  refine v_iconst hC (v := 1) dL_law_3307 (by decide) ?_
  refine v_iadd hC dL_law_3308 ?_
  refine v_sld hC hX hbl hbA h1 dL_law_3309 ?_
  refine v_aload_n hC 3 dL_law_3310 rfl rfl ?_
  refine v_callLE (n := 3) hC hr1 [.ref (zad Z 0), .int (xs (i + 1).toNatClampNeg), .ref (zad Z 10)] hNc (fun hne => c_L_isAnswered hfl Z M (xs (i + 1).toNatClampNeg) hne) ll_336 mw_L_isAnswered.1 mw_L_isAnswered.2.1 mw_L_isAnswered.2.2 ⟨by decide, by decide, by decide +kernel⟩ rfl rfl ⟨by decide, by decide⟩ rfl rfl (Nat.le_of_ble_eq_true rfl) (by show _ ≤ 601024; omega) (by show _ ≤ 7293034; omega) dL_law_3311 ?_
  refine v_istore hC (lv1 := [(5, .int v), (0, .ref b), (1, .ref (zad Z 0)), (2, .ref (zad Z 9)), (3, .ref (zad Z 10)), (4, .int i)]) dL_law_3314 (by decide) rfl ?_
  refine v_aload_n hC 3 dL_law_3316 rfl rfl ?_
  refine v_aload_n hC 1 dL_law_3317 rfl rfl ?_
  refine v_iload hC 5 dL_law_3318 rfl ?_
  refine v_iconst hC (v := 1) dL_law_3320 (by decide) ?_
  refine v_iadd hC dL_law_3321 ?_
  refine v_sld hC hX hbl hbA h1 dL_law_3322 ?_
  refine v_callEi (n := 1) hC hr2 [.int (xs (i + 1).toNatClampNeg)] 9 9 (by decide) rfl rfl (fun hne => c_X9_isAnswered hfl Z M1 (xs (i + 1).toNatClampNeg) hne) ll_338 mw_X9_isAnswered.1 mw_X9_isAnswered.2.1 mw_X9_isAnswered.2.2.1 mw_X9_isAnswered.2.2.2 ⟨rfl, by decide, by decide, by decide +kernel⟩ rfl rfl ⟨by decide, by decide⟩ rfl rfl (Nat.le_of_ble_eq_true rfl) (by show _ ≤ 601024; omega) (by show _ ≤ 7293034; omega) dL_law_3323 ?_
  refine v_istore hC (lv1 := [(6, .int b0), (5, .int v), (0, .ref b), (1, .ref (zad Z 0)), (2, .ref (zad Z 9)), (3, .ref (zad Z 10)), (4, .int i)]) dL_law_3326 (by decide) rfl ?_
  refine v_aload_n hC 4 dL_law_3328 rfl rfl ?_
  refine v_callEi (n := 0) hC (rfl : f_X9_thrown M2 = rRet (M2 9 0) M2) [] 9 9 (by decide) rfl rfl (fun hne => c_X9_thrown hfl Z M2  hne) ll_184 mw_X9_thrown.1 mw_X9_thrown.2.1 mw_X9_thrown.2.2.1 mw_X9_thrown.2.2.2 ⟨rfl, by decide, by decide, by decide +kernel⟩ rfl rfl ⟨by decide, by decide⟩ rfl rfl (Nat.le_of_ble_eq_true rfl) (by show _ ≤ 601024; omega) (by show _ ≤ 7293034; omega) dL_law_3329 ?_
  refine v_iload hC 1 dL_law_3332 rfl ?_
  refine v_icmp_eq (tgt := 3339) hC dL_law_3334 (by decide) (fun _ => ?_) (fun h => absurd h9 h)
  refine v_iload hC 1 dL_law_3339 rfl ?_
  refine v_if_ne (tgt := 3363) hC dL_law_3341 (by decide) (fun _ => ?_) (fun hv0 => ?_)
  · refine v_goto (tgt := 3558) hC dL_law_3363 (by decide) ?_
    refine v_sub (lv1 := [(0, .ref b), (1, .ref (zad Z 0)), (2, .ref (zad Z 9)), (3, .ref (zad Z 10)), (4, .int i)]) [2, 3, 4, 5, 6] rfl ?_
    refine v_widen (k1 := k + 6) (by omega) ?_
    exact kk M2 hPM
  · skip
    refine v_aload_n hC 5 dL_law_3344 rfl rfl ?_
    refine v_iconst hC (v := 0) dL_law_3345 (by decide) ?_
    refine v_lald hC dL_law_3346 ?_
    refine v_iload hC 0 dL_law_3347 rfl ?_
    refine v_boolL (tgt := 3356) hC dL_law_3349 (by decide) dL_law_3352 dL_law_3353 (by decide) dL_law_3356 ?_
    refine v_lcmp hC dL_law_3357 ?_
    refine v_if_eq (tgt := 3363) hC dL_law_3358 (by decide) (fun _ => ?_) (fun h => absurd (lg_cmp_self (by rw [hout hv0])) h)
    refine v_goto (tgt := 3558) hC dL_law_3363 (by decide) ?_
    refine v_sub (lv1 := [(0, .ref b), (1, .ref (zad Z 0)), (2, .ref (zad Z 9)), (3, .ref (zad Z 10)), (4, .int i)]) [2, 3, 4, 5, 6] rfl ?_
    refine v_widen (k1 := k + 6) (by omega) ?_
    exact kk M2 hPM
set_option maxRecDepth 20000 in
set_option maxHeartbeats 4000000 in
theorem lawc_48 {p : Program} {l : Launch} {e : Env} {s : State} {m : MethodId} {args : Array Value} {below : List Frame} {meth : Method} {c : Code} {Z : gZ} {Q : State → Prop} {k : Nat} {M : gM} {b L : Nat} {xs : Nat → Int32} {i : Int32} {PM : gM → Prop} (hfl : l.stackTraces = false) (hC : gD p s m args c cL_law 7 RL Z) (hNc : gNc s) (hX : va_X b L xs s s.heap) (hbl : b < s.heap.size) (hbA : ¬ zA Z b) (h1 : vp_in (i + 1) L) (h2 : vp_in (i + 2) L) (hk1 : k + 6 ≤ 601024) (hk2 : 6 * (k + 6) ≤ 7293034) (hAg : AgI (f_L_due M (xs (i + 1).toNatClampNeg) (xs (i + 2).toNatClampNeg)) (fun M1 => f_X9_due M1 (xs (i + 1).toNatClampNeg) (xs (i + 2).toNatClampNeg)) PM) (kk : ∀ M2, PM M2 → gV p l e room_1 s m args below meth c 7 Z Q (k + 6) M2 3558 [(0, .ref b), (1, .ref (zad Z 0)), (2, .ref (zad Z 9)), (3, .ref (zad Z 10)), (4, .int i)] []) : gV p l e room_1 s m args below meth c 7 Z Q k M 3366 [(0, .ref b), (1, .ref (zad Z 0)), (2, .ref (zad Z 9)), (3, .ref (zad Z 10)), (4, .int i)] [] := by
  obtain ⟨v, M1, b0, M2, hr1, hr2, h9, hout, hPM⟩ := hAg
  dsimp only at hr2
  refine v_aload_n hC 1 dL_law_3366 rfl rfl ?_
  refine v_aload_n hC 0 dL_law_3367 rfl rfl ?_
  refine v_iload hC 4 dL_law_3368 rfl ?_
  refine v_iconst hC (v := 1) dL_law_3370 (by decide) ?_
  refine v_iadd hC dL_law_3371 ?_
  refine v_sld hC hX hbl hbA h1 dL_law_3372 ?_
  refine v_aload_n hC 0 dL_law_3373 rfl rfl ?_
  refine v_iload hC 4 dL_law_3374 rfl ?_
  refine v_iconst hC (v := 2) dL_law_3376 (by decide) ?_
  refine v_iadd hC dL_law_3377 ?_
  refine v_sld hC hX hbl hbA h2 dL_law_3378 ?_
  refine v_aload_n hC 3 dL_law_3379 rfl rfl ?_
  refine v_callLE (n := 4) hC hr1 [.ref (zad Z 0), .int (xs (i + 1).toNatClampNeg), .int (xs (i + 2).toNatClampNeg), .ref (zad Z 10)] hNc (fun hne => c_L_due hfl Z M (xs (i + 1).toNatClampNeg) (xs (i + 2).toNatClampNeg) hne) ll_339 mw_L_due.1 mw_L_due.2.1 mw_L_due.2.2 ⟨by decide, by decide, by decide +kernel⟩ rfl rfl ⟨by decide, by decide⟩ rfl rfl (Nat.le_of_ble_eq_true rfl) (by show _ ≤ 601024; omega) (by show _ ≤ 7293034; omega) dL_law_3380 ?_
  refine v_istore hC (lv1 := [(5, .int v), (0, .ref b), (1, .ref (zad Z 0)), (2, .ref (zad Z 9)), (3, .ref (zad Z 10)), (4, .int i)]) dL_law_3383 (by decide) rfl ?_
  refine v_aload_n hC 3 dL_law_3385 rfl rfl ?_
  refine v_aload_n hC 1 dL_law_3386 rfl rfl ?_
  refine v_iload hC 5 dL_law_3387 rfl ?_
  refine v_iconst hC (v := 1) dL_law_3389 (by decide) ?_
  refine v_iadd hC dL_law_3390 ?_
  refine v_sld hC hX hbl hbA h1 dL_law_3391 ?_
  refine v_aload_n hC 1 dL_law_3392 rfl rfl ?_
  refine v_iload hC 5 dL_law_3393 rfl ?_
  refine v_iconst hC (v := 2) dL_law_3395 (by decide) ?_
  refine v_iadd hC dL_law_3396 ?_
  refine v_sld hC hX hbl hbA h2 dL_law_3397 ?_
  refine v_callEi (n := 2) hC hr2 [.int (xs (i + 1).toNatClampNeg), .int (xs (i + 2).toNatClampNeg)] 9 9 (by decide) rfl rfl (fun hne => c_X9_due hfl Z M1 (xs (i + 1).toNatClampNeg) (xs (i + 2).toNatClampNeg) hne) ll_341 mw_X9_due.1 mw_X9_due.2.1 mw_X9_due.2.2.1 mw_X9_due.2.2.2 ⟨rfl, by decide, by decide, by decide +kernel⟩ rfl rfl ⟨by decide, by decide⟩ rfl rfl (Nat.le_of_ble_eq_true rfl) (by show _ ≤ 601024; omega) (by show _ ≤ 7293034; omega) dL_law_3398 ?_
  refine v_istore hC (lv1 := [(6, .int b0), (5, .int v), (0, .ref b), (1, .ref (zad Z 0)), (2, .ref (zad Z 9)), (3, .ref (zad Z 10)), (4, .int i)]) dL_law_3401 (by decide) rfl ?_
  refine v_aload_n hC 4 dL_law_3403 rfl rfl ?_
  refine v_callEi (n := 0) hC (rfl : f_X9_thrown M2 = rRet (M2 9 0) M2) [] 9 9 (by decide) rfl rfl (fun hne => c_X9_thrown hfl Z M2  hne) ll_184 mw_X9_thrown.1 mw_X9_thrown.2.1 mw_X9_thrown.2.2.1 mw_X9_thrown.2.2.2 ⟨rfl, by decide, by decide, by decide +kernel⟩ rfl rfl ⟨by decide, by decide⟩ rfl rfl (Nat.le_of_ble_eq_true rfl) (by show _ ≤ 601024; omega) (by show _ ≤ 7293034; omega) dL_law_3404 ?_
  refine v_iload hC 1 dL_law_3407 rfl ?_
  refine v_icmp_eq (tgt := 3414) hC dL_law_3409 (by decide) (fun _ => ?_) (fun h => absurd h9 h)
  refine v_iload hC 1 dL_law_3414 rfl ?_
  refine v_if_ne (tgt := 3431) hC dL_law_3416 (by decide) (fun _ => ?_) (fun hv0 => ?_)
  · refine v_goto (tgt := 3558) hC dL_law_3431 (by decide) ?_
    refine v_sub (lv1 := [(0, .ref b), (1, .ref (zad Z 0)), (2, .ref (zad Z 9)), (3, .ref (zad Z 10)), (4, .int i)]) [2, 3, 4, 5, 6] rfl ?_
    refine v_widen (k1 := k + 6) (by omega) ?_
    exact kk M2 hPM
  · skip
    refine v_aload_n hC 5 dL_law_3419 rfl rfl ?_
    refine v_iconst hC (v := 0) dL_law_3420 (by decide) ?_
    refine v_lald hC dL_law_3421 ?_
    refine v_iload hC 0 dL_law_3422 rfl ?_
    refine v_i2l hC dL_law_3424 ?_
    refine v_lcmp hC dL_law_3425 ?_
    refine v_if_eq (tgt := 3431) hC dL_law_3426 (by decide) (fun _ => ?_) (fun h => absurd (lg_cmp_self (by rw [hout hv0])) h)
    refine v_goto (tgt := 3558) hC dL_law_3431 (by decide) ?_
    refine v_sub (lv1 := [(0, .ref b), (1, .ref (zad Z 0)), (2, .ref (zad Z 9)), (3, .ref (zad Z 10)), (4, .int i)]) [2, 3, 4, 5, 6] rfl ?_
    refine v_widen (k1 := k + 6) (by omega) ?_
    exact kk M2 hPM
set_option maxRecDepth 20000 in
set_option maxHeartbeats 4000000 in
theorem lawc_49 {p : Program} {l : Launch} {e : Env} {s : State} {m : MethodId} {args : Array Value} {below : List Frame} {meth : Method} {c : Code} {Z : gZ} {Q : State → Prop} {k : Nat} {M : gM} {b L : Nat} {xs : Nat → Int32} {i : Int32} {PM : gM → Prop} (hfl : l.stackTraces = false) (hC : gD p s m args c cL_law 7 RL Z) (hNc : gNc s) (hX : va_X b L xs s s.heap) (hbl : b < s.heap.size) (hbA : ¬ zA Z b) (h1 : vp_in (i + 1) L) (h2 : vp_in (i + 2) L) (hk1 : k + 6 ≤ 601024) (hk2 : 6 * (k + 6) ≤ 7293034) (hAg : AgI (f_L_dueByDays M (xs (i + 1).toNatClampNeg) (xs (i + 2).toNatClampNeg)) (fun M1 => f_X9_dueByDays M1 (xs (i + 1).toNatClampNeg) (xs (i + 2).toNatClampNeg)) PM) (kk : ∀ M2, PM M2 → gV p l e room_1 s m args below meth c 7 Z Q (k + 6) M2 3558 [(0, .ref b), (1, .ref (zad Z 0)), (2, .ref (zad Z 9)), (3, .ref (zad Z 10)), (4, .int i)] []) : gV p l e room_1 s m args below meth c 7 Z Q k M 3434 [(0, .ref b), (1, .ref (zad Z 0)), (2, .ref (zad Z 9)), (3, .ref (zad Z 10)), (4, .int i)] [] := by
  obtain ⟨v, M1, b0, M2, hr1, hr2, h9, hout, hPM⟩ := hAg
  dsimp only at hr2
  refine v_aload_n hC 1 dL_law_3434 rfl rfl ?_
  refine v_aload_n hC 0 dL_law_3435 rfl rfl ?_
  refine v_iload hC 4 dL_law_3436 rfl ?_
  refine v_iconst hC (v := 1) dL_law_3438 (by decide) ?_
  refine v_iadd hC dL_law_3439 ?_
  refine v_sld hC hX hbl hbA h1 dL_law_3440 ?_
  refine v_aload_n hC 0 dL_law_3441 rfl rfl ?_
  refine v_iload hC 4 dL_law_3442 rfl ?_
  refine v_iconst hC (v := 2) dL_law_3444 (by decide) ?_
  refine v_iadd hC dL_law_3445 ?_
  refine v_sld hC hX hbl hbA h2 dL_law_3446 ?_
  refine v_aload_n hC 3 dL_law_3447 rfl rfl ?_
  refine v_callLE (n := 4) hC hr1 [.ref (zad Z 0), .int (xs (i + 1).toNatClampNeg), .int (xs (i + 2).toNatClampNeg), .ref (zad Z 10)] hNc (fun hne => c_L_dueByDays hfl Z M (xs (i + 1).toNatClampNeg) (xs (i + 2).toNatClampNeg) hne) ll_342 mw_L_dueByDays.1 mw_L_dueByDays.2.1 mw_L_dueByDays.2.2 ⟨by decide, by decide, by decide +kernel⟩ rfl rfl ⟨by decide, by decide⟩ rfl rfl (Nat.le_of_ble_eq_true rfl) (by show _ ≤ 601024; omega) (by show _ ≤ 7293034; omega) dL_law_3448 ?_
  refine v_istore hC (lv1 := [(5, .int v), (0, .ref b), (1, .ref (zad Z 0)), (2, .ref (zad Z 9)), (3, .ref (zad Z 10)), (4, .int i)]) dL_law_3451 (by decide) rfl ?_
  refine v_aload_n hC 3 dL_law_3453 rfl rfl ?_
  refine v_aload_n hC 1 dL_law_3454 rfl rfl ?_
  refine v_iload hC 5 dL_law_3455 rfl ?_
  refine v_iconst hC (v := 1) dL_law_3457 (by decide) ?_
  refine v_iadd hC dL_law_3458 ?_
  refine v_sld hC hX hbl hbA h1 dL_law_3459 ?_
  refine v_aload_n hC 1 dL_law_3460 rfl rfl ?_
  refine v_iload hC 5 dL_law_3461 rfl ?_
  refine v_iconst hC (v := 2) dL_law_3463 (by decide) ?_
  refine v_iadd hC dL_law_3464 ?_
  refine v_sld hC hX hbl hbA h2 dL_law_3465 ?_
  refine v_callEi (n := 2) hC hr2 [.int (xs (i + 1).toNatClampNeg), .int (xs (i + 2).toNatClampNeg)] 9 9 (by decide) rfl rfl (fun hne => c_X9_dueByDays hfl Z M1 (xs (i + 1).toNatClampNeg) (xs (i + 2).toNatClampNeg) hne) ll_344 mw_X9_dueByDays.1 mw_X9_dueByDays.2.1 mw_X9_dueByDays.2.2.1 mw_X9_dueByDays.2.2.2 ⟨rfl, by decide, by decide, by decide +kernel⟩ rfl rfl ⟨by decide, by decide⟩ rfl rfl (Nat.le_of_ble_eq_true rfl) (by show _ ≤ 601024; omega) (by show _ ≤ 7293034; omega) dL_law_3466 ?_
  refine v_istore hC (lv1 := [(6, .int b0), (5, .int v), (0, .ref b), (1, .ref (zad Z 0)), (2, .ref (zad Z 9)), (3, .ref (zad Z 10)), (4, .int i)]) dL_law_3469 (by decide) rfl ?_
  refine v_aload_n hC 4 dL_law_3471 rfl rfl ?_
  refine v_callEi (n := 0) hC (rfl : f_X9_thrown M2 = rRet (M2 9 0) M2) [] 9 9 (by decide) rfl rfl (fun hne => c_X9_thrown hfl Z M2  hne) ll_184 mw_X9_thrown.1 mw_X9_thrown.2.1 mw_X9_thrown.2.2.1 mw_X9_thrown.2.2.2 ⟨rfl, by decide, by decide, by decide +kernel⟩ rfl rfl ⟨by decide, by decide⟩ rfl rfl (Nat.le_of_ble_eq_true rfl) (by show _ ≤ 601024; omega) (by show _ ≤ 7293034; omega) dL_law_3472 ?_
  refine v_iload hC 1 dL_law_3475 rfl ?_
  refine v_icmp_eq (tgt := 3482) hC dL_law_3477 (by decide) (fun _ => ?_) (fun h => absurd h9 h)
  refine v_iload hC 1 dL_law_3482 rfl ?_
  refine v_if_ne (tgt := 3499) hC dL_law_3484 (by decide) (fun _ => ?_) (fun hv0 => ?_)
  · refine v_goto (tgt := 3558) hC dL_law_3499 (by decide) ?_
    refine v_sub (lv1 := [(0, .ref b), (1, .ref (zad Z 0)), (2, .ref (zad Z 9)), (3, .ref (zad Z 10)), (4, .int i)]) [2, 3, 4, 5, 6] rfl ?_
    refine v_widen (k1 := k + 6) (by omega) ?_
    exact kk M2 hPM
  · skip
    refine v_aload_n hC 5 dL_law_3487 rfl rfl ?_
    refine v_iconst hC (v := 0) dL_law_3488 (by decide) ?_
    refine v_lald hC dL_law_3489 ?_
    refine v_iload hC 0 dL_law_3490 rfl ?_
    refine v_i2l hC dL_law_3492 ?_
    refine v_lcmp hC dL_law_3493 ?_
    refine v_if_eq (tgt := 3499) hC dL_law_3494 (by decide) (fun _ => ?_) (fun h => absurd (lg_cmp_self (by rw [hout hv0])) h)
    refine v_goto (tgt := 3558) hC dL_law_3499 (by decide) ?_
    refine v_sub (lv1 := [(0, .ref b), (1, .ref (zad Z 0)), (2, .ref (zad Z 9)), (3, .ref (zad Z 10)), (4, .int i)]) [2, 3, 4, 5, 6] rfl ?_
    refine v_widen (k1 := k + 6) (by omega) ?_
    exact kk M2 hPM
set_option maxRecDepth 20000 in
set_option maxHeartbeats 4000000 in
theorem lawc_50 {p : Program} {l : Launch} {e : Env} {s : State} {m : MethodId} {args : Array Value} {below : List Frame} {meth : Method} {c : Code} {Z : gZ} {Q : State → Prop} {k : Nat} {M : gM} {b L : Nat} {xs : Nat → Int32} {i : Int32} {PM : gM → Prop} (hfl : l.stackTraces = false) (hC : gD p s m args c cL_law 7 RL Z) (hNc : gNc s) (hX : va_X b L xs s s.heap) (hbl : b < s.heap.size) (hbA : ¬ zA Z b) (h1 : vp_in (i + 1) L) (hk1 : k + 6 ≤ 601024) (hk2 : 6 * (k + 6) ≤ 7293034) (hAg : AgI (f_L_hearingAt M (xs (i + 1).toNatClampNeg)) (fun M1 => f_X9_hearingAt M1 (xs (i + 1).toNatClampNeg)) PM) (kk : ∀ M2, PM M2 → gV p l e room_1 s m args below meth c 7 Z Q (k + 6) M2 3558 [(0, .ref b), (1, .ref (zad Z 0)), (2, .ref (zad Z 9)), (3, .ref (zad Z 10)), (4, .int i)] []) : gV p l e room_1 s m args below meth c 7 Z Q k M 3502 [(0, .ref b), (1, .ref (zad Z 0)), (2, .ref (zad Z 9)), (3, .ref (zad Z 10)), (4, .int i)] [] := by
  obtain ⟨v, M1, b0, M2, hr1, hr2, h9, hout, hPM⟩ := hAg
  dsimp only at hr2
  refine v_aload_n hC 1 dL_law_3502 rfl rfl ?_
  refine v_aload_n hC 0 dL_law_3503 rfl rfl ?_
  refine v_iload hC 4 dL_law_3504 rfl ?_
  refine v_iconst hC (v := 1) dL_law_3506 (by decide) ?_
  refine v_iadd hC dL_law_3507 ?_
  refine v_sld hC hX hbl hbA h1 dL_law_3508 ?_
  refine v_aload_n hC 3 dL_law_3509 rfl rfl ?_
  refine v_callLE (n := 3) hC hr1 [.ref (zad Z 0), .int (xs (i + 1).toNatClampNeg), .ref (zad Z 10)] hNc (fun hne => c_L_hearingAt hfl Z M (xs (i + 1).toNatClampNeg) hne) ll_345 mw_L_hearingAt.1 mw_L_hearingAt.2.1 mw_L_hearingAt.2.2 ⟨by decide, by decide, by decide +kernel⟩ rfl rfl ⟨by decide, by decide⟩ rfl rfl (Nat.le_of_ble_eq_true rfl) (by show _ ≤ 601024; omega) (by show _ ≤ 7293034; omega) dL_law_3510 ?_
  refine v_istore hC (lv1 := [(5, .int v), (0, .ref b), (1, .ref (zad Z 0)), (2, .ref (zad Z 9)), (3, .ref (zad Z 10)), (4, .int i)]) dL_law_3513 (by decide) rfl ?_
  refine v_aload_n hC 3 dL_law_3515 rfl rfl ?_
  refine v_aload_n hC 1 dL_law_3516 rfl rfl ?_
  refine v_iload hC 5 dL_law_3517 rfl ?_
  refine v_iconst hC (v := 1) dL_law_3519 (by decide) ?_
  refine v_iadd hC dL_law_3520 ?_
  refine v_sld hC hX hbl hbA h1 dL_law_3521 ?_
  refine v_callEi (n := 1) hC hr2 [.int (xs (i + 1).toNatClampNeg)] 9 9 (by decide) rfl rfl (fun hne => c_X9_hearingAt hfl Z M1 (xs (i + 1).toNatClampNeg) hne) ll_347 mw_X9_hearingAt.1 mw_X9_hearingAt.2.1 mw_X9_hearingAt.2.2.1 mw_X9_hearingAt.2.2.2 ⟨rfl, by decide, by decide, by decide +kernel⟩ rfl rfl ⟨by decide, by decide⟩ rfl rfl (Nat.le_of_ble_eq_true rfl) (by show _ ≤ 601024; omega) (by show _ ≤ 7293034; omega) dL_law_3522 ?_
  refine v_istore hC (lv1 := [(6, .int b0), (5, .int v), (0, .ref b), (1, .ref (zad Z 0)), (2, .ref (zad Z 9)), (3, .ref (zad Z 10)), (4, .int i)]) dL_law_3525 (by decide) rfl ?_
  refine v_aload_n hC 4 dL_law_3527 rfl rfl ?_
  refine v_callEi (n := 0) hC (rfl : f_X9_thrown M2 = rRet (M2 9 0) M2) [] 9 9 (by decide) rfl rfl (fun hne => c_X9_thrown hfl Z M2  hne) ll_184 mw_X9_thrown.1 mw_X9_thrown.2.1 mw_X9_thrown.2.2.1 mw_X9_thrown.2.2.2 ⟨rfl, by decide, by decide, by decide +kernel⟩ rfl rfl ⟨by decide, by decide⟩ rfl rfl (Nat.le_of_ble_eq_true rfl) (by show _ ≤ 601024; omega) (by show _ ≤ 7293034; omega) dL_law_3528 ?_
  refine v_iload hC 1 dL_law_3531 rfl ?_
  refine v_icmp_eq (tgt := 3538) hC dL_law_3533 (by decide) (fun _ => ?_) (fun h => absurd h9 h)
  refine v_iload hC 1 dL_law_3538 rfl ?_
  refine v_if_ne (tgt := 3555) hC dL_law_3540 (by decide) (fun _ => ?_) (fun hv0 => ?_)
  · refine v_goto (tgt := 3558) hC dL_law_3555 (by decide) ?_
    refine v_sub (lv1 := [(0, .ref b), (1, .ref (zad Z 0)), (2, .ref (zad Z 9)), (3, .ref (zad Z 10)), (4, .int i)]) [2, 3, 4, 5, 6] rfl ?_
    refine v_widen (k1 := k + 6) (by omega) ?_
    exact kk M2 hPM
  · skip
    refine v_aload_n hC 5 dL_law_3543 rfl rfl ?_
    refine v_iconst hC (v := 0) dL_law_3544 (by decide) ?_
    refine v_lald hC dL_law_3545 ?_
    refine v_iload hC 0 dL_law_3546 rfl ?_
    refine v_i2l hC dL_law_3548 ?_
    refine v_lcmp hC dL_law_3549 ?_
    refine v_if_eq (tgt := 3555) hC dL_law_3550 (by decide) (fun _ => ?_) (fun h => absurd (lg_cmp_self (by rw [hout hv0])) h)
    refine v_goto (tgt := 3558) hC dL_law_3555 (by decide) ?_
    refine v_sub (lv1 := [(0, .ref b), (1, .ref (zad Z 0)), (2, .ref (zad Z 9)), (3, .ref (zad Z 10)), (4, .int i)]) [2, 3, 4, 5, 6] rfl ?_
    refine v_widen (k1 := k + 6) (by omega) ?_
    exact kk M2 hPM
