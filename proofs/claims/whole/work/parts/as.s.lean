/-! ===== the law's cases ===== -/
section LCS
variable {E : Ev} {p : Program} {l : Launch} {e : Env} {s : State} {m : MethodId} {args : Array Value} {below : List Frame} {meth : Method} {c : Code} {k n j : Nat} {Q : State → Prop} {μ : Mm} {b L : Nat} {xs : Nat → Int32} {i : Int32}
set_option maxHeartbeats 4000000 in
set_option maxRecDepth 100000 in
theorem cs_0 (C : Cq E p s m args meth c cL_law 9 RL) (X : Sx E s b L xs) (hl9 : l.stackTraces = false) (hN : 312 ≤ eN E) (h : Iv j μ) (hj : j < 512) (hi : ∀ v, v < 7 → vp_in (i + nI v) L) (hK : k ≤ 500000) (hS : n ≤ 6000000) (kk : ∀ μ', Iv (j + 1) μ' → Gq E p l e room_1 s m args below meth c (k + 128) (n + 4096) 9 Q 2921 (lvL E b i) [] μ') : Gq E p l e room_1 s m args below meth c k n 9 Q 284 (lvL E b i) [] μ := by
  have hN2 : 295 ≤ eN E := by omega
  have hN3 : 311 ≤ eN E := by omega
  obtain ⟨p1, hp1⟩ : ∃ z, z = xs (i + nI 1).toNatClampNeg := ⟨_, rfl⟩
  obtain ⟨p2, hp2⟩ : ∃ z, z = xs (i + nI 2).toNatClampNeg := ⟨_, rfl⟩
  obtain ⟨p3, hp3⟩ : ∃ z, z = xs (i + nI 3).toNatClampNeg := ⟨_, rfl⟩
  obtain ⟨p4, hp4⟩ : ∃ z, z = xs (i + nI 4).toNatClampNeg := ⟨_, rfl⟩
  obtain ⟨p5, hp5⟩ : ∃ z, z = xs (i + nI 5).toNatClampNeg := ⟨_, rfl⟩
  obtain ⟨w, μ1, ν, z0, z1, z4⟩ := s_append h hj p1 p2 p3 p4 p5
  refine gq_lv (lv' := [(4, .int i), (3, .ref (eB E + 311)), (2, .ref (eB E + 295)), (1, .ref (eB E + 0)), (0, .ref b)]) rfl ?_
  refine gq_aload_n (i := 1) C dL_law_284 rfl 3 rfl ?_
  refine gq_arg (v := nI 1) C X (hi 1 (by decide)) hp1.symm 4 0 rfl rfl (by decide) dL_law_285 dL_law_286 dL_law_288 dL_law_289 dL_law_290 ?_
  refine gq_arg (v := nI 2) C X (hi 2 (by decide)) hp2.symm 4 0 rfl rfl (by decide) dL_law_291 dL_law_292 dL_law_294 dL_law_295 dL_law_296 ?_
  refine gq_arg (v := nI 3) C X (hi 3 (by decide)) hp3.symm 4 0 rfl rfl (by decide) dL_law_297 dL_law_298 dL_law_300 dL_law_301 dL_law_302 ?_
  refine gq_arg (v := nI 4) C X (hi 4 (by decide)) hp4.symm 4 0 rfl rfl (by decide) dL_law_303 dL_law_304 dL_law_306 dL_law_307 dL_law_308 ?_
  refine gq_arg (v := nI 5) C X (hi 5 (by decide)) hp5.symm 4 0 rfl rfl (by decide) dL_law_309 dL_law_310 dL_law_312 dL_law_313 dL_law_314 ?_
  refine gq_V (As := [.int p1, .int p2, .int p3, .int p4, .int p5]) (rest := []) (j := 0) C (c_X3_append hN2 z0) (qn_l 0 (by decide) hN2) (by decide) (by decide) rfl wk_2_15 wk_2_16 wk_2_17 wk_1_1 wk_2_18 hd_X3_append ⟨(Nat.le_of_ble_eq_true rfl), (Nat.le_of_ble_eq_true rfl)⟩ (Nat.le_of_ble_eq_true rfl) (lw_hf (by omega) (by omega) rfl) dL_law_315 rfl rfl ?_
  refine gq_aload_n (i := 2) C dL_law_318 rfl 2 rfl ?_
  refine gq_arg (v := nI 1) C X (hi 1 (by decide)) hp1.symm 4 0 rfl rfl (by decide) dL_law_319 dL_law_320 dL_law_322 dL_law_323 dL_law_324 ?_
  refine gq_arg (v := nI 2) C X (hi 2 (by decide)) hp2.symm 4 0 rfl rfl (by decide) dL_law_325 dL_law_326 dL_law_328 dL_law_329 dL_law_330 ?_
  refine gq_arg (v := nI 3) C X (hi 3 (by decide)) hp3.symm 4 0 rfl rfl (by decide) dL_law_331 dL_law_332 dL_law_334 dL_law_335 dL_law_336 ?_
  refine gq_arg (v := nI 4) C X (hi 4 (by decide)) hp4.symm 4 0 rfl rfl (by decide) dL_law_337 dL_law_338 dL_law_340 dL_law_341 dL_law_342 ?_
  refine gq_arg (v := nI 5) C X (hi 5 (by decide)) hp5.symm 4 0 rfl rfl (by decide) dL_law_343 dL_law_344 dL_law_346 dL_law_347 dL_law_348 ?_
  refine gq_V (As := [.int p1, .int p2, .int p3, .int p4, .int p5]) (rest := [.int w]) (j := 5) C (c_X4_append hN3 z1) (qn_m 295 (by decide) hN3) (by decide) (by decide) rfl wk_7_17 wk_7_18 wk_7_19 wk_1_9 wk_7_20 hd_X4_append ⟨(Nat.le_of_ble_eq_true rfl), (Nat.le_of_ble_eq_true rfl)⟩ (Nat.le_of_ble_eq_true rfl) (lw_hf (lw_b1 hK rfl) (lw_c1 hS rfl) rfl) dL_law_349 rfl rfl ?_
  refine gq_icmp_eq_t (tgt := 2921) C dL_law_352 (by decide) rfl ?_
  exact gq_widen (lw_k2 rfl) (lw_n2 rfl) (gq_sub [0, 1, 2, 3, 4] rfl (kk ν z4))
set_option maxHeartbeats 4000000 in
set_option maxRecDepth 100000 in
theorem cs_1 (C : Cq E p s m args meth c cL_law 9 RL) (X : Sx E s b L xs) (hl9 : l.stackTraces = false) (hN : 312 ≤ eN E) (h : Iv j μ) (hj : j < 512) (hi : ∀ v, v < 7 → vp_in (i + nI v) L) (hK : k ≤ 500000) (hS : n ≤ 6000000) (kk : ∀ μ', Iv (j + 1) μ' → Gq E p l e room_1 s m args below meth c (k + 128) (n + 4096) 9 Q 2921 (lvL E b i) [] μ') : Gq E p l e room_1 s m args below meth c k n 9 Q 357 (lvL E b i) [] μ := by
  have hN2 : 295 ≤ eN E := by omega
  have hN3 : 311 ≤ eN E := by omega
  obtain ⟨p1, hp1⟩ : ∃ z, z = xs (i + nI 1).toNatClampNeg := ⟨_, rfl⟩
  obtain ⟨w, μ1, ν, z0, z1, z4⟩ := s_truncate h hj p1
  refine gq_lv (lv' := [(4, .int i), (3, .ref (eB E + 311)), (2, .ref (eB E + 295)), (1, .ref (eB E + 0)), (0, .ref b)]) rfl ?_
  refine gq_aload_n (i := 1) C dL_law_357 rfl 3 rfl ?_
  refine gq_arg (v := nI 1) C X (hi 1 (by decide)) hp1.symm 4 0 rfl rfl (by decide) dL_law_358 dL_law_359 dL_law_361 dL_law_362 dL_law_363 ?_
  refine gq_V (As := [.int p1]) (rest := []) (j := 0) C (c_X3_truncate hN2 z0) (qn_l 0 (by decide) hN2) (by decide) (by decide) rfl wk_2_23 wk_2_24 wk_2_25 wk_1_1 wk_2_26 hd_X3_truncate ⟨(Nat.le_of_ble_eq_true rfl), (Nat.le_of_ble_eq_true rfl)⟩ (Nat.le_of_ble_eq_true rfl) (lw_hf (by omega) (by omega) rfl) dL_law_364 rfl rfl ?_
  refine gq_aload_n (i := 2) C dL_law_367 rfl 2 rfl ?_
  refine gq_arg (v := nI 1) C X (hi 1 (by decide)) hp1.symm 4 0 rfl rfl (by decide) dL_law_368 dL_law_369 dL_law_371 dL_law_372 dL_law_373 ?_
  refine gq_V (As := [.int p1]) (rest := [.int w]) (j := 5) C (c_X4_truncate hN3 z1) (qn_m 295 (by decide) hN3) (by decide) (by decide) rfl wk_7_21 wk_7_22 wk_7_23 wk_1_9 wk_7_24 hd_X4_truncate ⟨(Nat.le_of_ble_eq_true rfl), (Nat.le_of_ble_eq_true rfl)⟩ (Nat.le_of_ble_eq_true rfl) (lw_hf (lw_b1 hK rfl) (lw_c1 hS rfl) rfl) dL_law_374 rfl rfl ?_
  refine gq_icmp_eq_t (tgt := 2921) C dL_law_377 (by decide) rfl ?_
  exact gq_widen (lw_k2 rfl) (lw_n2 rfl) (gq_sub [0, 1, 2, 3, 4] rfl (kk ν z4))
set_option maxHeartbeats 4000000 in
set_option maxRecDepth 100000 in
theorem cs_2 (C : Cq E p s m args meth c cL_law 9 RL) (X : Sx E s b L xs) (hl9 : l.stackTraces = false) (hN : 312 ≤ eN E) (h : Iv j μ) (hj : j < 512) (hi : ∀ v, v < 7 → vp_in (i + nI v) L) (hK : k ≤ 500000) (hS : n ≤ 6000000) (kk : ∀ μ', Iv (j + 1) μ' → Gq E p l e room_1 s m args below meth c (k + 128) (n + 4096) 9 Q 2921 (lvL E b i) [] μ') : Gq E p l e room_1 s m args below meth c k n 9 Q 382 (lvL E b i) [] μ := by
  have hN2 : 295 ≤ eN E := by omega
  have hN3 : 311 ≤ eN E := by omega
  obtain ⟨ec, t, r, μ1, w, ν, z0, hM, z1, z2, z3, z4⟩ := s_load h hj
  have ht4 : t < 4 := lw_t4 hM (by decide)
  refine gq_lv (lv' := [(4, .int i), (3, .ref (eB E + 311)), (2, .ref (eB E + 295)), (1, .ref (eB E + 0)), (0, .ref b)]) rfl ?_
  refine gq_aload_n (i := 1) C dL_law_382 rfl 3 rfl ?_
  refine gq_aload_n (i := 3) C dL_law_383 rfl 1 rfl ?_
  refine gq_call (run_SW (rest := []) (As := [.ref (eB E + 0), .ref (eB E + 311)]) C (c_L_load hN hl9 z0 (lw_ld hM)) wk_4_61 wk_4_62 wk_1_0 wk_4_63 hd_L_load ⟨(Nat.le_of_ble_eq_true rfl), (Nat.le_of_ble_eq_true rfl)⟩ (Nat.le_of_ble_eq_true rfl) (lw_hf (by omega) (by omega) rfl) dL_law_384 rfl) rfl ?_
  rw [lw_lt hM]
  refine gq_istore (lv' := [(5, .int (nI t)), (4, .int i), (3, .ref (eB E + 311)), (2, .ref (eB E + 295)), (1, .ref (eB E + 0)), (0, .ref b)]) C dL_law_387 (by decide) rfl ?_
  refine gq_aload_n (i := 2) C dL_law_389 rfl 3 rfl ?_
  refine gq_V (As := []) (rest := []) (j := 5) C (c_X4_load hN3 z1) (qn_m 295 (by decide) hN3) (by decide) (by decide) rfl wk_7_25 wk_7_26 wk_7_27 wk_1_9 wk_7_28 hd_X4_load ⟨(Nat.le_of_ble_eq_true rfl), (Nat.le_of_ble_eq_true rfl)⟩ (Nat.le_of_ble_eq_true rfl) (lw_hf (lw_b1 hK rfl) (lw_c1 hS rfl) rfl) dL_law_390 rfl rfl ?_
  refine gq_istore (lv' := [(6, .int w), (5, .int (nI t)), (4, .int i), (3, .ref (eB E + 311)), (2, .ref (eB E + 295)), (1, .ref (eB E + 0)), (0, .ref b)]) C dL_law_393 (by decide) rfl ?_
  refine gq_aload_n (i := 2) C dL_law_395 rfl 4 rfl ?_
  refine gq_V (As := []) (rest := []) (j := 5) C (c_X4_thrown hN3 (r := nI t) (congrArg some z2)) (qn_m 295 (by decide) hN3) (by decide) (by decide) rfl wk_7_13 wk_7_14 wk_7_15 wk_1_9 wk_7_16 hd_X4_thrown ⟨(Nat.le_of_ble_eq_true rfl), (Nat.le_of_ble_eq_true rfl)⟩ (Nat.le_of_ble_eq_true rfl) (lw_hf (lw_b2 hK rfl) (lw_c2 hS rfl) rfl) dL_law_396 rfl rfl ?_
  refine gq_iload (i := 5) C dL_law_399 1 rfl ?_
  refine gq_icmp_eq_t (tgt := 406) C dL_law_401 (by decide) rfl ?_
  refine gq_iload (i := 5) C dL_law_406 1 rfl ?_
  by_cases ht : t = 0
  · refine gq_if_ne_f (tgt := 423) C dL_law_408 (by decide) (by rw [ht]; rfl) ?_
    refine gq_aload_n (i := 3) C dL_law_411 rfl 3 rfl ?_
    refine gq_iconst (v := nI 0) C dL_law_412 (by decide) ?_
    refine gq_laloadL (x := w.toInt64) C (show 311 < eN E by omega) (by decide +kernel) (lw_out (z3 ht)) dL_law_413 ?_
    refine gq_iload (i := 6) C dL_law_414 0 rfl ?_
    refine gq_i2l C dL_law_416 ?_
    refine gq_lcmp C dL_law_417 ?_
    refine gq_if_eq_t (tgt := 423) C dL_law_418 (by decide) lw_cmp ?_
    refine gq_goto (tgt := 2921) C dL_law_423 (by decide) ?_
    exact gq_widen (lw_k3 rfl) (lw_n3 rfl) (gq_sub [2, 3, 4, 5, 6] rfl (kk ν z4))
  · refine gq_if_ne_t (tgt := 423) C dL_law_408 (by decide) (lw_tn ht4 ht) ?_
    refine gq_goto (tgt := 2921) C dL_law_423 (by decide) ?_
    exact gq_widen (lw_k3 rfl) (lw_n3 rfl) (gq_sub [2, 3, 4, 5, 6] rfl (kk ν z4))
set_option maxHeartbeats 4000000 in
set_option maxRecDepth 100000 in
theorem cs_5 (C : Cq E p s m args meth c cL_law 9 RL) (X : Sx E s b L xs) (hl9 : l.stackTraces = false) (hN : 312 ≤ eN E) (h : Iv j μ) (hj : j < 512) (hi : ∀ v, v < 7 → vp_in (i + nI v) L) (hK : k ≤ 500000) (hS : n ≤ 6000000) (kk : ∀ μ', Iv (j + 1) μ' → Gq E p l e room_1 s m args below meth c (k + 128) (n + 4096) 9 Q 2921 (lvL E b i) [] μ') : Gq E p l e room_1 s m args below meth c k n 9 Q 452 (lvL E b i) [] μ := by
  have hN2 : 295 ≤ eN E := by omega
  have hN3 : 311 ≤ eN E := by omega
  obtain ⟨p1, hp1⟩ : ∃ z, z = xs (i + nI 1).toNatClampNeg := ⟨_, rfl⟩
  obtain ⟨ec, t, r, w, ν, z0, hM, z1, z2, z3, z4⟩ := s_count h hj p1
  have ht4 : t < 4 := lw_t4 hM (by decide)
  refine gq_lv (lv' := [(4, .int i), (3, .ref (eB E + 311)), (2, .ref (eB E + 295)), (1, .ref (eB E + 0)), (0, .ref b)]) rfl ?_
  refine gq_aload_n (i := 1) C dL_law_452 rfl 3 rfl ?_
  refine gq_arg (v := nI 1) C X (hi 1 (by decide)) hp1.symm 4 0 rfl rfl (by decide) dL_law_453 dL_law_454 dL_law_456 dL_law_457 dL_law_458 ?_
  refine gq_aload_n (i := 3) C dL_law_459 rfl 1 rfl ?_
  refine gq_call (run_SW (rest := []) (As := [.ref (eB E + 0), .int p1, .ref (eB E + 311)]) C (c_L_count hN hl9 z0 hM) wk_4_184 wk_4_185 wk_1_0 wk_4_186 hd_L_count ⟨(Nat.le_of_ble_eq_true rfl), (Nat.le_of_ble_eq_true rfl)⟩ (Nat.le_of_ble_eq_true rfl) (lw_hf (by omega) (by omega) rfl) dL_law_460 rfl) rfl ?_
  refine gq_istore (lv' := [(5, .int (nI t)), (4, .int i), (3, .ref (eB E + 311)), (2, .ref (eB E + 295)), (1, .ref (eB E + 0)), (0, .ref b)]) C dL_law_463 (by decide) rfl ?_
  refine gq_aload_n (i := 2) C dL_law_465 rfl 3 rfl ?_
  refine gq_arg (v := nI 1) C X (hi 1 (by decide)) hp1.symm 5 1 rfl rfl (by decide) dL_law_466 dL_law_467 dL_law_469 dL_law_470 dL_law_471 ?_
  refine gq_V (As := [.int p1]) (rest := []) (j := 5) C (c_X4_count hN3 z1) (qn_m 295 (by decide) hN3) (by decide) (by decide) rfl wk_7_127 wk_7_128 wk_7_129 wk_1_9 wk_7_130 hd_X4_count ⟨(Nat.le_of_ble_eq_true rfl), (Nat.le_of_ble_eq_true rfl)⟩ (Nat.le_of_ble_eq_true rfl) (lw_hf (lw_b1 hK rfl) (lw_c1 hS rfl) rfl) dL_law_472 rfl rfl ?_
  refine gq_istore (lv' := [(6, .int w), (5, .int (nI t)), (4, .int i), (3, .ref (eB E + 311)), (2, .ref (eB E + 295)), (1, .ref (eB E + 0)), (0, .ref b)]) C dL_law_475 (by decide) rfl ?_
  refine gq_aload_n (i := 2) C dL_law_477 rfl 4 rfl ?_
  refine gq_V (As := []) (rest := []) (j := 5) C (c_X4_thrown hN3 (r := nI t) (congrArg some z2)) (qn_m 295 (by decide) hN3) (by decide) (by decide) rfl wk_7_13 wk_7_14 wk_7_15 wk_1_9 wk_7_16 hd_X4_thrown ⟨(Nat.le_of_ble_eq_true rfl), (Nat.le_of_ble_eq_true rfl)⟩ (Nat.le_of_ble_eq_true rfl) (lw_hf (lw_b2 hK rfl) (lw_c2 hS rfl) rfl) dL_law_478 rfl rfl ?_
  refine gq_iload (i := 5) C dL_law_481 1 rfl ?_
  refine gq_icmp_eq_t (tgt := 488) C dL_law_483 (by decide) rfl ?_
  refine gq_iload (i := 5) C dL_law_488 1 rfl ?_
  by_cases ht : t = 0
  · refine gq_if_ne_f (tgt := 505) C dL_law_490 (by decide) (by rw [ht]; rfl) ?_
    refine gq_aload_n (i := 3) C dL_law_493 rfl 3 rfl ?_
    refine gq_iconst (v := nI 0) C dL_law_494 (by decide) ?_
    refine gq_laloadL (x := w.toInt64) C (show 311 < eN E by omega) (by decide +kernel) (lw_out (z3 ht)) dL_law_495 ?_
    refine gq_iload (i := 6) C dL_law_496 0 rfl ?_
    refine gq_i2l C dL_law_498 ?_
    refine gq_lcmp C dL_law_499 ?_
    refine gq_if_eq_t (tgt := 505) C dL_law_500 (by decide) lw_cmp ?_
    refine gq_goto (tgt := 2921) C dL_law_505 (by decide) ?_
    exact gq_widen (lw_k3 rfl) (lw_n3 rfl) (gq_sub [2, 3, 4, 5, 6] rfl (kk ν z4))
  · refine gq_if_ne_t (tgt := 505) C dL_law_490 (by decide) (lw_tn ht4 ht) ?_
    refine gq_goto (tgt := 2921) C dL_law_505 (by decide) ?_
    exact gq_widen (lw_k3 rfl) (lw_n3 rfl) (gq_sub [2, 3, 4, 5, 6] rfl (kk ν z4))
set_option maxHeartbeats 4000000 in
set_option maxRecDepth 100000 in
theorem cs_10 (C : Cq E p s m args meth c cL_law 9 RL) (X : Sx E s b L xs) (hl9 : l.stackTraces = false) (hN : 312 ≤ eN E) (h : Iv j μ) (hj : j < 512) (hi : ∀ v, v < 7 → vp_in (i + nI v) L) (hK : k ≤ 500000) (hS : n ≤ 6000000) (kk : ∀ μ', Iv (j + 1) μ' → Gq E p l e room_1 s m args below meth c (k + 128) (n + 4096) 9 Q 2921 (lvL E b i) [] μ') : Gq E p l e room_1 s m args below meth c k n 9 Q 744 (lvL E b i) [] μ := by
  have hN2 : 295 ≤ eN E := by omega
  have hN3 : 311 ≤ eN E := by omega
  obtain ⟨p1, hp1⟩ : ∃ z, z = xs (i + nI 1).toNatClampNeg := ⟨_, rfl⟩
  obtain ⟨ec, t, r, w, ν, z0, hM, z1, z2, z3, z4⟩ := s_balance h hj p1
  have ht4 : t < 4 := lw_t4 hM (by decide)
  refine gq_lv (lv' := [(4, .int i), (3, .ref (eB E + 311)), (2, .ref (eB E + 295)), (1, .ref (eB E + 0)), (0, .ref b)]) rfl ?_
  refine gq_aload_n (i := 1) C dL_law_744 rfl 3 rfl ?_
  refine gq_arg (v := nI 1) C X (hi 1 (by decide)) hp1.symm 4 0 rfl rfl (by decide) dL_law_745 dL_law_746 dL_law_748 dL_law_749 dL_law_750 ?_
  refine gq_aload_n (i := 3) C dL_law_751 rfl 1 rfl ?_
  refine gq_call (run_SW (rest := []) (As := [.ref (eB E + 0), .int p1, .ref (eB E + 311)]) C (c_L_balance hN hl9 z0 hM) wk_5_29 wk_5_30 wk_1_0 wk_5_31 hd_L_balance ⟨(Nat.le_of_ble_eq_true rfl), (Nat.le_of_ble_eq_true rfl)⟩ (Nat.le_of_ble_eq_true rfl) (lw_hf (by omega) (by omega) rfl) dL_law_752 rfl) rfl ?_
  refine gq_istore (lv' := [(5, .int (nI t)), (4, .int i), (3, .ref (eB E + 311)), (2, .ref (eB E + 295)), (1, .ref (eB E + 0)), (0, .ref b)]) C dL_law_755 (by decide) rfl ?_
  refine gq_aload_n (i := 2) C dL_law_757 rfl 3 rfl ?_
  refine gq_arg (v := nI 1) C X (hi 1 (by decide)) hp1.symm 5 1 rfl rfl (by decide) dL_law_758 dL_law_759 dL_law_761 dL_law_762 dL_law_763 ?_
  refine gq_V (As := [.int p1]) (rest := []) (j := 5) C (c_X4_balance hN3 z1) (qn_m 295 (by decide) hN3) (by decide) (by decide) rfl wk_7_159 wk_7_160 wk_7_161 wk_1_9 wk_7_162 hd_X4_balance ⟨(Nat.le_of_ble_eq_true rfl), (Nat.le_of_ble_eq_true rfl)⟩ (Nat.le_of_ble_eq_true rfl) (lw_hf (lw_b1 hK rfl) (lw_c1 hS rfl) rfl) dL_law_764 rfl rfl ?_
  refine gq_lstore (lv' := [(6, .long w), (5, .int (nI t)), (4, .int i), (3, .ref (eB E + 311)), (2, .ref (eB E + 295)), (1, .ref (eB E + 0)), (0, .ref b)]) C dL_law_767 (by decide) rfl ?_
  refine gq_aload_n (i := 2) C dL_law_769 rfl 4 rfl ?_
  refine gq_V (As := []) (rest := []) (j := 5) C (c_X4_thrown hN3 (r := nI t) (congrArg some z2)) (qn_m 295 (by decide) hN3) (by decide) (by decide) rfl wk_7_13 wk_7_14 wk_7_15 wk_1_9 wk_7_16 hd_X4_thrown ⟨(Nat.le_of_ble_eq_true rfl), (Nat.le_of_ble_eq_true rfl)⟩ (Nat.le_of_ble_eq_true rfl) (lw_hf (lw_b2 hK rfl) (lw_c2 hS rfl) rfl) dL_law_770 rfl rfl ?_
  refine gq_iload (i := 5) C dL_law_773 1 rfl ?_
  refine gq_icmp_eq_t (tgt := 780) C dL_law_775 (by decide) rfl ?_
  refine gq_iload (i := 5) C dL_law_780 1 rfl ?_
  by_cases ht : t = 0
  · refine gq_if_ne_f (tgt := 796) C dL_law_782 (by decide) (by rw [ht]; rfl) ?_
    refine gq_aload_n (i := 3) C dL_law_785 rfl 3 rfl ?_
    refine gq_iconst (v := nI 0) C dL_law_786 (by decide) ?_
    refine gq_laloadL (x := w) C (show 311 < eN E by omega) (by decide +kernel) (lw_out (z3 ht)) dL_law_787 ?_
    refine gq_lload (i := 6) C dL_law_788 0 rfl ?_
    refine gq_lcmp C dL_law_790 ?_
    refine gq_if_eq_t (tgt := 796) C dL_law_791 (by decide) lw_cmp ?_
    refine gq_goto (tgt := 2921) C dL_law_796 (by decide) ?_
    exact gq_widen (lw_k3 rfl) (lw_n3 rfl) (gq_sub [2, 3, 4, 5, 6] rfl (kk ν z4))
  · refine gq_if_ne_t (tgt := 796) C dL_law_782 (by decide) (lw_tn ht4 ht) ?_
    refine gq_goto (tgt := 2921) C dL_law_796 (by decide) ?_
    exact gq_widen (lw_k3 rfl) (lw_n3 rfl) (gq_sub [2, 3, 4, 5, 6] rfl (kk ν z4))
set_option maxHeartbeats 4000000 in
set_option maxRecDepth 100000 in
theorem cs_21 (C : Cq E p s m args meth c cL_law 9 RL) (X : Sx E s b L xs) (hl9 : l.stackTraces = false) (hN : 312 ≤ eN E) (h : Iv j μ) (hj : j < 512) (hi : ∀ v, v < 7 → vp_in (i + nI v) L) (hK : k ≤ 500000) (hS : n ≤ 6000000) (kk : ∀ μ', Iv (j + 1) μ' → Gq E p l e room_1 s m args below meth c (k + 128) (n + 4096) 9 Q 2921 (lvL E b i) [] μ') : Gq E p l e room_1 s m args below meth c k n 9 Q 1259 (lvL E b i) [] μ := by
  have hN2 : 295 ≤ eN E := by omega
  have hN3 : 311 ≤ eN E := by omega
  obtain ⟨w, ν, z0, z1, z4⟩ := s_served h hj
  refine gq_lv (lv' := [(4, .int i), (3, .ref (eB E + 311)), (2, .ref (eB E + 295)), (1, .ref (eB E + 0)), (0, .ref b)]) rfl ?_
  refine gq_aload_n (i := 1) C dL_law_1259 rfl 3 rfl ?_
  refine gq_V (As := []) (rest := []) (j := 0) C (c_X3_served hN2 z0) (qn_l 0 (by decide) hN2) (by decide) (by decide) rfl wk_2_68 wk_2_69 wk_2_70 wk_1_1 wk_2_71 hd_X3_served ⟨(Nat.le_of_ble_eq_true rfl), (Nat.le_of_ble_eq_true rfl)⟩ (Nat.le_of_ble_eq_true rfl) (lw_hf (by omega) (by omega) rfl) dL_law_1260 rfl rfl ?_
  refine gq_dstore (lv' := [(5, .double w), (4, .int i), (3, .ref (eB E + 311)), (2, .ref (eB E + 295)), (1, .ref (eB E + 0)), (0, .ref b)]) C dL_law_1263 (by decide) rfl ?_
  refine gq_aload_n (i := 2) C dL_law_1265 rfl 3 rfl ?_
  refine gq_V (As := []) (rest := []) (j := 5) C (c_X4_served hN3 z1) (qn_m 295 (by decide) hN3) (by decide) (by decide) rfl wk_8_11 wk_8_12 wk_8_13 wk_1_9 wk_8_14 hd_X4_served ⟨(Nat.le_of_ble_eq_true rfl), (Nat.le_of_ble_eq_true rfl)⟩ (Nat.le_of_ble_eq_true rfl) (lw_hf (lw_b1 hK rfl) (lw_c1 hS rfl) rfl) dL_law_1266 rfl rfl ?_
  refine gq_dstore (lv' := [(7, .double w), (5, .double w), (4, .int i), (3, .ref (eB E + 311)), (2, .ref (eB E + 295)), (1, .ref (eB E + 0)), (0, .ref b)]) C dL_law_1269 (by decide) rfl ?_
  refine gq_dload (i := 5) C dL_law_1271 1 rfl ?_
  refine gq_dload (i := 7) C dL_law_1273 0 rfl ?_
  obtain ⟨cv, hcv⟩ : ∃ z, Op.cmpValue (FP.dcmp w w) .l = z := ⟨_, rfl⟩
  refine gq_dcmpl C hcv dL_law_1275 ?_
  by_cases hc0 : cv = 0
  · refine gq_if_eq_t (tgt := 1297) C dL_law_1276 (by decide) hc0 ?_
    refine gq_goto (tgt := 2921) C dL_law_1297 (by decide) ?_
    exact gq_widen (lw_k2 rfl) (lw_n2 rfl) (gq_sub [2, 3, 4, 5, 6] rfl (kk ν z4))
  · refine gq_if_eq_f (tgt := 1297) C dL_law_1276 (by decide) hc0 ?_
    refine gq_dload (i := 5) C dL_law_1279 1 rfl ?_
    refine gq_dload (i := 5) C dL_law_1281 1 rfl ?_
    refine gq_dcmpl C hcv dL_law_1283 ?_
    refine gq_if_eq_f (tgt := 1295) C dL_law_1284 (by decide) hc0 ?_
    refine gq_dload (i := 7) C dL_law_1287 0 rfl ?_
    refine gq_dload (i := 7) C dL_law_1289 0 rfl ?_
    refine gq_dcmpl C hcv dL_law_1291 ?_
    refine gq_if_ne_t (tgt := 1297) C dL_law_1292 (by decide) hc0 ?_
    refine gq_goto (tgt := 2921) C dL_law_1297 (by decide) ?_
    exact gq_widen (lw_k2 rfl) (lw_n2 rfl) (gq_sub [2, 3, 4, 5, 6] rfl (kk ν z4))
set_option maxHeartbeats 4000000 in
set_option maxRecDepth 100000 in
theorem cs_52 (C : Cq E p s m args meth c cL_law 9 RL) (X : Sx E s b L xs) (hl9 : l.stackTraces = false) (hN : 312 ≤ eN E) (h : Iv j μ) (hj : j < 512) (hi : ∀ v, v < 7 → vp_in (i + nI v) L) (hK : k ≤ 500000) (hS : n ≤ 6000000) (kk : ∀ μ', Iv (j + 1) μ' → Gq E p l e room_1 s m args below meth c (k + 128) (n + 4096) 9 Q 2921 (lvL E b i) [] μ') : Gq E p l e room_1 s m args below meth c k n 9 Q 2751 (lvL E b i) [] μ := by
  have hN2 : 295 ≤ eN E := by omega
  have hN3 : 311 ≤ eN E := by omega
  obtain ⟨p1, hp1⟩ : ∃ z, z = xs (i + nI 1).toNatClampNeg := ⟨_, rfl⟩
  obtain ⟨ec, t, r, μ1, w, ν, z0, hM, z1, z2, z3, z4⟩ := s_save h hj p1
  have ht4 : t < 4 := lw_t4 hM (by decide)
  refine gq_lv (lv' := [(4, .int i), (3, .ref (eB E + 311)), (2, .ref (eB E + 295)), (1, .ref (eB E + 0)), (0, .ref b)]) rfl ?_
  refine gq_aload_n (i := 1) C dL_law_2751 rfl 3 rfl ?_
  refine gq_arg (v := nI 1) C X (hi 1 (by decide)) hp1.symm 4 0 rfl rfl (by decide) dL_law_2752 dL_law_2753 dL_law_2755 dL_law_2756 dL_law_2757 ?_
  refine gq_aload_n (i := 3) C dL_law_2758 rfl 1 rfl ?_
  refine gq_call (run_SW (rest := []) (As := [.ref (eB E + 0), .int p1, .ref (eB E + 311)]) C (c_L_save hN hl9 z0 hM) wk_6_129 wk_6_130 wk_1_0 wk_6_131 hd_L_save ⟨(Nat.le_of_ble_eq_true rfl), (Nat.le_of_ble_eq_true rfl)⟩ (Nat.le_of_ble_eq_true rfl) (lw_hf (by omega) (by omega) rfl) dL_law_2759 rfl) rfl ?_
  refine gq_istore (lv' := [(5, .int (nI t)), (4, .int i), (3, .ref (eB E + 311)), (2, .ref (eB E + 295)), (1, .ref (eB E + 0)), (0, .ref b)]) C dL_law_2762 (by decide) rfl ?_
  refine gq_aload_n (i := 2) C dL_law_2764 rfl 3 rfl ?_
  refine gq_arg (v := nI 1) C X (hi 1 (by decide)) hp1.symm 5 1 rfl rfl (by decide) dL_law_2765 dL_law_2766 dL_law_2768 dL_law_2769 dL_law_2770 ?_
  refine gq_V (As := [.int p1]) (rest := []) (j := 5) C (c_X4_save hN3 z1) (qn_m 295 (by decide) hN3) (by decide) (by decide) rfl wk_8_212 wk_8_213 wk_8_214 wk_1_9 wk_8_215 hd_X4_save ⟨(Nat.le_of_ble_eq_true rfl), (Nat.le_of_ble_eq_true rfl)⟩ (Nat.le_of_ble_eq_true rfl) (lw_hf (lw_b1 hK rfl) (lw_c1 hS rfl) rfl) dL_law_2771 rfl rfl ?_
  refine gq_istore (lv' := [(6, .int w), (5, .int (nI t)), (4, .int i), (3, .ref (eB E + 311)), (2, .ref (eB E + 295)), (1, .ref (eB E + 0)), (0, .ref b)]) C dL_law_2774 (by decide) rfl ?_
  refine gq_aload_n (i := 2) C dL_law_2776 rfl 4 rfl ?_
  refine gq_V (As := []) (rest := []) (j := 5) C (c_X4_thrown hN3 (r := nI t) (congrArg some z2)) (qn_m 295 (by decide) hN3) (by decide) (by decide) rfl wk_7_13 wk_7_14 wk_7_15 wk_1_9 wk_7_16 hd_X4_thrown ⟨(Nat.le_of_ble_eq_true rfl), (Nat.le_of_ble_eq_true rfl)⟩ (Nat.le_of_ble_eq_true rfl) (lw_hf (lw_b2 hK rfl) (lw_c2 hS rfl) rfl) dL_law_2777 rfl rfl ?_
  refine gq_iload (i := 5) C dL_law_2780 1 rfl ?_
  refine gq_icmp_eq_t (tgt := 2787) C dL_law_2782 (by decide) rfl ?_
  refine gq_iload (i := 5) C dL_law_2787 1 rfl ?_
  by_cases ht : t = 0
  · refine gq_if_ne_f (tgt := 2811) C dL_law_2789 (by decide) (by rw [ht]; rfl) ?_
    refine gq_aload_n (i := 3) C dL_law_2792 rfl 3 rfl ?_
    refine gq_iconst (v := nI 0) C dL_law_2793 (by decide) ?_
    refine gq_laloadL (x := svL w) C (show 311 < eN E by omega) (by decide +kernel) (lw_out (z3 ht)) dL_law_2794 ?_
    refine gq_iload (i := 6) C dL_law_2795 0 rfl ?_
    by_cases hw0 : w = 0
    · refine gq_if_eq_t (tgt := 2804) C dL_law_2797 (by decide) hw0 ?_
      refine gq_lconst (v := svL w) C dL_law_2804 (by rw [svL, if_pos hw0]; rfl) ?_
      refine gq_lcmp C dL_law_2805 ?_
      refine gq_if_eq_t (tgt := 2811) C dL_law_2806 (by decide) lw_cmp ?_
      refine gq_goto (tgt := 2921) C dL_law_2811 (by decide) ?_
      exact gq_widen (lw_k3 rfl) (lw_n3 rfl) (gq_sub [2, 3, 4, 5, 6] rfl (kk ν z4))
    · refine gq_if_eq_f (tgt := 2804) C dL_law_2797 (by decide) hw0 ?_
      refine gq_lconst (v := svL w) C dL_law_2800 (by rw [svL, if_neg hw0]; rfl) ?_
      refine gq_goto (tgt := 2805) C dL_law_2801 (by decide) ?_
      refine gq_lcmp C dL_law_2805 ?_
      refine gq_if_eq_t (tgt := 2811) C dL_law_2806 (by decide) lw_cmp ?_
      refine gq_goto (tgt := 2921) C dL_law_2811 (by decide) ?_
      exact gq_widen (lw_k3 rfl) (lw_n3 rfl) (gq_sub [2, 3, 4, 5, 6] rfl (kk ν z4))
  · refine gq_if_ne_t (tgt := 2811) C dL_law_2789 (by decide) (lw_tn ht4 ht) ?_
    refine gq_goto (tgt := 2921) C dL_law_2811 (by decide) ?_
    exact gq_widen (lw_k3 rfl) (lw_n3 rfl) (gq_sub [2, 3, 4, 5, 6] rfl (kk ν z4))
set_option maxHeartbeats 4000000 in
set_option maxRecDepth 100000 in
theorem cs_54 (C : Cq E p s m args meth c cL_law 9 RL) (X : Sx E s b L xs) (hx : Px args s) (hl9 : l.stackTraces = false) (hN : 312 ≤ eN E) (h : Iv j μ) (hj : j < 512) (hi : ∀ v, v < 7 → vp_in (i + nI v) L) (hK : k ≤ 500000) (hS : n ≤ 6000000) (kk : ∀ μ', Iv (j + 1) μ' → Gq E p l e room_1 s m args below meth c (k + 128) (n + 4096) 9 Q 2921 (lvL E b i) [] μ') : Gq E p l e room_1 s m args below meth c k n 9 Q 2870 (lvL E b i) [] μ := by
  have hN2 : 295 ≤ eN E := by omega
  have hN3 : 311 ≤ eN E := by omega
  refine gq_lv (lv' := [(4, .int i), (3, .ref (eB E + 311)), (2, .ref (eB E + 295)), (1, .ref (eB E + 0)), (0, .ref b)]) rfl ?_
  refine gq_aload_n (i := 1) C dL_law_2870 rfl 3 rfl ?_
  obtain ⟨n0, tt, ⟨hT, hn9, h16⟩, ⟨hTb, hCF⟩, hpost⟩ := a_fmtC h.1 h.2.1 h.2.2
  refine gq_callS (run_V (rest := []) (As := []) (j := 0) C hx (c_X3_formatClaims hN2 hT hn9 h16 hTb hCF) (fun _ z => z) (qn_l 0 (by decide) hN2) (by decide) (by decide) rfl wk_2_149 wk_2_150 wk_2_151 wk_1_1 wk_2_152 hd_X3_formatClaims ⟨(Nat.le_of_ble_eq_true rfl), (Nat.le_of_ble_eq_true rfl)⟩ (Nat.le_of_ble_eq_true rfl) (lw_hf (by omega) (by omega) rfl) dL_law_2871 rfl) (fun o μ1 hP => ?_)
  obtain ⟨w, ν, rfl, z1, z2, z5⟩ := hpost o μ1 hP
  have z4 : Iv (j + 1) ν := ⟨z5.1.mono hj, z5.2⟩
  show Gq E p l e room_1 s m args below meth c (k + rm_fmt.cells) (n + rm_fmt.slots) 9 Q 2874 _ [.int w] μ1
  refine gq_aload_n (i := 2) C dL_law_2874 rfl 2 rfl ?_
  refine gq_V (As := []) (rest := [.int w]) (j := 5) C (c_X4_formatClaims hN3 z1) (qn_m 295 (by decide) hN3) (by decide) (by decide) rfl wk_8_228 wk_8_229 wk_8_230 wk_1_9 wk_8_231 hd_X4_formatClaims ⟨(Nat.le_of_ble_eq_true rfl), (Nat.le_of_ble_eq_true rfl)⟩ (Nat.le_of_ble_eq_true rfl) (lw_hf (lw_b1 hK rfl) (lw_c1 hS rfl) rfl) dL_law_2875 rfl rfl ?_
  refine gq_icmp_eq_t (tgt := 2921) C dL_law_2878 (by decide) rfl ?_
  exact gq_widen (lw_k2 rfl) (lw_n2 rfl) (gq_sub [0, 1, 2, 3, 4] rfl (kk ν z4))
set_option maxHeartbeats 4000000 in
set_option maxRecDepth 100000 in
theorem cs_55 (C : Cq E p s m args meth c cL_law 9 RL) (X : Sx E s b L xs) (hx : Px args s) (hl9 : l.stackTraces = false) (hN : 312 ≤ eN E) (h : Iv j μ) (hj : j < 512) (hi : ∀ v, v < 7 → vp_in (i + nI v) L) (hK : k ≤ 500000) (hS : n ≤ 6000000) (kk : ∀ μ', Iv (j + 1) μ' → Gq E p l e room_1 s m args below meth c (k + 128) (n + 4096) 9 Q 2921 (lvL E b i) [] μ') : Gq E p l e room_1 s m args below meth c k n 9 Q 2883 (lvL E b i) [] μ := by
  have hN2 : 295 ≤ eN E := by omega
  have hN3 : 311 ≤ eN E := by omega
  refine gq_lv (lv' := [(4, .int i), (3, .ref (eB E + 311)), (2, .ref (eB E + 295)), (1, .ref (eB E + 0)), (0, .ref b)]) rfl ?_
  refine gq_aload_n (i := 1) C dL_law_2883 rfl 3 rfl ?_
  obtain ⟨n0, tt, ⟨hT, hn9, h16⟩, ⟨hN6, hTb, hg30, hG⟩, hpost⟩ := a_fmtR h.1 h.2.1 h.2.2
  refine gq_callS (run_V (rest := []) (As := []) (j := 0) C hx (c_X3_formatRiver hN2 hT hn9 h16 hN6 hTb hg30 hG) (fun _ z => z) (qn_l 0 (by decide) hN2) (by decide) (by decide) rfl wk_4_43 wk_4_44 wk_4_45 wk_1_1 wk_4_46 hd_X3_formatRiver ⟨(Nat.le_of_ble_eq_true rfl), (Nat.le_of_ble_eq_true rfl)⟩ (Nat.le_of_ble_eq_true rfl) (lw_hf (by omega) (by omega) rfl) dL_law_2884 rfl) (fun o μ1 hP => ?_)
  obtain ⟨w, ν, rfl, z1, z2, z5⟩ := hpost o μ1 hP
  have z4 : Iv (j + 1) ν := ⟨z5.1.mono hj, z5.2⟩
  show Gq E p l e room_1 s m args below meth c (k + rm_fmt.cells) (n + rm_fmt.slots) 9 Q 2887 _ [.int w] μ1
  refine gq_aload_n (i := 2) C dL_law_2887 rfl 2 rfl ?_
  refine gq_V (As := []) (rest := [.int w]) (j := 5) C (c_X4_formatRiver hN3 z1) (qn_m 295 (by decide) hN3) (by decide) (by decide) rfl wk_9_0 wk_9_1 wk_9_2 wk_1_9 wk_9_3 hd_X4_formatRiver ⟨(Nat.le_of_ble_eq_true rfl), (Nat.le_of_ble_eq_true rfl)⟩ (Nat.le_of_ble_eq_true rfl) (lw_hf (lw_b1 hK rfl) (lw_c1 hS rfl) rfl) dL_law_2888 rfl rfl ?_
  refine gq_icmp_eq_t (tgt := 2921) C dL_law_2891 (by decide) rfl ?_
  exact gq_widen (lw_k2 rfl) (lw_n2 rfl) (gq_sub [0, 1, 2, 3, 4] rfl (kk ν z4))
set_option maxHeartbeats 4000000 in
set_option maxRecDepth 100000 in
theorem cs_56 (C : Cq E p s m args meth c cL_law 9 RL) (X : Sx E s b L xs) (hl9 : l.stackTraces = false) (hN : 312 ≤ eN E) (h : Iv j μ) (hj : j < 512) (hi : ∀ v, v < 7 → vp_in (i + nI v) L) (hK : k ≤ 500000) (hS : n ≤ 6000000) (kk : ∀ μ', Iv (j + 1) μ' → Gq E p l e room_1 s m args below meth c (k + 128) (n + 4096) 9 Q 2921 (lvL E b i) [] μ') : Gq E p l e room_1 s m args below meth c k n 9 Q 2896 (lvL E b i) [] μ := by
  have hN2 : 295 ≤ eN E := by omega
  have hN3 : 311 ≤ eN E := by omega
  obtain ⟨p1, hp1⟩ : ∃ z, z = xs (i + nI 1).toNatClampNeg := ⟨_, rfl⟩
  obtain ⟨nb, tb, ⟨hT, hn9, hb9⟩, ν, z1, z4⟩ := s_formattedByte h hj p1
  refine gq_lv (lv' := [(4, .int i), (3, .ref (eB E + 311)), (2, .ref (eB E + 295)), (1, .ref (eB E + 0)), (0, .ref b)]) rfl ?_
  refine gq_aload_n (i := 1) C dL_law_2896 rfl 3 rfl ?_
  refine gq_arg (v := nI 1) C X (hi 1 (by decide)) hp1.symm 4 0 rfl rfl (by decide) dL_law_2897 dL_law_2898 dL_law_2900 dL_law_2901 dL_law_2902 ?_
  refine gq_V (As := [.int p1]) (rest := []) (j := 0) C (c_X3_formattedByte hN2 hT hn9 hb9) (qn_l 0 (by decide) hN2) (by decide) (by decide) rfl wk_4_47 wk_4_48 wk_4_49 wk_1_1 wk_4_50 hd_X3_formattedByte ⟨(Nat.le_of_ble_eq_true rfl), (Nat.le_of_ble_eq_true rfl)⟩ (Nat.le_of_ble_eq_true rfl) (lw_hf (by omega) (by omega) rfl) dL_law_2903 rfl rfl ?_
  refine gq_aload_n (i := 2) C dL_law_2906 rfl 2 rfl ?_
  refine gq_arg (v := nI 1) C X (hi 1 (by decide)) hp1.symm 4 0 rfl rfl (by decide) dL_law_2907 dL_law_2908 dL_law_2910 dL_law_2911 dL_law_2912 ?_
  refine gq_V (As := [.int p1]) (rest := [.int (fbV nb tb p1)]) (j := 5) C (c_X4_formattedByte hN3 z1) (qn_m 295 (by decide) hN3) (by decide) (by decide) rfl wk_9_4 wk_9_5 wk_9_6 wk_1_9 wk_9_7 hd_X4_formattedByte ⟨(Nat.le_of_ble_eq_true rfl), (Nat.le_of_ble_eq_true rfl)⟩ (Nat.le_of_ble_eq_true rfl) (lw_hf (lw_b1 hK rfl) (lw_c1 hS rfl) rfl) dL_law_2913 rfl rfl ?_
  refine gq_icmp_eq_t (tgt := 2921) C dL_law_2916 (by decide) rfl ?_
  exact gq_widen (lw_k2 rfl) (lw_n2 rfl) (gq_sub [0, 1, 2, 3, 4] rfl (kk ν z4))
end LCS
