/-! ===== the law's cases ===== -/
section LCS
variable {E : Ev} {p : Program} {l : Launch} {e : Env} {s : State} {m : MethodId} {args : Array Value} {below : List Frame} {meth : Method} {c : Code} {k n j : Nat} {Q : State → Prop} {μ : Mm} {b L : Nat} {xs : Nat → Int32} {i : Int32}
set_option maxHeartbeats 4000000 in
set_option maxRecDepth 100000 in
theorem cs_3 (C : Cq E p s m args meth c cL_law 9 RL) (X : Sx E s b L xs) (hl9 : l.stackTraces = false) (hN : 312 ≤ eN E) (h : Iv j μ) (hj : j < 512) (hi : ∀ v, v < 7 → vp_in (i + nI v) L) (hK : k ≤ 500000) (hS : n ≤ 6000000) (kk : ∀ μ', Iv (j + 1) μ' → Gq E p l e room_1 s m args below meth c (k + 128) (n + 4096) 9 Q 2921 (lvL E b i) [] μ') : Gq E p l e room_1 s m args below meth c k n 9 Q 426 (lvL E b i) [] μ := by
  have hN2 : 295 ≤ eN E := by omega
  have hN3 : 311 ≤ eN E := by omega
  obtain ⟨w, ν, z0, z1, z4⟩ := s_errorOffset h hj
  refine gq_lv (lv' := [(4, .int i), (3, .ref (eB E + 311)), (2, .ref (eB E + 295)), (1, .ref (eB E + 0)), (0, .ref b)]) rfl ?_
  refine gq_aload_n (i := 1) C dL_law_426 rfl 3 rfl ?_
  refine gq_V (As := []) (rest := []) (j := 0) C (c_X3_errorOffset hN2 z0) (qn_l 0 (by decide) hN2) (by decide) (by decide) rfl wk_2_27 wk_2_28 wk_2_29 wk_1_1 wk_2_30 hd_X3_errorOffset ⟨(Nat.le_of_ble_eq_true rfl), (Nat.le_of_ble_eq_true rfl)⟩ (Nat.le_of_ble_eq_true rfl) (lw_hf (by omega) (by omega) rfl) dL_law_427 rfl rfl ?_
  refine gq_aload_n (i := 2) C dL_law_430 rfl 2 rfl ?_
  refine gq_V (As := []) (rest := [.int w]) (j := 5) C (c_X4_errorOffset hN3 z1) (qn_m 295 (by decide) hN3) (by decide) (by decide) rfl wk_7_119 wk_7_120 wk_7_121 wk_1_9 wk_7_122 hd_X4_errorOffset ⟨(Nat.le_of_ble_eq_true rfl), (Nat.le_of_ble_eq_true rfl)⟩ (Nat.le_of_ble_eq_true rfl) (lw_hf (lw_b1 hK rfl) (lw_c1 hS rfl) rfl) dL_law_431 rfl rfl ?_
  refine gq_icmp_eq_t (tgt := 2921) C dL_law_434 (by decide) rfl ?_
  exact gq_widen (lw_k2 rfl) (lw_n2 rfl) (gq_sub [0, 1, 2, 3, 4] rfl (kk ν z4))
set_option maxHeartbeats 4000000 in
set_option maxRecDepth 100000 in
theorem cs_4 (C : Cq E p s m args meth c cL_law 9 RL) (X : Sx E s b L xs) (hl9 : l.stackTraces = false) (hN : 312 ≤ eN E) (h : Iv j μ) (hj : j < 512) (hi : ∀ v, v < 7 → vp_in (i + nI v) L) (hK : k ≤ 500000) (hS : n ≤ 6000000) (kk : ∀ μ', Iv (j + 1) μ' → Gq E p l e room_1 s m args below meth c (k + 128) (n + 4096) 9 Q 2921 (lvL E b i) [] μ') : Gq E p l e room_1 s m args below meth c k n 9 Q 439 (lvL E b i) [] μ := by
  have hN2 : 295 ≤ eN E := by omega
  have hN3 : 311 ≤ eN E := by omega
  obtain ⟨w, ν, z0, z1, z4⟩ := s_errorKind h hj
  refine gq_lv (lv' := [(4, .int i), (3, .ref (eB E + 311)), (2, .ref (eB E + 295)), (1, .ref (eB E + 0)), (0, .ref b)]) rfl ?_
  refine gq_aload_n (i := 1) C dL_law_439 rfl 3 rfl ?_
  refine gq_V (As := []) (rest := []) (j := 0) C (c_X3_errorKind hN2 z0) (qn_l 0 (by decide) hN2) (by decide) (by decide) rfl wk_2_31 wk_2_32 wk_2_33 wk_1_1 wk_2_34 hd_X3_errorKind ⟨(Nat.le_of_ble_eq_true rfl), (Nat.le_of_ble_eq_true rfl)⟩ (Nat.le_of_ble_eq_true rfl) (lw_hf (by omega) (by omega) rfl) dL_law_440 rfl rfl ?_
  refine gq_aload_n (i := 2) C dL_law_443 rfl 2 rfl ?_
  refine gq_V (As := []) (rest := [.int w]) (j := 5) C (c_X4_errorKind hN3 z1) (qn_m 295 (by decide) hN3) (by decide) (by decide) rfl wk_7_123 wk_7_124 wk_7_125 wk_1_9 wk_7_126 hd_X4_errorKind ⟨(Nat.le_of_ble_eq_true rfl), (Nat.le_of_ble_eq_true rfl)⟩ (Nat.le_of_ble_eq_true rfl) (lw_hf (lw_b1 hK rfl) (lw_c1 hS rfl) rfl) dL_law_444 rfl rfl ?_
  refine gq_icmp_eq_t (tgt := 2921) C dL_law_447 (by decide) rfl ?_
  exact gq_widen (lw_k2 rfl) (lw_n2 rfl) (gq_sub [0, 1, 2, 3, 4] rfl (kk ν z4))
set_option maxHeartbeats 4000000 in
set_option maxRecDepth 100000 in
theorem cs_6 (C : Cq E p s m args meth c cL_law 9 RL) (X : Sx E s b L xs) (hl9 : l.stackTraces = false) (hN : 312 ≤ eN E) (h : Iv j μ) (hj : j < 512) (hi : ∀ v, v < 7 → vp_in (i + nI v) L) (hK : k ≤ 500000) (hS : n ≤ 6000000) (kk : ∀ μ', Iv (j + 1) μ' → Gq E p l e room_1 s m args below meth c (k + 128) (n + 4096) 9 Q 2921 (lvL E b i) [] μ') : Gq E p l e room_1 s m args below meth c k n 9 Q 508 (lvL E b i) [] μ := by
  have hN2 : 295 ≤ eN E := by omega
  have hN3 : 311 ≤ eN E := by omega
  obtain ⟨p1, hp1⟩ : ∃ z, z = xs (i + nI 1).toNatClampNeg := ⟨_, rfl⟩
  obtain ⟨ec, t, r, w, ν, z0, hM, z1, z2, z3, z4⟩ := s_season h hj p1
  have ht4 : t < 4 := lw_t4 hM (by decide)
  refine gq_lv (lv' := [(4, .int i), (3, .ref (eB E + 311)), (2, .ref (eB E + 295)), (1, .ref (eB E + 0)), (0, .ref b)]) rfl ?_
  refine gq_aload_n (i := 1) C dL_law_508 rfl 3 rfl ?_
  refine gq_arg (v := nI 1) C X (hi 1 (by decide)) hp1.symm 4 0 rfl rfl (by decide) dL_law_509 dL_law_510 dL_law_512 dL_law_513 dL_law_514 ?_
  refine gq_aload_n (i := 3) C dL_law_515 rfl 1 rfl ?_
  refine gq_call (run_SW (rest := []) (As := [.ref (eB E + 0), .int p1, .ref (eB E + 311)]) C (c_L_season hN hl9 z0 hM) wk_4_208 wk_4_209 wk_1_0 wk_4_210 hd_L_season ⟨(Nat.le_of_ble_eq_true rfl), (Nat.le_of_ble_eq_true rfl)⟩ (Nat.le_of_ble_eq_true rfl) (lw_hf (by omega) (by omega) rfl) dL_law_516 rfl) rfl ?_
  refine gq_istore (lv' := [(5, .int (nI t)), (4, .int i), (3, .ref (eB E + 311)), (2, .ref (eB E + 295)), (1, .ref (eB E + 0)), (0, .ref b)]) C dL_law_519 (by decide) rfl ?_
  refine gq_aload_n (i := 2) C dL_law_521 rfl 3 rfl ?_
  refine gq_arg (v := nI 1) C X (hi 1 (by decide)) hp1.symm 5 1 rfl rfl (by decide) dL_law_522 dL_law_523 dL_law_525 dL_law_526 dL_law_527 ?_
  refine gq_V (As := [.int p1]) (rest := []) (j := 5) C (c_X4_season hN3 z1) (qn_m 295 (by decide) hN3) (by decide) (by decide) rfl wk_7_131 wk_7_132 wk_7_133 wk_1_9 wk_7_134 hd_X4_season ⟨(Nat.le_of_ble_eq_true rfl), (Nat.le_of_ble_eq_true rfl)⟩ (Nat.le_of_ble_eq_true rfl) (lw_hf (lw_b1 hK rfl) (lw_c1 hS rfl) rfl) dL_law_528 rfl rfl ?_
  refine gq_istore (lv' := [(6, .int w), (5, .int (nI t)), (4, .int i), (3, .ref (eB E + 311)), (2, .ref (eB E + 295)), (1, .ref (eB E + 0)), (0, .ref b)]) C dL_law_531 (by decide) rfl ?_
  refine gq_aload_n (i := 2) C dL_law_533 rfl 4 rfl ?_
  refine gq_V (As := []) (rest := []) (j := 5) C (c_X4_thrown hN3 (r := nI t) (congrArg some z2)) (qn_m 295 (by decide) hN3) (by decide) (by decide) rfl wk_7_13 wk_7_14 wk_7_15 wk_1_9 wk_7_16 hd_X4_thrown ⟨(Nat.le_of_ble_eq_true rfl), (Nat.le_of_ble_eq_true rfl)⟩ (Nat.le_of_ble_eq_true rfl) (lw_hf (lw_b2 hK rfl) (lw_c2 hS rfl) rfl) dL_law_534 rfl rfl ?_
  refine gq_iload (i := 5) C dL_law_537 1 rfl ?_
  refine gq_icmp_eq_t (tgt := 544) C dL_law_539 (by decide) rfl ?_
  refine gq_iload (i := 5) C dL_law_544 1 rfl ?_
  by_cases ht : t = 0
  · refine gq_if_ne_f (tgt := 561) C dL_law_546 (by decide) (by rw [ht]; rfl) ?_
    refine gq_aload_n (i := 3) C dL_law_549 rfl 3 rfl ?_
    refine gq_iconst (v := nI 0) C dL_law_550 (by decide) ?_
    refine gq_laloadL (x := w.toInt64) C (show 311 < eN E by omega) (by decide +kernel) (lw_out (z3 ht)) dL_law_551 ?_
    refine gq_iload (i := 6) C dL_law_552 0 rfl ?_
    refine gq_i2l C dL_law_554 ?_
    refine gq_lcmp C dL_law_555 ?_
    refine gq_if_eq_t (tgt := 561) C dL_law_556 (by decide) lw_cmp ?_
    refine gq_goto (tgt := 2921) C dL_law_561 (by decide) ?_
    exact gq_widen (lw_k3 rfl) (lw_n3 rfl) (gq_sub [2, 3, 4, 5, 6] rfl (kk ν z4))
  · refine gq_if_ne_t (tgt := 561) C dL_law_546 (by decide) (lw_tn ht4 ht) ?_
    refine gq_goto (tgt := 2921) C dL_law_561 (by decide) ?_
    exact gq_widen (lw_k3 rfl) (lw_n3 rfl) (gq_sub [2, 3, 4, 5, 6] rfl (kk ν z4))
set_option maxHeartbeats 4000000 in
set_option maxRecDepth 100000 in
theorem cs_7 (C : Cq E p s m args meth c cL_law 9 RL) (X : Sx E s b L xs) (hl9 : l.stackTraces = false) (hN : 312 ≤ eN E) (h : Iv j μ) (hj : j < 512) (hi : ∀ v, v < 7 → vp_in (i + nI v) L) (hK : k ≤ 500000) (hS : n ≤ 6000000) (kk : ∀ μ', Iv (j + 1) μ' → Gq E p l e room_1 s m args below meth c (k + 128) (n + 4096) 9 Q 2921 (lvL E b i) [] μ') : Gq E p l e room_1 s m args below meth c k n 9 Q 564 (lvL E b i) [] μ := by
  have hN2 : 295 ≤ eN E := by omega
  have hN3 : 311 ≤ eN E := by omega
  obtain ⟨p1, hp1⟩ : ∃ z, z = xs (i + nI 1).toNatClampNeg := ⟨_, rfl⟩
  obtain ⟨ec, t, r, w, ν, z0, hM, z1, z2, z3, z4⟩ := s_yearPercent h hj p1
  have ht4 : t < 4 := lw_t4 hM (by decide)
  refine gq_lv (lv' := [(4, .int i), (3, .ref (eB E + 311)), (2, .ref (eB E + 295)), (1, .ref (eB E + 0)), (0, .ref b)]) rfl ?_
  refine gq_aload_n (i := 1) C dL_law_564 rfl 3 rfl ?_
  refine gq_arg (v := nI 1) C X (hi 1 (by decide)) hp1.symm 4 0 rfl rfl (by decide) dL_law_565 dL_law_566 dL_law_568 dL_law_569 dL_law_570 ?_
  refine gq_aload_n (i := 3) C dL_law_571 rfl 1 rfl ?_
  refine gq_call (run_SW (rest := []) (As := [.ref (eB E + 0), .int p1, .ref (eB E + 311)]) C (c_L_yearPercent hN hl9 z0 hM) wk_4_223 wk_4_224 wk_1_0 wk_4_225 hd_L_yearPercent ⟨(Nat.le_of_ble_eq_true rfl), (Nat.le_of_ble_eq_true rfl)⟩ (Nat.le_of_ble_eq_true rfl) (lw_hf (by omega) (by omega) rfl) dL_law_572 rfl) rfl ?_
  refine gq_istore (lv' := [(5, .int (nI t)), (4, .int i), (3, .ref (eB E + 311)), (2, .ref (eB E + 295)), (1, .ref (eB E + 0)), (0, .ref b)]) C dL_law_575 (by decide) rfl ?_
  refine gq_aload_n (i := 2) C dL_law_577 rfl 3 rfl ?_
  refine gq_arg (v := nI 1) C X (hi 1 (by decide)) hp1.symm 5 1 rfl rfl (by decide) dL_law_578 dL_law_579 dL_law_581 dL_law_582 dL_law_583 ?_
  refine gq_V (As := [.int p1]) (rest := []) (j := 5) C (c_X4_yearPercent hN3 z1) (qn_m 295 (by decide) hN3) (by decide) (by decide) rfl wk_7_135 wk_7_136 wk_7_137 wk_1_9 wk_7_138 hd_X4_yearPercent ⟨(Nat.le_of_ble_eq_true rfl), (Nat.le_of_ble_eq_true rfl)⟩ (Nat.le_of_ble_eq_true rfl) (lw_hf (lw_b1 hK rfl) (lw_c1 hS rfl) rfl) dL_law_584 rfl rfl ?_
  refine gq_istore (lv' := [(6, .int w), (5, .int (nI t)), (4, .int i), (3, .ref (eB E + 311)), (2, .ref (eB E + 295)), (1, .ref (eB E + 0)), (0, .ref b)]) C dL_law_587 (by decide) rfl ?_
  refine gq_aload_n (i := 2) C dL_law_589 rfl 4 rfl ?_
  refine gq_V (As := []) (rest := []) (j := 5) C (c_X4_thrown hN3 (r := nI t) (congrArg some z2)) (qn_m 295 (by decide) hN3) (by decide) (by decide) rfl wk_7_13 wk_7_14 wk_7_15 wk_1_9 wk_7_16 hd_X4_thrown ⟨(Nat.le_of_ble_eq_true rfl), (Nat.le_of_ble_eq_true rfl)⟩ (Nat.le_of_ble_eq_true rfl) (lw_hf (lw_b2 hK rfl) (lw_c2 hS rfl) rfl) dL_law_590 rfl rfl ?_
  refine gq_iload (i := 5) C dL_law_593 1 rfl ?_
  refine gq_icmp_eq_t (tgt := 600) C dL_law_595 (by decide) rfl ?_
  refine gq_iload (i := 5) C dL_law_600 1 rfl ?_
  by_cases ht : t = 0
  · refine gq_if_ne_f (tgt := 617) C dL_law_602 (by decide) (by rw [ht]; rfl) ?_
    refine gq_aload_n (i := 3) C dL_law_605 rfl 3 rfl ?_
    refine gq_iconst (v := nI 0) C dL_law_606 (by decide) ?_
    refine gq_laloadL (x := w.toInt64) C (show 311 < eN E by omega) (by decide +kernel) (lw_out (z3 ht)) dL_law_607 ?_
    refine gq_iload (i := 6) C dL_law_608 0 rfl ?_
    refine gq_i2l C dL_law_610 ?_
    refine gq_lcmp C dL_law_611 ?_
    refine gq_if_eq_t (tgt := 617) C dL_law_612 (by decide) lw_cmp ?_
    refine gq_goto (tgt := 2921) C dL_law_617 (by decide) ?_
    exact gq_widen (lw_k3 rfl) (lw_n3 rfl) (gq_sub [2, 3, 4, 5, 6] rfl (kk ν z4))
  · refine gq_if_ne_t (tgt := 617) C dL_law_602 (by decide) (lw_tn ht4 ht) ?_
    refine gq_goto (tgt := 2921) C dL_law_617 (by decide) ?_
    exact gq_widen (lw_k3 rfl) (lw_n3 rfl) (gq_sub [2, 3, 4, 5, 6] rfl (kk ν z4))
set_option maxHeartbeats 4000000 in
set_option maxRecDepth 100000 in
theorem cs_8 (C : Cq E p s m args meth c cL_law 9 RL) (X : Sx E s b L xs) (hl9 : l.stackTraces = false) (hN : 312 ≤ eN E) (h : Iv j μ) (hj : j < 512) (hi : ∀ v, v < 7 → vp_in (i + nI v) L) (hK : k ≤ 500000) (hS : n ≤ 6000000) (kk : ∀ μ', Iv (j + 1) μ' → Gq E p l e room_1 s m args below meth c (k + 128) (n + 4096) 9 Q 2921 (lvL E b i) [] μ') : Gq E p l e room_1 s m args below meth c k n 9 Q 620 (lvL E b i) [] μ := by
  have hN2 : 295 ≤ eN E := by omega
  have hN3 : 311 ≤ eN E := by omega
  obtain ⟨p1, hp1⟩ : ∃ z, z = xs (i + nI 1).toNatClampNeg := ⟨_, rfl⟩
  obtain ⟨p2, hp2⟩ : ∃ z, z = xs (i + nI 2).toNatClampNeg := ⟨_, rfl⟩
  obtain ⟨ec, t, r, w, ν, z0, hM, z1, z2, z3, z4⟩ := s_reach h hj p1 p2
  have ht4 : t < 4 := lw_t4 hM (by decide)
  refine gq_lv (lv' := [(4, .int i), (3, .ref (eB E + 311)), (2, .ref (eB E + 295)), (1, .ref (eB E + 0)), (0, .ref b)]) rfl ?_
  refine gq_aload_n (i := 1) C dL_law_620 rfl 3 rfl ?_
  refine gq_arg (v := nI 1) C X (hi 1 (by decide)) hp1.symm 4 0 rfl rfl (by decide) dL_law_621 dL_law_622 dL_law_624 dL_law_625 dL_law_626 ?_
  refine gq_arg (v := nI 2) C X (hi 2 (by decide)) hp2.symm 4 0 rfl rfl (by decide) dL_law_627 dL_law_628 dL_law_630 dL_law_631 dL_law_632 ?_
  refine gq_aload_n (i := 3) C dL_law_633 rfl 1 rfl ?_
  refine gq_call (run_SW (rest := []) (As := [.ref (eB E + 0), .int p1, .int p2, .ref (eB E + 311)]) C (c_L_reach hN hl9 z0 hM) wk_4_232 wk_4_233 wk_1_0 wk_4_234 hd_L_reach ⟨(Nat.le_of_ble_eq_true rfl), (Nat.le_of_ble_eq_true rfl)⟩ (Nat.le_of_ble_eq_true rfl) (lw_hf (by omega) (by omega) rfl) dL_law_634 rfl) rfl ?_
  refine gq_istore (lv' := [(5, .int (nI t)), (4, .int i), (3, .ref (eB E + 311)), (2, .ref (eB E + 295)), (1, .ref (eB E + 0)), (0, .ref b)]) C dL_law_637 (by decide) rfl ?_
  refine gq_aload_n (i := 2) C dL_law_639 rfl 3 rfl ?_
  refine gq_arg (v := nI 1) C X (hi 1 (by decide)) hp1.symm 5 1 rfl rfl (by decide) dL_law_640 dL_law_641 dL_law_643 dL_law_644 dL_law_645 ?_
  refine gq_arg (v := nI 2) C X (hi 2 (by decide)) hp2.symm 5 1 rfl rfl (by decide) dL_law_646 dL_law_647 dL_law_649 dL_law_650 dL_law_651 ?_
  refine gq_V (As := [.int p1, .int p2]) (rest := []) (j := 5) C (c_X4_reach hN3 z1) (qn_m 295 (by decide) hN3) (by decide) (by decide) rfl wk_7_143 wk_7_144 wk_7_145 wk_1_9 wk_7_146 hd_X4_reach ⟨(Nat.le_of_ble_eq_true rfl), (Nat.le_of_ble_eq_true rfl)⟩ (Nat.le_of_ble_eq_true rfl) (lw_hf (lw_b1 hK rfl) (lw_c1 hS rfl) rfl) dL_law_652 rfl rfl ?_
  refine gq_istore (lv' := [(6, .int w), (5, .int (nI t)), (4, .int i), (3, .ref (eB E + 311)), (2, .ref (eB E + 295)), (1, .ref (eB E + 0)), (0, .ref b)]) C dL_law_655 (by decide) rfl ?_
  refine gq_aload_n (i := 2) C dL_law_657 rfl 4 rfl ?_
  refine gq_V (As := []) (rest := []) (j := 5) C (c_X4_thrown hN3 (r := nI t) (congrArg some z2)) (qn_m 295 (by decide) hN3) (by decide) (by decide) rfl wk_7_13 wk_7_14 wk_7_15 wk_1_9 wk_7_16 hd_X4_thrown ⟨(Nat.le_of_ble_eq_true rfl), (Nat.le_of_ble_eq_true rfl)⟩ (Nat.le_of_ble_eq_true rfl) (lw_hf (lw_b2 hK rfl) (lw_c2 hS rfl) rfl) dL_law_658 rfl rfl ?_
  refine gq_iload (i := 5) C dL_law_661 1 rfl ?_
  refine gq_icmp_eq_t (tgt := 668) C dL_law_663 (by decide) rfl ?_
  refine gq_iload (i := 5) C dL_law_668 1 rfl ?_
  by_cases ht : t = 0
  · refine gq_if_ne_f (tgt := 685) C dL_law_670 (by decide) (by rw [ht]; rfl) ?_
    refine gq_aload_n (i := 3) C dL_law_673 rfl 3 rfl ?_
    refine gq_iconst (v := nI 0) C dL_law_674 (by decide) ?_
    refine gq_laloadL (x := w.toInt64) C (show 311 < eN E by omega) (by decide +kernel) (lw_out (z3 ht)) dL_law_675 ?_
    refine gq_iload (i := 6) C dL_law_676 0 rfl ?_
    refine gq_i2l C dL_law_678 ?_
    refine gq_lcmp C dL_law_679 ?_
    refine gq_if_eq_t (tgt := 685) C dL_law_680 (by decide) lw_cmp ?_
    refine gq_goto (tgt := 2921) C dL_law_685 (by decide) ?_
    exact gq_widen (lw_k3 rfl) (lw_n3 rfl) (gq_sub [2, 3, 4, 5, 6] rfl (kk ν z4))
  · refine gq_if_ne_t (tgt := 685) C dL_law_670 (by decide) (lw_tn ht4 ht) ?_
    refine gq_goto (tgt := 2921) C dL_law_685 (by decide) ?_
    exact gq_widen (lw_k3 rfl) (lw_n3 rfl) (gq_sub [2, 3, 4, 5, 6] rfl (kk ν z4))
set_option maxHeartbeats 4000000 in
set_option maxRecDepth 100000 in
theorem cs_9 (C : Cq E p s m args meth c cL_law 9 RL) (X : Sx E s b L xs) (hl9 : l.stackTraces = false) (hN : 312 ≤ eN E) (h : Iv j μ) (hj : j < 512) (hi : ∀ v, v < 7 → vp_in (i + nI v) L) (hK : k ≤ 500000) (hS : n ≤ 6000000) (kk : ∀ μ', Iv (j + 1) μ' → Gq E p l e room_1 s m args below meth c (k + 128) (n + 4096) 9 Q 2921 (lvL E b i) [] μ') : Gq E p l e room_1 s m args below meth c k n 9 Q 688 (lvL E b i) [] μ := by
  have hN2 : 295 ≤ eN E := by omega
  have hN3 : 311 ≤ eN E := by omega
  obtain ⟨p1, hp1⟩ : ∃ z, z = xs (i + nI 1).toNatClampNeg := ⟨_, rfl⟩
  obtain ⟨ec, t, r, w, ν, z0, hM, z1, z2, z3, z4⟩ := s_coming h hj p1
  have ht4 : t < 4 := lw_t4 hM (by decide)
  refine gq_lv (lv' := [(4, .int i), (3, .ref (eB E + 311)), (2, .ref (eB E + 295)), (1, .ref (eB E + 0)), (0, .ref b)]) rfl ?_
  refine gq_aload_n (i := 1) C dL_law_688 rfl 3 rfl ?_
  refine gq_arg (v := nI 1) C X (hi 1 (by decide)) hp1.symm 4 0 rfl rfl (by decide) dL_law_689 dL_law_690 dL_law_692 dL_law_693 dL_law_694 ?_
  refine gq_aload_n (i := 3) C dL_law_695 rfl 1 rfl ?_
  refine gq_call (run_SW (rest := []) (As := [.ref (eB E + 0), .int p1, .ref (eB E + 311)]) C (c_L_coming hN hl9 z0 hM) wk_5_17 wk_5_18 wk_1_0 wk_5_19 hd_L_coming ⟨(Nat.le_of_ble_eq_true rfl), (Nat.le_of_ble_eq_true rfl)⟩ (Nat.le_of_ble_eq_true rfl) (lw_hf (by omega) (by omega) rfl) dL_law_696 rfl) rfl ?_
  refine gq_istore (lv' := [(5, .int (nI t)), (4, .int i), (3, .ref (eB E + 311)), (2, .ref (eB E + 295)), (1, .ref (eB E + 0)), (0, .ref b)]) C dL_law_699 (by decide) rfl ?_
  refine gq_aload_n (i := 2) C dL_law_701 rfl 3 rfl ?_
  refine gq_arg (v := nI 1) C X (hi 1 (by decide)) hp1.symm 5 1 rfl rfl (by decide) dL_law_702 dL_law_703 dL_law_705 dL_law_706 dL_law_707 ?_
  refine gq_V (As := [.int p1]) (rest := []) (j := 5) C (c_X4_coming hN3 z1) (qn_m 295 (by decide) hN3) (by decide) (by decide) rfl wk_7_151 wk_7_152 wk_7_153 wk_1_9 wk_7_154 hd_X4_coming ⟨(Nat.le_of_ble_eq_true rfl), (Nat.le_of_ble_eq_true rfl)⟩ (Nat.le_of_ble_eq_true rfl) (lw_hf (lw_b1 hK rfl) (lw_c1 hS rfl) rfl) dL_law_708 rfl rfl ?_
  refine gq_istore (lv' := [(6, .int w), (5, .int (nI t)), (4, .int i), (3, .ref (eB E + 311)), (2, .ref (eB E + 295)), (1, .ref (eB E + 0)), (0, .ref b)]) C dL_law_711 (by decide) rfl ?_
  refine gq_aload_n (i := 2) C dL_law_713 rfl 4 rfl ?_
  refine gq_V (As := []) (rest := []) (j := 5) C (c_X4_thrown hN3 (r := nI t) (congrArg some z2)) (qn_m 295 (by decide) hN3) (by decide) (by decide) rfl wk_7_13 wk_7_14 wk_7_15 wk_1_9 wk_7_16 hd_X4_thrown ⟨(Nat.le_of_ble_eq_true rfl), (Nat.le_of_ble_eq_true rfl)⟩ (Nat.le_of_ble_eq_true rfl) (lw_hf (lw_b2 hK rfl) (lw_c2 hS rfl) rfl) dL_law_714 rfl rfl ?_
  refine gq_iload (i := 5) C dL_law_717 1 rfl ?_
  refine gq_icmp_eq_t (tgt := 724) C dL_law_719 (by decide) rfl ?_
  refine gq_iload (i := 5) C dL_law_724 1 rfl ?_
  by_cases ht : t = 0
  · refine gq_if_ne_f (tgt := 741) C dL_law_726 (by decide) (by rw [ht]; rfl) ?_
    refine gq_aload_n (i := 3) C dL_law_729 rfl 3 rfl ?_
    refine gq_iconst (v := nI 0) C dL_law_730 (by decide) ?_
    refine gq_laloadL (x := w.toInt64) C (show 311 < eN E by omega) (by decide +kernel) (lw_out (z3 ht)) dL_law_731 ?_
    refine gq_iload (i := 6) C dL_law_732 0 rfl ?_
    refine gq_i2l C dL_law_734 ?_
    refine gq_lcmp C dL_law_735 ?_
    refine gq_if_eq_t (tgt := 741) C dL_law_736 (by decide) lw_cmp ?_
    refine gq_goto (tgt := 2921) C dL_law_741 (by decide) ?_
    exact gq_widen (lw_k3 rfl) (lw_n3 rfl) (gq_sub [2, 3, 4, 5, 6] rfl (kk ν z4))
  · refine gq_if_ne_t (tgt := 741) C dL_law_726 (by decide) (lw_tn ht4 ht) ?_
    refine gq_goto (tgt := 2921) C dL_law_741 (by decide) ?_
    exact gq_widen (lw_k3 rfl) (lw_n3 rfl) (gq_sub [2, 3, 4, 5, 6] rfl (kk ν z4))
set_option maxHeartbeats 4000000 in
set_option maxRecDepth 100000 in
theorem cs_11 (C : Cq E p s m args meth c cL_law 9 RL) (X : Sx E s b L xs) (hl9 : l.stackTraces = false) (hN : 312 ≤ eN E) (h : Iv j μ) (hj : j < 512) (hi : ∀ v, v < 7 → vp_in (i + nI v) L) (hK : k ≤ 500000) (hS : n ≤ 6000000) (kk : ∀ μ', Iv (j + 1) μ' → Gq E p l e room_1 s m args below meth c (k + 128) (n + 4096) 9 Q 2921 (lvL E b i) [] μ') : Gq E p l e room_1 s m args below meth c k n 9 Q 799 (lvL E b i) [] μ := by
  have hN2 : 295 ≤ eN E := by omega
  have hN3 : 311 ≤ eN E := by omega
  obtain ⟨p1, hp1⟩ : ∃ z, z = xs (i + nI 1).toNatClampNeg := ⟨_, rfl⟩
  obtain ⟨ec, t, r, w, ν, z0, hM, z1, z2, z3, z4⟩ := s_bank h hj p1
  have ht4 : t < 4 := lw_t4 hM (by decide)
  refine gq_lv (lv' := [(4, .int i), (3, .ref (eB E + 311)), (2, .ref (eB E + 295)), (1, .ref (eB E + 0)), (0, .ref b)]) rfl ?_
  refine gq_aload_n (i := 1) C dL_law_799 rfl 3 rfl ?_
  refine gq_arg (v := nI 1) C X (hi 1 (by decide)) hp1.symm 4 0 rfl rfl (by decide) dL_law_800 dL_law_801 dL_law_803 dL_law_804 dL_law_805 ?_
  refine gq_aload_n (i := 3) C dL_law_806 rfl 1 rfl ?_
  refine gq_call (run_SW (rest := []) (As := [.ref (eB E + 0), .int p1, .ref (eB E + 311)]) C (c_L_bank hN hl9 z0 hM) wk_5_36 wk_5_37 wk_1_0 wk_5_38 hd_L_bank ⟨(Nat.le_of_ble_eq_true rfl), (Nat.le_of_ble_eq_true rfl)⟩ (Nat.le_of_ble_eq_true rfl) (lw_hf (by omega) (by omega) rfl) dL_law_807 rfl) rfl ?_
  refine gq_istore (lv' := [(5, .int (nI t)), (4, .int i), (3, .ref (eB E + 311)), (2, .ref (eB E + 295)), (1, .ref (eB E + 0)), (0, .ref b)]) C dL_law_810 (by decide) rfl ?_
  refine gq_aload_n (i := 2) C dL_law_812 rfl 3 rfl ?_
  refine gq_arg (v := nI 1) C X (hi 1 (by decide)) hp1.symm 5 1 rfl rfl (by decide) dL_law_813 dL_law_814 dL_law_816 dL_law_817 dL_law_818 ?_
  refine gq_V (As := [.int p1]) (rest := []) (j := 5) C (c_X4_bank hN3 z1) (qn_m 295 (by decide) hN3) (by decide) (by decide) rfl wk_7_167 wk_7_168 wk_7_169 wk_1_9 wk_7_170 hd_X4_bank ⟨(Nat.le_of_ble_eq_true rfl), (Nat.le_of_ble_eq_true rfl)⟩ (Nat.le_of_ble_eq_true rfl) (lw_hf (lw_b1 hK rfl) (lw_c1 hS rfl) rfl) dL_law_819 rfl rfl ?_
  refine gq_istore (lv' := [(6, .int w), (5, .int (nI t)), (4, .int i), (3, .ref (eB E + 311)), (2, .ref (eB E + 295)), (1, .ref (eB E + 0)), (0, .ref b)]) C dL_law_822 (by decide) rfl ?_
  refine gq_aload_n (i := 2) C dL_law_824 rfl 4 rfl ?_
  refine gq_V (As := []) (rest := []) (j := 5) C (c_X4_thrown hN3 (r := nI t) (congrArg some z2)) (qn_m 295 (by decide) hN3) (by decide) (by decide) rfl wk_7_13 wk_7_14 wk_7_15 wk_1_9 wk_7_16 hd_X4_thrown ⟨(Nat.le_of_ble_eq_true rfl), (Nat.le_of_ble_eq_true rfl)⟩ (Nat.le_of_ble_eq_true rfl) (lw_hf (lw_b2 hK rfl) (lw_c2 hS rfl) rfl) dL_law_825 rfl rfl ?_
  refine gq_iload (i := 5) C dL_law_828 1 rfl ?_
  refine gq_icmp_eq_t (tgt := 835) C dL_law_830 (by decide) rfl ?_
  refine gq_iload (i := 5) C dL_law_835 1 rfl ?_
  by_cases ht : t = 0
  · refine gq_if_ne_f (tgt := 852) C dL_law_837 (by decide) (by rw [ht]; rfl) ?_
    refine gq_aload_n (i := 3) C dL_law_840 rfl 3 rfl ?_
    refine gq_iconst (v := nI 0) C dL_law_841 (by decide) ?_
    refine gq_laloadL (x := w.toInt64) C (show 311 < eN E by omega) (by decide +kernel) (lw_out (z3 ht)) dL_law_842 ?_
    refine gq_iload (i := 6) C dL_law_843 0 rfl ?_
    refine gq_i2l C dL_law_845 ?_
    refine gq_lcmp C dL_law_846 ?_
    refine gq_if_eq_t (tgt := 852) C dL_law_847 (by decide) lw_cmp ?_
    refine gq_goto (tgt := 2921) C dL_law_852 (by decide) ?_
    exact gq_widen (lw_k3 rfl) (lw_n3 rfl) (gq_sub [2, 3, 4, 5, 6] rfl (kk ν z4))
  · refine gq_if_ne_t (tgt := 852) C dL_law_837 (by decide) (lw_tn ht4 ht) ?_
    refine gq_goto (tgt := 2921) C dL_law_852 (by decide) ?_
    exact gq_widen (lw_k3 rfl) (lw_n3 rfl) (gq_sub [2, 3, 4, 5, 6] rfl (kk ν z4))
set_option maxHeartbeats 4000000 in
set_option maxRecDepth 100000 in
theorem cs_12 (C : Cq E p s m args meth c cL_law 9 RL) (X : Sx E s b L xs) (hl9 : l.stackTraces = false) (hN : 312 ≤ eN E) (h : Iv j μ) (hj : j < 512) (hi : ∀ v, v < 7 → vp_in (i + nI v) L) (hK : k ≤ 500000) (hS : n ≤ 6000000) (kk : ∀ μ', Iv (j + 1) μ' → Gq E p l e room_1 s m args below meth c (k + 128) (n + 4096) 9 Q 2921 (lvL E b i) [] μ') : Gq E p l e room_1 s m args below meth c k n 9 Q 855 (lvL E b i) [] μ := by
  have hN2 : 295 ≤ eN E := by omega
  have hN3 : 311 ≤ eN E := by omega
  obtain ⟨p1, hp1⟩ : ∃ z, z = xs (i + nI 1).toNatClampNeg := ⟨_, rfl⟩
  obtain ⟨p2, hp2⟩ : ∃ z, z = xs (i + nI 2).toNatClampNeg := ⟨_, rfl⟩
  obtain ⟨ec, t, r, w, ν, z0, hM, z1, z2, z3, z4⟩ := s_right h hj p1 p2
  have ht4 : t < 4 := lw_t4 hM (by decide)
  refine gq_lv (lv' := [(4, .int i), (3, .ref (eB E + 311)), (2, .ref (eB E + 295)), (1, .ref (eB E + 0)), (0, .ref b)]) rfl ?_
  refine gq_aload_n (i := 1) C dL_law_855 rfl 3 rfl ?_
  refine gq_arg (v := nI 1) C X (hi 1 (by decide)) hp1.symm 4 0 rfl rfl (by decide) dL_law_856 dL_law_857 dL_law_859 dL_law_860 dL_law_861 ?_
  refine gq_arg (v := nI 2) C X (hi 2 (by decide)) hp2.symm 4 0 rfl rfl (by decide) dL_law_862 dL_law_863 dL_law_865 dL_law_866 dL_law_867 ?_
  refine gq_aload_n (i := 3) C dL_law_868 rfl 1 rfl ?_
  refine gq_call (run_SW (rest := []) (As := [.ref (eB E + 0), .int p1, .int p2, .ref (eB E + 311)]) C (c_L_right hN hl9 z0 hM) wk_5_43 wk_5_44 wk_1_0 wk_5_45 hd_L_right ⟨(Nat.le_of_ble_eq_true rfl), (Nat.le_of_ble_eq_true rfl)⟩ (Nat.le_of_ble_eq_true rfl) (lw_hf (by omega) (by omega) rfl) dL_law_869 rfl) rfl ?_
  refine gq_istore (lv' := [(5, .int (nI t)), (4, .int i), (3, .ref (eB E + 311)), (2, .ref (eB E + 295)), (1, .ref (eB E + 0)), (0, .ref b)]) C dL_law_872 (by decide) rfl ?_
  refine gq_aload_n (i := 2) C dL_law_874 rfl 3 rfl ?_
  refine gq_arg (v := nI 1) C X (hi 1 (by decide)) hp1.symm 5 1 rfl rfl (by decide) dL_law_875 dL_law_876 dL_law_878 dL_law_879 dL_law_880 ?_
  refine gq_arg (v := nI 2) C X (hi 2 (by decide)) hp2.symm 5 1 rfl rfl (by decide) dL_law_881 dL_law_882 dL_law_884 dL_law_885 dL_law_886 ?_
  refine gq_V (As := [.int p1, .int p2]) (rest := []) (j := 5) C (c_X4_right hN3 z1) (qn_m 295 (by decide) hN3) (by decide) (by decide) rfl wk_7_171 wk_7_172 wk_7_173 wk_1_9 wk_7_174 hd_X4_right ⟨(Nat.le_of_ble_eq_true rfl), (Nat.le_of_ble_eq_true rfl)⟩ (Nat.le_of_ble_eq_true rfl) (lw_hf (lw_b1 hK rfl) (lw_c1 hS rfl) rfl) dL_law_887 rfl rfl ?_
  refine gq_istore (lv' := [(6, .int w), (5, .int (nI t)), (4, .int i), (3, .ref (eB E + 311)), (2, .ref (eB E + 295)), (1, .ref (eB E + 0)), (0, .ref b)]) C dL_law_890 (by decide) rfl ?_
  refine gq_aload_n (i := 2) C dL_law_892 rfl 4 rfl ?_
  refine gq_V (As := []) (rest := []) (j := 5) C (c_X4_thrown hN3 (r := nI t) (congrArg some z2)) (qn_m 295 (by decide) hN3) (by decide) (by decide) rfl wk_7_13 wk_7_14 wk_7_15 wk_1_9 wk_7_16 hd_X4_thrown ⟨(Nat.le_of_ble_eq_true rfl), (Nat.le_of_ble_eq_true rfl)⟩ (Nat.le_of_ble_eq_true rfl) (lw_hf (lw_b2 hK rfl) (lw_c2 hS rfl) rfl) dL_law_893 rfl rfl ?_
  refine gq_iload (i := 5) C dL_law_896 1 rfl ?_
  refine gq_icmp_eq_t (tgt := 903) C dL_law_898 (by decide) rfl ?_
  refine gq_iload (i := 5) C dL_law_903 1 rfl ?_
  by_cases ht : t = 0
  · refine gq_if_ne_f (tgt := 920) C dL_law_905 (by decide) (by rw [ht]; rfl) ?_
    refine gq_aload_n (i := 3) C dL_law_908 rfl 3 rfl ?_
    refine gq_iconst (v := nI 0) C dL_law_909 (by decide) ?_
    refine gq_laloadL (x := w.toInt64) C (show 311 < eN E by omega) (by decide +kernel) (lw_out (z3 ht)) dL_law_910 ?_
    refine gq_iload (i := 6) C dL_law_911 0 rfl ?_
    refine gq_i2l C dL_law_913 ?_
    refine gq_lcmp C dL_law_914 ?_
    refine gq_if_eq_t (tgt := 920) C dL_law_915 (by decide) lw_cmp ?_
    refine gq_goto (tgt := 2921) C dL_law_920 (by decide) ?_
    exact gq_widen (lw_k3 rfl) (lw_n3 rfl) (gq_sub [2, 3, 4, 5, 6] rfl (kk ν z4))
  · refine gq_if_ne_t (tgt := 920) C dL_law_905 (by decide) (lw_tn ht4 ht) ?_
    refine gq_goto (tgt := 2921) C dL_law_920 (by decide) ?_
    exact gq_widen (lw_k3 rfl) (lw_n3 rfl) (gq_sub [2, 3, 4, 5, 6] rfl (kk ν z4))
set_option maxHeartbeats 4000000 in
set_option maxRecDepth 100000 in
theorem cs_13 (C : Cq E p s m args meth c cL_law 9 RL) (X : Sx E s b L xs) (hl9 : l.stackTraces = false) (hN : 312 ≤ eN E) (h : Iv j μ) (hj : j < 512) (hi : ∀ v, v < 7 → vp_in (i + nI v) L) (hK : k ≤ 500000) (hS : n ≤ 6000000) (kk : ∀ μ', Iv (j + 1) μ' → Gq E p l e room_1 s m args below meth c (k + 128) (n + 4096) 9 Q 2921 (lvL E b i) [] μ') : Gq E p l e room_1 s m args below meth c k n 9 Q 923 (lvL E b i) [] μ := by
  have hN2 : 295 ≤ eN E := by omega
  have hN3 : 311 ≤ eN E := by omega
  obtain ⟨p1, hp1⟩ : ∃ z, z = xs (i + nI 1).toNatClampNeg := ⟨_, rfl⟩
  obtain ⟨w, ν, z0, z1, z4⟩ := s_bySeniority h hj p1
  refine gq_lv (lv' := [(4, .int i), (3, .ref (eB E + 311)), (2, .ref (eB E + 295)), (1, .ref (eB E + 0)), (0, .ref b)]) rfl ?_
  refine gq_aload_n (i := 1) C dL_law_923 rfl 3 rfl ?_
  refine gq_arg (v := nI 1) C X (hi 1 (by decide)) hp1.symm 4 0 rfl rfl (by decide) dL_law_924 dL_law_925 dL_law_927 dL_law_928 dL_law_929 ?_
  refine gq_V (As := [.int p1]) (rest := []) (j := 0) C (c_X3_bySeniority hN2 z0) (qn_l 0 (by decide) hN2) (by decide) (by decide) rfl wk_2_35 wk_2_36 wk_2_37 wk_1_1 wk_2_38 hd_X3_bySeniority ⟨(Nat.le_of_ble_eq_true rfl), (Nat.le_of_ble_eq_true rfl)⟩ (Nat.le_of_ble_eq_true rfl) (lw_hf (by omega) (by omega) rfl) dL_law_930 rfl rfl ?_
  refine gq_aload_n (i := 2) C dL_law_933 rfl 2 rfl ?_
  refine gq_arg (v := nI 1) C X (hi 1 (by decide)) hp1.symm 4 0 rfl rfl (by decide) dL_law_934 dL_law_935 dL_law_937 dL_law_938 dL_law_939 ?_
  refine gq_V (As := [.int p1]) (rest := [.int w]) (j := 5) C (c_X4_bySeniority hN3 z1) (qn_m 295 (by decide) hN3) (by decide) (by decide) rfl wk_7_183 wk_7_184 wk_7_185 wk_1_9 wk_7_186 hd_X4_bySeniority ⟨(Nat.le_of_ble_eq_true rfl), (Nat.le_of_ble_eq_true rfl)⟩ (Nat.le_of_ble_eq_true rfl) (lw_hf (lw_b1 hK rfl) (lw_c1 hS rfl) rfl) dL_law_940 rfl rfl ?_
  refine gq_icmp_eq_t (tgt := 2921) C dL_law_943 (by decide) rfl ?_
  exact gq_widen (lw_k2 rfl) (lw_n2 rfl) (gq_sub [0, 1, 2, 3, 4] rfl (kk ν z4))
set_option maxHeartbeats 4000000 in
set_option maxRecDepth 100000 in
theorem cs_14 (C : Cq E p s m args meth c cL_law 9 RL) (X : Sx E s b L xs) (hl9 : l.stackTraces = false) (hN : 312 ≤ eN E) (h : Iv j μ) (hj : j < 512) (hi : ∀ v, v < 7 → vp_in (i + nI v) L) (hK : k ≤ 500000) (hS : n ≤ 6000000) (kk : ∀ μ', Iv (j + 1) μ' → Gq E p l e room_1 s m args below meth c (k + 128) (n + 4096) 9 Q 2921 (lvL E b i) [] μ') : Gq E p l e room_1 s m args below meth c k n 9 Q 948 (lvL E b i) [] μ := by
  have hN2 : 295 ≤ eN E := by omega
  have hN3 : 311 ≤ eN E := by omega
  obtain ⟨p1, hp1⟩ : ∃ z, z = xs (i + nI 1).toNatClampNeg := ⟨_, rfl⟩
  obtain ⟨p2, hp2⟩ : ∃ z, z = xs (i + nI 2).toNatClampNeg := ⟨_, rfl⟩
  obtain ⟨ec, t, r, w, ν, z0, hM, z1, z2, z3, z4⟩ := s_leaseField h hj p1 p2
  have ht4 : t < 4 := lw_t4 hM (by decide)
  refine gq_lv (lv' := [(4, .int i), (3, .ref (eB E + 311)), (2, .ref (eB E + 295)), (1, .ref (eB E + 0)), (0, .ref b)]) rfl ?_
  refine gq_aload_n (i := 1) C dL_law_948 rfl 3 rfl ?_
  refine gq_arg (v := nI 1) C X (hi 1 (by decide)) hp1.symm 4 0 rfl rfl (by decide) dL_law_949 dL_law_950 dL_law_952 dL_law_953 dL_law_954 ?_
  refine gq_arg (v := nI 2) C X (hi 2 (by decide)) hp2.symm 4 0 rfl rfl (by decide) dL_law_955 dL_law_956 dL_law_958 dL_law_959 dL_law_960 ?_
  refine gq_aload_n (i := 3) C dL_law_961 rfl 1 rfl ?_
  refine gq_call (run_SW (rest := []) (As := [.ref (eB E + 0), .int p1, .int p2, .ref (eB E + 311)]) C (c_L_leaseField hN hl9 z0 hM) wk_5_50 wk_5_51 wk_1_0 wk_5_52 hd_L_leaseField ⟨(Nat.le_of_ble_eq_true rfl), (Nat.le_of_ble_eq_true rfl)⟩ (Nat.le_of_ble_eq_true rfl) (lw_hf (by omega) (by omega) rfl) dL_law_962 rfl) rfl ?_
  refine gq_istore (lv' := [(5, .int (nI t)), (4, .int i), (3, .ref (eB E + 311)), (2, .ref (eB E + 295)), (1, .ref (eB E + 0)), (0, .ref b)]) C dL_law_965 (by decide) rfl ?_
  refine gq_aload_n (i := 2) C dL_law_967 rfl 3 rfl ?_
  refine gq_arg (v := nI 1) C X (hi 1 (by decide)) hp1.symm 5 1 rfl rfl (by decide) dL_law_968 dL_law_969 dL_law_971 dL_law_972 dL_law_973 ?_
  refine gq_arg (v := nI 2) C X (hi 2 (by decide)) hp2.symm 5 1 rfl rfl (by decide) dL_law_974 dL_law_975 dL_law_977 dL_law_978 dL_law_979 ?_
  refine gq_V (As := [.int p1, .int p2]) (rest := []) (j := 5) C (c_X4_leaseField hN3 z1) (qn_m 295 (by decide) hN3) (by decide) (by decide) rfl wk_7_191 wk_7_192 wk_7_193 wk_1_9 wk_7_194 hd_X4_leaseField ⟨(Nat.le_of_ble_eq_true rfl), (Nat.le_of_ble_eq_true rfl)⟩ (Nat.le_of_ble_eq_true rfl) (lw_hf (lw_b1 hK rfl) (lw_c1 hS rfl) rfl) dL_law_980 rfl rfl ?_
  refine gq_istore (lv' := [(6, .int w), (5, .int (nI t)), (4, .int i), (3, .ref (eB E + 311)), (2, .ref (eB E + 295)), (1, .ref (eB E + 0)), (0, .ref b)]) C dL_law_983 (by decide) rfl ?_
  refine gq_aload_n (i := 2) C dL_law_985 rfl 4 rfl ?_
  refine gq_V (As := []) (rest := []) (j := 5) C (c_X4_thrown hN3 (r := nI t) (congrArg some z2)) (qn_m 295 (by decide) hN3) (by decide) (by decide) rfl wk_7_13 wk_7_14 wk_7_15 wk_1_9 wk_7_16 hd_X4_thrown ⟨(Nat.le_of_ble_eq_true rfl), (Nat.le_of_ble_eq_true rfl)⟩ (Nat.le_of_ble_eq_true rfl) (lw_hf (lw_b2 hK rfl) (lw_c2 hS rfl) rfl) dL_law_986 rfl rfl ?_
  refine gq_iload (i := 5) C dL_law_989 1 rfl ?_
  refine gq_icmp_eq_t (tgt := 996) C dL_law_991 (by decide) rfl ?_
  refine gq_iload (i := 5) C dL_law_996 1 rfl ?_
  by_cases ht : t = 0
  · refine gq_if_ne_f (tgt := 1013) C dL_law_998 (by decide) (by rw [ht]; rfl) ?_
    refine gq_aload_n (i := 3) C dL_law_1001 rfl 3 rfl ?_
    refine gq_iconst (v := nI 0) C dL_law_1002 (by decide) ?_
    refine gq_laloadL (x := w.toInt64) C (show 311 < eN E by omega) (by decide +kernel) (lw_out (z3 ht)) dL_law_1003 ?_
    refine gq_iload (i := 6) C dL_law_1004 0 rfl ?_
    refine gq_i2l C dL_law_1006 ?_
    refine gq_lcmp C dL_law_1007 ?_
    refine gq_if_eq_t (tgt := 1013) C dL_law_1008 (by decide) lw_cmp ?_
    refine gq_goto (tgt := 2921) C dL_law_1013 (by decide) ?_
    exact gq_widen (lw_k3 rfl) (lw_n3 rfl) (gq_sub [2, 3, 4, 5, 6] rfl (kk ν z4))
  · refine gq_if_ne_t (tgt := 1013) C dL_law_998 (by decide) (lw_tn ht4 ht) ?_
    refine gq_goto (tgt := 2921) C dL_law_1013 (by decide) ?_
    exact gq_widen (lw_k3 rfl) (lw_n3 rfl) (gq_sub [2, 3, 4, 5, 6] rfl (kk ν z4))
set_option maxHeartbeats 4000000 in
set_option maxRecDepth 100000 in
theorem cs_15 (C : Cq E p s m args meth c cL_law 9 RL) (X : Sx E s b L xs) (hl9 : l.stackTraces = false) (hN : 312 ≤ eN E) (h : Iv j μ) (hj : j < 512) (hi : ∀ v, v < 7 → vp_in (i + nI v) L) (hK : k ≤ 500000) (hS : n ≤ 6000000) (kk : ∀ μ', Iv (j + 1) μ' → Gq E p l e room_1 s m args below meth c (k + 128) (n + 4096) 9 Q 2921 (lvL E b i) [] μ') : Gq E p l e room_1 s m args below meth c k n 9 Q 1016 (lvL E b i) [] μ := by
  have hN2 : 295 ≤ eN E := by omega
  have hN3 : 311 ≤ eN E := by omega
  obtain ⟨p1, hp1⟩ : ∃ z, z = xs (i + nI 1).toNatClampNeg := ⟨_, rfl⟩
  obtain ⟨p2, hp2⟩ : ∃ z, z = xs (i + nI 2).toNatClampNeg := ⟨_, rfl⟩
  obtain ⟨ec, t, r, w, ν, z0, hM, z1, z2, z3, z4⟩ := s_optionField h hj p1 p2
  have ht4 : t < 4 := lw_t4 hM (by decide)
  refine gq_lv (lv' := [(4, .int i), (3, .ref (eB E + 311)), (2, .ref (eB E + 295)), (1, .ref (eB E + 0)), (0, .ref b)]) rfl ?_
  refine gq_aload_n (i := 1) C dL_law_1016 rfl 3 rfl ?_
  refine gq_arg (v := nI 1) C X (hi 1 (by decide)) hp1.symm 4 0 rfl rfl (by decide) dL_law_1017 dL_law_1018 dL_law_1020 dL_law_1021 dL_law_1022 ?_
  refine gq_arg (v := nI 2) C X (hi 2 (by decide)) hp2.symm 4 0 rfl rfl (by decide) dL_law_1023 dL_law_1024 dL_law_1026 dL_law_1027 dL_law_1028 ?_
  refine gq_aload_n (i := 3) C dL_law_1029 rfl 1 rfl ?_
  refine gq_call (run_SW (rest := []) (As := [.ref (eB E + 0), .int p1, .int p2, .ref (eB E + 311)]) C (c_L_optionField hN hl9 z0 hM) wk_5_57 wk_5_58 wk_1_0 wk_5_59 hd_L_optionField ⟨(Nat.le_of_ble_eq_true rfl), (Nat.le_of_ble_eq_true rfl)⟩ (Nat.le_of_ble_eq_true rfl) (lw_hf (by omega) (by omega) rfl) dL_law_1030 rfl) rfl ?_
  refine gq_istore (lv' := [(5, .int (nI t)), (4, .int i), (3, .ref (eB E + 311)), (2, .ref (eB E + 295)), (1, .ref (eB E + 0)), (0, .ref b)]) C dL_law_1033 (by decide) rfl ?_
  refine gq_aload_n (i := 2) C dL_law_1035 rfl 3 rfl ?_
  refine gq_arg (v := nI 1) C X (hi 1 (by decide)) hp1.symm 5 1 rfl rfl (by decide) dL_law_1036 dL_law_1037 dL_law_1039 dL_law_1040 dL_law_1041 ?_
  refine gq_arg (v := nI 2) C X (hi 2 (by decide)) hp2.symm 5 1 rfl rfl (by decide) dL_law_1042 dL_law_1043 dL_law_1045 dL_law_1046 dL_law_1047 ?_
  refine gq_V (As := [.int p1, .int p2]) (rest := []) (j := 5) C (c_X4_optionField hN3 z1) (qn_m 295 (by decide) hN3) (by decide) (by decide) rfl wk_7_203 wk_7_204 wk_7_205 wk_1_9 wk_7_206 hd_X4_optionField ⟨(Nat.le_of_ble_eq_true rfl), (Nat.le_of_ble_eq_true rfl)⟩ (Nat.le_of_ble_eq_true rfl) (lw_hf (lw_b1 hK rfl) (lw_c1 hS rfl) rfl) dL_law_1048 rfl rfl ?_
  refine gq_istore (lv' := [(6, .int w), (5, .int (nI t)), (4, .int i), (3, .ref (eB E + 311)), (2, .ref (eB E + 295)), (1, .ref (eB E + 0)), (0, .ref b)]) C dL_law_1051 (by decide) rfl ?_
  refine gq_aload_n (i := 2) C dL_law_1053 rfl 4 rfl ?_
  refine gq_V (As := []) (rest := []) (j := 5) C (c_X4_thrown hN3 (r := nI t) (congrArg some z2)) (qn_m 295 (by decide) hN3) (by decide) (by decide) rfl wk_7_13 wk_7_14 wk_7_15 wk_1_9 wk_7_16 hd_X4_thrown ⟨(Nat.le_of_ble_eq_true rfl), (Nat.le_of_ble_eq_true rfl)⟩ (Nat.le_of_ble_eq_true rfl) (lw_hf (lw_b2 hK rfl) (lw_c2 hS rfl) rfl) dL_law_1054 rfl rfl ?_
  refine gq_iload (i := 5) C dL_law_1057 1 rfl ?_
  refine gq_icmp_eq_t (tgt := 1064) C dL_law_1059 (by decide) rfl ?_
  refine gq_iload (i := 5) C dL_law_1064 1 rfl ?_
  by_cases ht : t = 0
  · refine gq_if_ne_f (tgt := 1081) C dL_law_1066 (by decide) (by rw [ht]; rfl) ?_
    refine gq_aload_n (i := 3) C dL_law_1069 rfl 3 rfl ?_
    refine gq_iconst (v := nI 0) C dL_law_1070 (by decide) ?_
    refine gq_laloadL (x := w.toInt64) C (show 311 < eN E by omega) (by decide +kernel) (lw_out (z3 ht)) dL_law_1071 ?_
    refine gq_iload (i := 6) C dL_law_1072 0 rfl ?_
    refine gq_i2l C dL_law_1074 ?_
    refine gq_lcmp C dL_law_1075 ?_
    refine gq_if_eq_t (tgt := 1081) C dL_law_1076 (by decide) lw_cmp ?_
    refine gq_goto (tgt := 2921) C dL_law_1081 (by decide) ?_
    exact gq_widen (lw_k3 rfl) (lw_n3 rfl) (gq_sub [2, 3, 4, 5, 6] rfl (kk ν z4))
  · refine gq_if_ne_t (tgt := 1081) C dL_law_1066 (by decide) (lw_tn ht4 ht) ?_
    refine gq_goto (tgt := 2921) C dL_law_1081 (by decide) ?_
    exact gq_widen (lw_k3 rfl) (lw_n3 rfl) (gq_sub [2, 3, 4, 5, 6] rfl (kk ν z4))
set_option maxHeartbeats 4000000 in
set_option maxRecDepth 100000 in
theorem cs_16 (C : Cq E p s m args meth c cL_law 9 RL) (X : Sx E s b L xs) (hl9 : l.stackTraces = false) (hN : 312 ≤ eN E) (h : Iv j μ) (hj : j < 512) (hi : ∀ v, v < 7 → vp_in (i + nI v) L) (hK : k ≤ 500000) (hS : n ≤ 6000000) (kk : ∀ μ', Iv (j + 1) μ' → Gq E p l e room_1 s m args below meth c (k + 128) (n + 4096) 9 Q 2921 (lvL E b i) [] μ') : Gq E p l e room_1 s m args below meth c k n 9 Q 1084 (lvL E b i) [] μ := by
  have hN2 : 295 ≤ eN E := by omega
  have hN3 : 311 ≤ eN E := by omega
  obtain ⟨w, ν, z0, z1, z4⟩ := s_claims h hj
  refine gq_lv (lv' := [(4, .int i), (3, .ref (eB E + 311)), (2, .ref (eB E + 295)), (1, .ref (eB E + 0)), (0, .ref b)]) rfl ?_
  refine gq_aload_n (i := 1) C dL_law_1084 rfl 3 rfl ?_
  refine gq_V (As := []) (rest := []) (j := 0) C (c_X3_claims hN2 z0) (qn_l 0 (by decide) hN2) (by decide) (by decide) rfl wk_2_47 wk_2_48 wk_2_49 wk_1_1 wk_2_50 hd_X3_claims ⟨(Nat.le_of_ble_eq_true rfl), (Nat.le_of_ble_eq_true rfl)⟩ (Nat.le_of_ble_eq_true rfl) (lw_hf (by omega) (by omega) rfl) dL_law_1085 rfl rfl ?_
  refine gq_aload_n (i := 2) C dL_law_1088 rfl 2 rfl ?_
  refine gq_V (As := []) (rest := [.int w]) (j := 5) C (c_X4_claims hN3 z1) (qn_m 295 (by decide) hN3) (by decide) (by decide) rfl wk_7_215 wk_7_216 wk_7_217 wk_1_9 wk_7_218 hd_X4_claims ⟨(Nat.le_of_ble_eq_true rfl), (Nat.le_of_ble_eq_true rfl)⟩ (Nat.le_of_ble_eq_true rfl) (lw_hf (lw_b1 hK rfl) (lw_c1 hS rfl) rfl) dL_law_1089 rfl rfl ?_
  refine gq_icmp_eq_t (tgt := 2921) C dL_law_1092 (by decide) rfl ?_
  exact gq_widen (lw_k2 rfl) (lw_n2 rfl) (gq_sub [0, 1, 2, 3, 4] rfl (kk ν z4))
set_option maxHeartbeats 4000000 in
set_option maxRecDepth 100000 in
theorem cs_17 (C : Cq E p s m args meth c cL_law 9 RL) (X : Sx E s b L xs) (hl9 : l.stackTraces = false) (hN : 312 ≤ eN E) (h : Iv j μ) (hj : j < 512) (hi : ∀ v, v < 7 → vp_in (i + nI v) L) (hK : k ≤ 500000) (hS : n ≤ 6000000) (kk : ∀ μ', Iv (j + 1) μ' → Gq E p l e room_1 s m args below meth c (k + 128) (n + 4096) 9 Q 2921 (lvL E b i) [] μ') : Gq E p l e room_1 s m args below meth c k n 9 Q 1097 (lvL E b i) [] μ := by
  have hN2 : 295 ≤ eN E := by omega
  have hN3 : 311 ≤ eN E := by omega
  obtain ⟨p1, hp1⟩ : ∃ z, z = xs (i + nI 1).toNatClampNeg := ⟨_, rfl⟩
  obtain ⟨p2, hp2⟩ : ∃ z, z = xs (i + nI 2).toNatClampNeg := ⟨_, rfl⟩
  obtain ⟨ec, t, r, w, ν, z0, hM, z1, z2, z3, z4⟩ := s_claim h hj p1 p2
  have ht4 : t < 4 := lw_t4 hM (by decide)
  refine gq_lv (lv' := [(4, .int i), (3, .ref (eB E + 311)), (2, .ref (eB E + 295)), (1, .ref (eB E + 0)), (0, .ref b)]) rfl ?_
  refine gq_aload_n (i := 1) C dL_law_1097 rfl 3 rfl ?_
  refine gq_arg (v := nI 1) C X (hi 1 (by decide)) hp1.symm 4 0 rfl rfl (by decide) dL_law_1098 dL_law_1099 dL_law_1101 dL_law_1102 dL_law_1103 ?_
  refine gq_arg (v := nI 2) C X (hi 2 (by decide)) hp2.symm 4 0 rfl rfl (by decide) dL_law_1104 dL_law_1105 dL_law_1107 dL_law_1108 dL_law_1109 ?_
  refine gq_aload_n (i := 3) C dL_law_1110 rfl 1 rfl ?_
  refine gq_call (run_SW (rest := []) (As := [.ref (eB E + 0), .int p1, .int p2, .ref (eB E + 311)]) C (c_L_claim hN hl9 z0 hM) wk_5_64 wk_5_65 wk_1_0 wk_5_66 hd_L_claim ⟨(Nat.le_of_ble_eq_true rfl), (Nat.le_of_ble_eq_true rfl)⟩ (Nat.le_of_ble_eq_true rfl) (lw_hf (by omega) (by omega) rfl) dL_law_1111 rfl) rfl ?_
  refine gq_istore (lv' := [(5, .int (nI t)), (4, .int i), (3, .ref (eB E + 311)), (2, .ref (eB E + 295)), (1, .ref (eB E + 0)), (0, .ref b)]) C dL_law_1114 (by decide) rfl ?_
  refine gq_aload_n (i := 2) C dL_law_1116 rfl 3 rfl ?_
  refine gq_arg (v := nI 1) C X (hi 1 (by decide)) hp1.symm 5 1 rfl rfl (by decide) dL_law_1117 dL_law_1118 dL_law_1120 dL_law_1121 dL_law_1122 ?_
  refine gq_arg (v := nI 2) C X (hi 2 (by decide)) hp2.symm 5 1 rfl rfl (by decide) dL_law_1123 dL_law_1124 dL_law_1126 dL_law_1127 dL_law_1128 ?_
  refine gq_V (As := [.int p1, .int p2]) (rest := []) (j := 5) C (c_X4_claim hN3 z1) (qn_m 295 (by decide) hN3) (by decide) (by decide) rfl wk_7_219 wk_7_220 wk_7_221 wk_1_9 wk_7_222 hd_X4_claim ⟨(Nat.le_of_ble_eq_true rfl), (Nat.le_of_ble_eq_true rfl)⟩ (Nat.le_of_ble_eq_true rfl) (lw_hf (lw_b1 hK rfl) (lw_c1 hS rfl) rfl) dL_law_1129 rfl rfl ?_
  refine gq_istore (lv' := [(6, .int w), (5, .int (nI t)), (4, .int i), (3, .ref (eB E + 311)), (2, .ref (eB E + 295)), (1, .ref (eB E + 0)), (0, .ref b)]) C dL_law_1132 (by decide) rfl ?_
  refine gq_aload_n (i := 2) C dL_law_1134 rfl 4 rfl ?_
  refine gq_V (As := []) (rest := []) (j := 5) C (c_X4_thrown hN3 (r := nI t) (congrArg some z2)) (qn_m 295 (by decide) hN3) (by decide) (by decide) rfl wk_7_13 wk_7_14 wk_7_15 wk_1_9 wk_7_16 hd_X4_thrown ⟨(Nat.le_of_ble_eq_true rfl), (Nat.le_of_ble_eq_true rfl)⟩ (Nat.le_of_ble_eq_true rfl) (lw_hf (lw_b2 hK rfl) (lw_c2 hS rfl) rfl) dL_law_1135 rfl rfl ?_
  refine gq_iload (i := 5) C dL_law_1138 1 rfl ?_
  refine gq_icmp_eq_t (tgt := 1145) C dL_law_1140 (by decide) rfl ?_
  refine gq_iload (i := 5) C dL_law_1145 1 rfl ?_
  by_cases ht : t = 0
  · refine gq_if_ne_f (tgt := 1162) C dL_law_1147 (by decide) (by rw [ht]; rfl) ?_
    refine gq_aload_n (i := 3) C dL_law_1150 rfl 3 rfl ?_
    refine gq_iconst (v := nI 0) C dL_law_1151 (by decide) ?_
    refine gq_laloadL (x := w.toInt64) C (show 311 < eN E by omega) (by decide +kernel) (lw_out (z3 ht)) dL_law_1152 ?_
    refine gq_iload (i := 6) C dL_law_1153 0 rfl ?_
    refine gq_i2l C dL_law_1155 ?_
    refine gq_lcmp C dL_law_1156 ?_
    refine gq_if_eq_t (tgt := 1162) C dL_law_1157 (by decide) lw_cmp ?_
    refine gq_goto (tgt := 2921) C dL_law_1162 (by decide) ?_
    exact gq_widen (lw_k3 rfl) (lw_n3 rfl) (gq_sub [2, 3, 4, 5, 6] rfl (kk ν z4))
  · refine gq_if_ne_t (tgt := 1162) C dL_law_1147 (by decide) (lw_tn ht4 ht) ?_
    refine gq_goto (tgt := 2921) C dL_law_1162 (by decide) ?_
    exact gq_widen (lw_k3 rfl) (lw_n3 rfl) (gq_sub [2, 3, 4, 5, 6] rfl (kk ν z4))
set_option maxHeartbeats 4000000 in
set_option maxRecDepth 100000 in
theorem cs_18 (C : Cq E p s m args meth c cL_law 9 RL) (X : Sx E s b L xs) (hl9 : l.stackTraces = false) (hN : 312 ≤ eN E) (h : Iv j μ) (hj : j < 512) (hi : ∀ v, v < 7 → vp_in (i + nI v) L) (hK : k ≤ 500000) (hS : n ≤ 6000000) (kk : ∀ μ', Iv (j + 1) μ' → Gq E p l e room_1 s m args below meth c (k + 128) (n + 4096) 9 Q 2921 (lvL E b i) [] μ') : Gq E p l e room_1 s m args below meth c k n 9 Q 1165 (lvL E b i) [] μ := by
  have hN2 : 295 ≤ eN E := by omega
  have hN3 : 311 ≤ eN E := by omega
  obtain ⟨p1, hp1⟩ : ∃ z, z = xs (i + nI 1).toNatClampNeg := ⟨_, rfl⟩
  obtain ⟨p2, hp2⟩ : ∃ z, z = xs (i + nI 2).toNatClampNeg := ⟨_, rfl⟩
  obtain ⟨ec, t, r, w, ν, z0, hM, z1, z2, z3, z4⟩ := s_gauge h hj p1 p2
  have ht4 : t < 4 := lw_t4 hM (by decide)
  refine gq_lv (lv' := [(4, .int i), (3, .ref (eB E + 311)), (2, .ref (eB E + 295)), (1, .ref (eB E + 0)), (0, .ref b)]) rfl ?_
  refine gq_aload_n (i := 1) C dL_law_1165 rfl 3 rfl ?_
  refine gq_arg (v := nI 1) C X (hi 1 (by decide)) hp1.symm 4 0 rfl rfl (by decide) dL_law_1166 dL_law_1167 dL_law_1169 dL_law_1170 dL_law_1171 ?_
  refine gq_arg (v := nI 2) C X (hi 2 (by decide)) hp2.symm 4 0 rfl rfl (by decide) dL_law_1172 dL_law_1173 dL_law_1175 dL_law_1176 dL_law_1177 ?_
  refine gq_aload_n (i := 3) C dL_law_1178 rfl 1 rfl ?_
  refine gq_call (run_SW (rest := []) (As := [.ref (eB E + 0), .int p1, .int p2, .ref (eB E + 311)]) C (c_L_gauge hN hl9 z0 hM) wk_5_71 wk_5_72 wk_1_0 wk_5_73 hd_L_gauge ⟨(Nat.le_of_ble_eq_true rfl), (Nat.le_of_ble_eq_true rfl)⟩ (Nat.le_of_ble_eq_true rfl) (lw_hf (by omega) (by omega) rfl) dL_law_1179 rfl) rfl ?_
  refine gq_istore (lv' := [(5, .int (nI t)), (4, .int i), (3, .ref (eB E + 311)), (2, .ref (eB E + 295)), (1, .ref (eB E + 0)), (0, .ref b)]) C dL_law_1182 (by decide) rfl ?_
  refine gq_aload_n (i := 2) C dL_law_1184 rfl 3 rfl ?_
  refine gq_arg (v := nI 1) C X (hi 1 (by decide)) hp1.symm 5 1 rfl rfl (by decide) dL_law_1185 dL_law_1186 dL_law_1188 dL_law_1189 dL_law_1190 ?_
  refine gq_arg (v := nI 2) C X (hi 2 (by decide)) hp2.symm 5 1 rfl rfl (by decide) dL_law_1191 dL_law_1192 dL_law_1194 dL_law_1195 dL_law_1196 ?_
  refine gq_V (As := [.int p1, .int p2]) (rest := []) (j := 5) C (c_X4_gauge hN3 z1) (qn_m 295 (by decide) hN3) (by decide) (by decide) rfl wk_7_227 wk_7_228 wk_7_229 wk_1_9 wk_7_230 hd_X4_gauge ⟨(Nat.le_of_ble_eq_true rfl), (Nat.le_of_ble_eq_true rfl)⟩ (Nat.le_of_ble_eq_true rfl) (lw_hf (lw_b1 hK rfl) (lw_c1 hS rfl) rfl) dL_law_1197 rfl rfl ?_
  refine gq_istore (lv' := [(6, .int w), (5, .int (nI t)), (4, .int i), (3, .ref (eB E + 311)), (2, .ref (eB E + 295)), (1, .ref (eB E + 0)), (0, .ref b)]) C dL_law_1200 (by decide) rfl ?_
  refine gq_aload_n (i := 2) C dL_law_1202 rfl 4 rfl ?_
  refine gq_V (As := []) (rest := []) (j := 5) C (c_X4_thrown hN3 (r := nI t) (congrArg some z2)) (qn_m 295 (by decide) hN3) (by decide) (by decide) rfl wk_7_13 wk_7_14 wk_7_15 wk_1_9 wk_7_16 hd_X4_thrown ⟨(Nat.le_of_ble_eq_true rfl), (Nat.le_of_ble_eq_true rfl)⟩ (Nat.le_of_ble_eq_true rfl) (lw_hf (lw_b2 hK rfl) (lw_c2 hS rfl) rfl) dL_law_1203 rfl rfl ?_
  refine gq_iload (i := 5) C dL_law_1206 1 rfl ?_
  refine gq_icmp_eq_t (tgt := 1213) C dL_law_1208 (by decide) rfl ?_
  refine gq_iload (i := 5) C dL_law_1213 1 rfl ?_
  by_cases ht : t = 0
  · refine gq_if_ne_f (tgt := 1230) C dL_law_1215 (by decide) (by rw [ht]; rfl) ?_
    refine gq_aload_n (i := 3) C dL_law_1218 rfl 3 rfl ?_
    refine gq_iconst (v := nI 0) C dL_law_1219 (by decide) ?_
    refine gq_laloadL (x := w.toInt64) C (show 311 < eN E by omega) (by decide +kernel) (lw_out (z3 ht)) dL_law_1220 ?_
    refine gq_iload (i := 6) C dL_law_1221 0 rfl ?_
    refine gq_i2l C dL_law_1223 ?_
    refine gq_lcmp C dL_law_1224 ?_
    refine gq_if_eq_t (tgt := 1230) C dL_law_1225 (by decide) lw_cmp ?_
    refine gq_goto (tgt := 2921) C dL_law_1230 (by decide) ?_
    exact gq_widen (lw_k3 rfl) (lw_n3 rfl) (gq_sub [2, 3, 4, 5, 6] rfl (kk ν z4))
  · refine gq_if_ne_t (tgt := 1230) C dL_law_1215 (by decide) (lw_tn ht4 ht) ?_
    refine gq_goto (tgt := 2921) C dL_law_1230 (by decide) ?_
    exact gq_widen (lw_k3 rfl) (lw_n3 rfl) (gq_sub [2, 3, 4, 5, 6] rfl (kk ν z4))
set_option maxHeartbeats 4000000 in
set_option maxRecDepth 100000 in
theorem cs_19 (C : Cq E p s m args meth c cL_law 9 RL) (X : Sx E s b L xs) (hl9 : l.stackTraces = false) (hN : 312 ≤ eN E) (h : Iv j μ) (hj : j < 512) (hi : ∀ v, v < 7 → vp_in (i + nI v) L) (hK : k ≤ 500000) (hS : n ≤ 6000000) (kk : ∀ μ', Iv (j + 1) μ' → Gq E p l e room_1 s m args below meth c (k + 128) (n + 4096) 9 Q 2921 (lvL E b i) [] μ') : Gq E p l e room_1 s m args below meth c k n 9 Q 1233 (lvL E b i) [] μ := by
  have hN2 : 295 ≤ eN E := by omega
  have hN3 : 311 ≤ eN E := by omega
  obtain ⟨w, ν, z0, z1, z4⟩ := s_call h hj
  refine gq_lv (lv' := [(4, .int i), (3, .ref (eB E + 311)), (2, .ref (eB E + 295)), (1, .ref (eB E + 0)), (0, .ref b)]) rfl ?_
  refine gq_aload_n (i := 1) C dL_law_1233 rfl 3 rfl ?_
  refine gq_V (As := []) (rest := []) (j := 0) C (c_X3_call hN2 z0) (qn_l 0 (by decide) hN2) (by decide) (by decide) rfl wk_2_51 wk_2_52 wk_2_53 wk_1_1 wk_2_54 hd_X3_call ⟨(Nat.le_of_ble_eq_true rfl), (Nat.le_of_ble_eq_true rfl)⟩ (Nat.le_of_ble_eq_true rfl) (lw_hf (by omega) (by omega) rfl) dL_law_1234 rfl rfl ?_
  refine gq_aload_n (i := 2) C dL_law_1237 rfl 2 rfl ?_
  refine gq_V (As := []) (rest := [.int w]) (j := 5) C (c_X4_call hN3 z1) (qn_m 295 (by decide) hN3) (by decide) (by decide) rfl wk_7_235 wk_7_236 wk_7_237 wk_1_9 wk_7_238 hd_X4_call ⟨(Nat.le_of_ble_eq_true rfl), (Nat.le_of_ble_eq_true rfl)⟩ (Nat.le_of_ble_eq_true rfl) (lw_hf (lw_b1 hK rfl) (lw_c1 hS rfl) rfl) dL_law_1238 rfl rfl ?_
  refine gq_icmp_eq_t (tgt := 2921) C dL_law_1241 (by decide) rfl ?_
  exact gq_widen (lw_k2 rfl) (lw_n2 rfl) (gq_sub [0, 1, 2, 3, 4] rfl (kk ν z4))
set_option maxHeartbeats 4000000 in
set_option maxRecDepth 100000 in
theorem cs_20 (C : Cq E p s m args meth c cL_law 9 RL) (X : Sx E s b L xs) (hl9 : l.stackTraces = false) (hN : 312 ≤ eN E) (h : Iv j μ) (hj : j < 512) (hi : ∀ v, v < 7 → vp_in (i + nI v) L) (hK : k ≤ 500000) (hS : n ≤ 6000000) (kk : ∀ μ', Iv (j + 1) μ' → Gq E p l e room_1 s m args below meth c (k + 128) (n + 4096) 9 Q 2921 (lvL E b i) [] μ') : Gq E p l e room_1 s m args below meth c k n 9 Q 1246 (lvL E b i) [] μ := by
  have hN2 : 295 ≤ eN E := by omega
  have hN3 : 311 ≤ eN E := by omega
  obtain ⟨w, ν, z0, z1, z4⟩ := s_dryGauges h hj
  refine gq_lv (lv' := [(4, .int i), (3, .ref (eB E + 311)), (2, .ref (eB E + 295)), (1, .ref (eB E + 0)), (0, .ref b)]) rfl ?_
  refine gq_aload_n (i := 1) C dL_law_1246 rfl 3 rfl ?_
  refine gq_V (As := []) (rest := []) (j := 0) C (c_X3_dryGauges hN2 z0) (qn_l 0 (by decide) hN2) (by decide) (by decide) rfl wk_2_63 wk_2_64 wk_2_65 wk_1_1 wk_2_66 hd_X3_dryGauges ⟨(Nat.le_of_ble_eq_true rfl), (Nat.le_of_ble_eq_true rfl)⟩ (Nat.le_of_ble_eq_true rfl) (lw_hf (by omega) (by omega) rfl) dL_law_1247 rfl rfl ?_
  refine gq_aload_n (i := 2) C dL_law_1250 rfl 2 rfl ?_
  refine gq_V (As := []) (rest := [.int w]) (j := 5) C (c_X4_dryGauges hN3 z1) (qn_m 295 (by decide) hN3) (by decide) (by decide) rfl wk_8_7 wk_8_8 wk_8_9 wk_1_9 wk_8_10 hd_X4_dryGauges ⟨(Nat.le_of_ble_eq_true rfl), (Nat.le_of_ble_eq_true rfl)⟩ (Nat.le_of_ble_eq_true rfl) (lw_hf (lw_b1 hK rfl) (lw_c1 hS rfl) rfl) dL_law_1251 rfl rfl ?_
  refine gq_icmp_eq_t (tgt := 2921) C dL_law_1254 (by decide) rfl ?_
  exact gq_widen (lw_k2 rfl) (lw_n2 rfl) (gq_sub [0, 1, 2, 3, 4] rfl (kk ν z4))
set_option maxHeartbeats 4000000 in
set_option maxRecDepth 100000 in
theorem cs_22 (C : Cq E p s m args meth c cL_law 9 RL) (X : Sx E s b L xs) (hl9 : l.stackTraces = false) (hN : 312 ≤ eN E) (h : Iv j μ) (hj : j < 512) (hi : ∀ v, v < 7 → vp_in (i + nI v) L) (hK : k ≤ 500000) (hS : n ≤ 6000000) (kk : ∀ μ', Iv (j + 1) μ' → Gq E p l e room_1 s m args below meth c (k + 128) (n + 4096) 9 Q 2921 (lvL E b i) [] μ') : Gq E p l e room_1 s m args below meth c k n 9 Q 1300 (lvL E b i) [] μ := by
  have hN2 : 295 ≤ eN E := by omega
  have hN3 : 311 ≤ eN E := by omega
  obtain ⟨w, ν, z0, z1, z4⟩ := s_outflow h hj
  refine gq_lv (lv' := [(4, .int i), (3, .ref (eB E + 311)), (2, .ref (eB E + 295)), (1, .ref (eB E + 0)), (0, .ref b)]) rfl ?_
  refine gq_aload_n (i := 1) C dL_law_1300 rfl 3 rfl ?_
  refine gq_V (As := []) (rest := []) (j := 0) C (c_X3_outflow hN2 z0) (qn_l 0 (by decide) hN2) (by decide) (by decide) rfl wk_2_77 wk_2_78 wk_2_79 wk_1_1 wk_2_80 hd_X3_outflow ⟨(Nat.le_of_ble_eq_true rfl), (Nat.le_of_ble_eq_true rfl)⟩ (Nat.le_of_ble_eq_true rfl) (lw_hf (by omega) (by omega) rfl) dL_law_1301 rfl rfl ?_
  refine gq_aload_n (i := 2) C dL_law_1304 rfl 2 rfl ?_
  refine gq_V (As := []) (rest := [.int w]) (j := 5) C (c_X4_outflow hN3 z1) (qn_m 295 (by decide) hN3) (by decide) (by decide) rfl wk_8_15 wk_8_16 wk_8_17 wk_1_9 wk_8_18 hd_X4_outflow ⟨(Nat.le_of_ble_eq_true rfl), (Nat.le_of_ble_eq_true rfl)⟩ (Nat.le_of_ble_eq_true rfl) (lw_hf (lw_b1 hK rfl) (lw_c1 hS rfl) rfl) dL_law_1305 rfl rfl ?_
  refine gq_icmp_eq_t (tgt := 2921) C dL_law_1308 (by decide) rfl ?_
  exact gq_widen (lw_k2 rfl) (lw_n2 rfl) (gq_sub [0, 1, 2, 3, 4] rfl (kk ν z4))
set_option maxHeartbeats 4000000 in
set_option maxRecDepth 100000 in
theorem cs_23 (C : Cq E p s m args meth c cL_law 9 RL) (X : Sx E s b L xs) (hl9 : l.stackTraces = false) (hN : 312 ≤ eN E) (h : Iv j μ) (hj : j < 512) (hi : ∀ v, v < 7 → vp_in (i + nI v) L) (hK : k ≤ 500000) (hS : n ≤ 6000000) (kk : ∀ μ', Iv (j + 1) μ' → Gq E p l e room_1 s m args below meth c (k + 128) (n + 4096) 9 Q 2921 (lvL E b i) [] μ') : Gq E p l e room_1 s m args below meth c k n 9 Q 1313 (lvL E b i) [] μ := by
  have hN2 : 295 ≤ eN E := by omega
  have hN3 : 311 ≤ eN E := by omega
  obtain ⟨w, ν, z0, z1, z4⟩ := s_isBalanced h hj
  refine gq_lv (lv' := [(4, .int i), (3, .ref (eB E + 311)), (2, .ref (eB E + 295)), (1, .ref (eB E + 0)), (0, .ref b)]) rfl ?_
  refine gq_aload_n (i := 1) C dL_law_1313 rfl 3 rfl ?_
  refine gq_V (As := []) (rest := []) (j := 0) C (c_X3_isBalanced hN2 z0) (qn_l 0 (by decide) hN2) (by decide) (by decide) rfl wk_2_85 wk_2_86 wk_2_87 wk_1_1 wk_2_88 hd_X3_isBalanced ⟨(Nat.le_of_ble_eq_true rfl), (Nat.le_of_ble_eq_true rfl)⟩ (Nat.le_of_ble_eq_true rfl) (lw_hf (by omega) (by omega) rfl) dL_law_1314 rfl rfl ?_
  refine gq_aload_n (i := 2) C dL_law_1317 rfl 2 rfl ?_
  refine gq_V (As := []) (rest := [.int w]) (j := 5) C (c_X4_isBalanced hN3 z1) (qn_m 295 (by decide) hN3) (by decide) (by decide) rfl wk_8_23 wk_8_24 wk_8_25 wk_1_9 wk_8_26 hd_X4_isBalanced ⟨(Nat.le_of_ble_eq_true rfl), (Nat.le_of_ble_eq_true rfl)⟩ (Nat.le_of_ble_eq_true rfl) (lw_hf (lw_b1 hK rfl) (lw_c1 hS rfl) rfl) dL_law_1318 rfl rfl ?_
  refine gq_icmp_eq_t (tgt := 2921) C dL_law_1321 (by decide) rfl ?_
  exact gq_widen (lw_k2 rfl) (lw_n2 rfl) (gq_sub [0, 1, 2, 3, 4] rfl (kk ν z4))
set_option maxHeartbeats 4000000 in
set_option maxRecDepth 100000 in
theorem cs_24 (C : Cq E p s m args meth c cL_law 9 RL) (X : Sx E s b L xs) (hl9 : l.stackTraces = false) (hN : 312 ≤ eN E) (h : Iv j μ) (hj : j < 512) (hi : ∀ v, v < 7 → vp_in (i + nI v) L) (hK : k ≤ 500000) (hS : n ≤ 6000000) (kk : ∀ μ', Iv (j + 1) μ' → Gq E p l e room_1 s m args below meth c (k + 128) (n + 4096) 9 Q 2921 (lvL E b i) [] μ') : Gq E p l e room_1 s m args below meth c k n 9 Q 1326 (lvL E b i) [] μ := by
  have hN2 : 295 ≤ eN E := by omega
  have hN3 : 311 ≤ eN E := by omega
  obtain ⟨p1, hp1⟩ : ∃ z, z = xs (i + nI 1).toNatClampNeg := ⟨_, rfl⟩
  obtain ⟨p2, hp2⟩ : ∃ z, z = xs (i + nI 2).toNatClampNeg := ⟨_, rfl⟩
  obtain ⟨ec, t, r, w, ν, z0, hM, z1, z2, z3, z4⟩ := s_history h hj p1 p2
  have ht4 : t < 4 := lw_t4 hM (by decide)
  refine gq_lv (lv' := [(4, .int i), (3, .ref (eB E + 311)), (2, .ref (eB E + 295)), (1, .ref (eB E + 0)), (0, .ref b)]) rfl ?_
  refine gq_aload_n (i := 1) C dL_law_1326 rfl 3 rfl ?_
  refine gq_arg (v := nI 1) C X (hi 1 (by decide)) hp1.symm 4 0 rfl rfl (by decide) dL_law_1327 dL_law_1328 dL_law_1330 dL_law_1331 dL_law_1332 ?_
  refine gq_arg (v := nI 2) C X (hi 2 (by decide)) hp2.symm 4 0 rfl rfl (by decide) dL_law_1333 dL_law_1334 dL_law_1336 dL_law_1337 dL_law_1338 ?_
  refine gq_aload_n (i := 3) C dL_law_1339 rfl 1 rfl ?_
  refine gq_call (run_SW (rest := []) (As := [.ref (eB E + 0), .int p1, .int p2, .ref (eB E + 311)]) C (c_L_history hN hl9 z0 hM) wk_5_78 wk_5_79 wk_1_0 wk_5_80 hd_L_history ⟨(Nat.le_of_ble_eq_true rfl), (Nat.le_of_ble_eq_true rfl)⟩ (Nat.le_of_ble_eq_true rfl) (lw_hf (by omega) (by omega) rfl) dL_law_1340 rfl) rfl ?_
  refine gq_istore (lv' := [(5, .int (nI t)), (4, .int i), (3, .ref (eB E + 311)), (2, .ref (eB E + 295)), (1, .ref (eB E + 0)), (0, .ref b)]) C dL_law_1343 (by decide) rfl ?_
  refine gq_aload_n (i := 2) C dL_law_1345 rfl 3 rfl ?_
  refine gq_arg (v := nI 1) C X (hi 1 (by decide)) hp1.symm 5 1 rfl rfl (by decide) dL_law_1346 dL_law_1347 dL_law_1349 dL_law_1350 dL_law_1351 ?_
  refine gq_arg (v := nI 2) C X (hi 2 (by decide)) hp2.symm 5 1 rfl rfl (by decide) dL_law_1352 dL_law_1353 dL_law_1355 dL_law_1356 dL_law_1357 ?_
  refine gq_V (As := [.int p1, .int p2]) (rest := []) (j := 5) C (c_X4_history hN3 z1) (qn_m 295 (by decide) hN3) (by decide) (by decide) rfl wk_7_239 wk_8_0 wk_8_1 wk_1_9 wk_8_2 hd_X4_history ⟨(Nat.le_of_ble_eq_true rfl), (Nat.le_of_ble_eq_true rfl)⟩ (Nat.le_of_ble_eq_true rfl) (lw_hf (lw_b1 hK rfl) (lw_c1 hS rfl) rfl) dL_law_1358 rfl rfl ?_
  refine gq_istore (lv' := [(6, .int w), (5, .int (nI t)), (4, .int i), (3, .ref (eB E + 311)), (2, .ref (eB E + 295)), (1, .ref (eB E + 0)), (0, .ref b)]) C dL_law_1361 (by decide) rfl ?_
  refine gq_aload_n (i := 2) C dL_law_1363 rfl 4 rfl ?_
  refine gq_V (As := []) (rest := []) (j := 5) C (c_X4_thrown hN3 (r := nI t) (congrArg some z2)) (qn_m 295 (by decide) hN3) (by decide) (by decide) rfl wk_7_13 wk_7_14 wk_7_15 wk_1_9 wk_7_16 hd_X4_thrown ⟨(Nat.le_of_ble_eq_true rfl), (Nat.le_of_ble_eq_true rfl)⟩ (Nat.le_of_ble_eq_true rfl) (lw_hf (lw_b2 hK rfl) (lw_c2 hS rfl) rfl) dL_law_1364 rfl rfl ?_
  refine gq_iload (i := 5) C dL_law_1367 1 rfl ?_
  refine gq_icmp_eq_t (tgt := 1374) C dL_law_1369 (by decide) rfl ?_
  refine gq_iload (i := 5) C dL_law_1374 1 rfl ?_
  by_cases ht : t = 0
  · refine gq_if_ne_f (tgt := 1391) C dL_law_1376 (by decide) (by rw [ht]; rfl) ?_
    refine gq_aload_n (i := 3) C dL_law_1379 rfl 3 rfl ?_
    refine gq_iconst (v := nI 0) C dL_law_1380 (by decide) ?_
    refine gq_laloadL (x := w.toInt64) C (show 311 < eN E by omega) (by decide +kernel) (lw_out (z3 ht)) dL_law_1381 ?_
    refine gq_iload (i := 6) C dL_law_1382 0 rfl ?_
    refine gq_i2l C dL_law_1384 ?_
    refine gq_lcmp C dL_law_1385 ?_
    refine gq_if_eq_t (tgt := 1391) C dL_law_1386 (by decide) lw_cmp ?_
    refine gq_goto (tgt := 2921) C dL_law_1391 (by decide) ?_
    exact gq_widen (lw_k3 rfl) (lw_n3 rfl) (gq_sub [2, 3, 4, 5, 6] rfl (kk ν z4))
  · refine gq_if_ne_t (tgt := 1391) C dL_law_1376 (by decide) (lw_tn ht4 ht) ?_
    refine gq_goto (tgt := 2921) C dL_law_1391 (by decide) ?_
    exact gq_widen (lw_k3 rfl) (lw_n3 rfl) (gq_sub [2, 3, 4, 5, 6] rfl (kk ν z4))
set_option maxHeartbeats 4000000 in
set_option maxRecDepth 100000 in
theorem cs_25 (C : Cq E p s m args meth c cL_law 9 RL) (X : Sx E s b L xs) (hl9 : l.stackTraces = false) (hN : 312 ≤ eN E) (h : Iv j μ) (hj : j < 512) (hi : ∀ v, v < 7 → vp_in (i + nI v) L) (hK : k ≤ 500000) (hS : n ≤ 6000000) (kk : ∀ μ', Iv (j + 1) μ' → Gq E p l e room_1 s m args below meth c (k + 128) (n + 4096) 9 Q 2921 (lvL E b i) [] μ') : Gq E p l e room_1 s m args below meth c k n 9 Q 1394 (lvL E b i) [] μ := by
  have hN2 : 295 ≤ eN E := by omega
  have hN3 : 311 ≤ eN E := by omega
  obtain ⟨w, ν, z0, z1, z4⟩ := s_meanGot h hj
  refine gq_lv (lv' := [(4, .int i), (3, .ref (eB E + 311)), (2, .ref (eB E + 295)), (1, .ref (eB E + 0)), (0, .ref b)]) rfl ?_
  refine gq_aload_n (i := 1) C dL_law_1394 rfl 3 rfl ?_
  refine gq_V (As := []) (rest := []) (j := 0) C (c_X3_meanGot hN2 z0) (qn_l 0 (by decide) hN2) (by decide) (by decide) rfl wk_2_89 wk_2_90 wk_2_91 wk_1_1 wk_2_92 hd_X3_meanGot ⟨(Nat.le_of_ble_eq_true rfl), (Nat.le_of_ble_eq_true rfl)⟩ (Nat.le_of_ble_eq_true rfl) (lw_hf (by omega) (by omega) rfl) dL_law_1395 rfl rfl ?_
  refine gq_dstore (lv' := [(5, .double w), (4, .int i), (3, .ref (eB E + 311)), (2, .ref (eB E + 295)), (1, .ref (eB E + 0)), (0, .ref b)]) C dL_law_1398 (by decide) rfl ?_
  refine gq_aload_n (i := 2) C dL_law_1400 rfl 3 rfl ?_
  refine gq_V (As := []) (rest := []) (j := 5) C (c_X4_meanGot hN3 z1) (qn_m 295 (by decide) hN3) (by decide) (by decide) rfl wk_8_3 wk_8_4 wk_8_5 wk_1_9 wk_8_6 hd_X4_meanGot ⟨(Nat.le_of_ble_eq_true rfl), (Nat.le_of_ble_eq_true rfl)⟩ (Nat.le_of_ble_eq_true rfl) (lw_hf (lw_b1 hK rfl) (lw_c1 hS rfl) rfl) dL_law_1401 rfl rfl ?_
  refine gq_dstore (lv' := [(7, .double w), (5, .double w), (4, .int i), (3, .ref (eB E + 311)), (2, .ref (eB E + 295)), (1, .ref (eB E + 0)), (0, .ref b)]) C dL_law_1404 (by decide) rfl ?_
  refine gq_dload (i := 5) C dL_law_1406 1 rfl ?_
  refine gq_dload (i := 7) C dL_law_1408 0 rfl ?_
  obtain ⟨cv, hcv⟩ : ∃ z, Op.cmpValue (FP.dcmp w w) .l = z := ⟨_, rfl⟩
  refine gq_dcmpl C hcv dL_law_1410 ?_
  by_cases hc0 : cv = 0
  · refine gq_if_eq_t (tgt := 1432) C dL_law_1411 (by decide) hc0 ?_
    refine gq_goto (tgt := 2921) C dL_law_1432 (by decide) ?_
    exact gq_widen (lw_k2 rfl) (lw_n2 rfl) (gq_sub [2, 3, 4, 5, 6] rfl (kk ν z4))
  · refine gq_if_eq_f (tgt := 1432) C dL_law_1411 (by decide) hc0 ?_
    refine gq_dload (i := 5) C dL_law_1414 1 rfl ?_
    refine gq_dload (i := 5) C dL_law_1416 1 rfl ?_
    refine gq_dcmpl C hcv dL_law_1418 ?_
    refine gq_if_eq_f (tgt := 1430) C dL_law_1419 (by decide) hc0 ?_
    refine gq_dload (i := 7) C dL_law_1422 0 rfl ?_
    refine gq_dload (i := 7) C dL_law_1424 0 rfl ?_
    refine gq_dcmpl C hcv dL_law_1426 ?_
    refine gq_if_ne_t (tgt := 1432) C dL_law_1427 (by decide) hc0 ?_
    refine gq_goto (tgt := 2921) C dL_law_1432 (by decide) ?_
    exact gq_widen (lw_k2 rfl) (lw_n2 rfl) (gq_sub [2, 3, 4, 5, 6] rfl (kk ν z4))
set_option maxHeartbeats 4000000 in
set_option maxRecDepth 100000 in
theorem cs_26 (C : Cq E p s m args meth c cL_law 9 RL) (X : Sx E s b L xs) (hl9 : l.stackTraces = false) (hN : 312 ≤ eN E) (h : Iv j μ) (hj : j < 512) (hi : ∀ v, v < 7 → vp_in (i + nI v) L) (hK : k ≤ 500000) (hS : n ≤ 6000000) (kk : ∀ μ', Iv (j + 1) μ' → Gq E p l e room_1 s m args below meth c (k + 128) (n + 4096) 9 Q 2921 (lvL E b i) [] μ') : Gq E p l e room_1 s m args below meth c k n 9 Q 1435 (lvL E b i) [] μ := by
  have hN2 : 295 ≤ eN E := by omega
  have hN3 : 311 ≤ eN E := by omega
  obtain ⟨p1, hp1⟩ : ∃ z, z = xs (i + nI 1).toNatClampNeg := ⟨_, rfl⟩
  obtain ⟨ec, t, r, w, ν, z0, hM, z1, z2, z3, z4⟩ := s_got h hj p1
  have ht4 : t < 4 := lw_t4 hM (by decide)
  refine gq_lv (lv' := [(4, .int i), (3, .ref (eB E + 311)), (2, .ref (eB E + 295)), (1, .ref (eB E + 0)), (0, .ref b)]) rfl ?_
  refine gq_aload_n (i := 1) C dL_law_1435 rfl 3 rfl ?_
  refine gq_arg (v := nI 1) C X (hi 1 (by decide)) hp1.symm 4 0 rfl rfl (by decide) dL_law_1436 dL_law_1437 dL_law_1439 dL_law_1440 dL_law_1441 ?_
  refine gq_aload_n (i := 3) C dL_law_1442 rfl 1 rfl ?_
  refine gq_call (run_SW (rest := []) (As := [.ref (eB E + 0), .int p1, .ref (eB E + 311)]) C (c_L_got hN hl9 z0 hM) wk_5_85 wk_5_86 wk_1_0 wk_5_87 hd_L_got ⟨(Nat.le_of_ble_eq_true rfl), (Nat.le_of_ble_eq_true rfl)⟩ (Nat.le_of_ble_eq_true rfl) (lw_hf (by omega) (by omega) rfl) dL_law_1443 rfl) rfl ?_
  refine gq_istore (lv' := [(5, .int (nI t)), (4, .int i), (3, .ref (eB E + 311)), (2, .ref (eB E + 295)), (1, .ref (eB E + 0)), (0, .ref b)]) C dL_law_1446 (by decide) rfl ?_
  refine gq_aload_n (i := 2) C dL_law_1448 rfl 3 rfl ?_
  refine gq_arg (v := nI 1) C X (hi 1 (by decide)) hp1.symm 5 1 rfl rfl (by decide) dL_law_1449 dL_law_1450 dL_law_1452 dL_law_1453 dL_law_1454 ?_
  refine gq_V (As := [.int p1]) (rest := []) (j := 5) C (c_X4_got hN3 z1) (qn_m 295 (by decide) hN3) (by decide) (by decide) rfl wk_8_27 wk_8_28 wk_8_29 wk_1_9 wk_8_30 hd_X4_got ⟨(Nat.le_of_ble_eq_true rfl), (Nat.le_of_ble_eq_true rfl)⟩ (Nat.le_of_ble_eq_true rfl) (lw_hf (lw_b1 hK rfl) (lw_c1 hS rfl) rfl) dL_law_1455 rfl rfl ?_
  refine gq_istore (lv' := [(6, .int w), (5, .int (nI t)), (4, .int i), (3, .ref (eB E + 311)), (2, .ref (eB E + 295)), (1, .ref (eB E + 0)), (0, .ref b)]) C dL_law_1458 (by decide) rfl ?_
  refine gq_aload_n (i := 2) C dL_law_1460 rfl 4 rfl ?_
  refine gq_V (As := []) (rest := []) (j := 5) C (c_X4_thrown hN3 (r := nI t) (congrArg some z2)) (qn_m 295 (by decide) hN3) (by decide) (by decide) rfl wk_7_13 wk_7_14 wk_7_15 wk_1_9 wk_7_16 hd_X4_thrown ⟨(Nat.le_of_ble_eq_true rfl), (Nat.le_of_ble_eq_true rfl)⟩ (Nat.le_of_ble_eq_true rfl) (lw_hf (lw_b2 hK rfl) (lw_c2 hS rfl) rfl) dL_law_1461 rfl rfl ?_
  refine gq_iload (i := 5) C dL_law_1464 1 rfl ?_
  refine gq_icmp_eq_t (tgt := 1471) C dL_law_1466 (by decide) rfl ?_
  refine gq_iload (i := 5) C dL_law_1471 1 rfl ?_
  by_cases ht : t = 0
  · refine gq_if_ne_f (tgt := 1488) C dL_law_1473 (by decide) (by rw [ht]; rfl) ?_
    refine gq_aload_n (i := 3) C dL_law_1476 rfl 3 rfl ?_
    refine gq_iconst (v := nI 0) C dL_law_1477 (by decide) ?_
    refine gq_laloadL (x := w.toInt64) C (show 311 < eN E by omega) (by decide +kernel) (lw_out (z3 ht)) dL_law_1478 ?_
    refine gq_iload (i := 6) C dL_law_1479 0 rfl ?_
    refine gq_i2l C dL_law_1481 ?_
    refine gq_lcmp C dL_law_1482 ?_
    refine gq_if_eq_t (tgt := 1488) C dL_law_1483 (by decide) lw_cmp ?_
    refine gq_goto (tgt := 2921) C dL_law_1488 (by decide) ?_
    exact gq_widen (lw_k3 rfl) (lw_n3 rfl) (gq_sub [2, 3, 4, 5, 6] rfl (kk ν z4))
  · refine gq_if_ne_t (tgt := 1488) C dL_law_1473 (by decide) (lw_tn ht4 ht) ?_
    refine gq_goto (tgt := 2921) C dL_law_1488 (by decide) ?_
    exact gq_widen (lw_k3 rfl) (lw_n3 rfl) (gq_sub [2, 3, 4, 5, 6] rfl (kk ν z4))
set_option maxHeartbeats 4000000 in
set_option maxRecDepth 100000 in
theorem cs_27 (C : Cq E p s m args meth c cL_law 9 RL) (X : Sx E s b L xs) (hl9 : l.stackTraces = false) (hN : 312 ≤ eN E) (h : Iv j μ) (hj : j < 512) (hi : ∀ v, v < 7 → vp_in (i + nI v) L) (hK : k ≤ 500000) (hS : n ≤ 6000000) (kk : ∀ μ', Iv (j + 1) μ' → Gq E p l e room_1 s m args below meth c (k + 128) (n + 4096) 9 Q 2921 (lvL E b i) [] μ') : Gq E p l e room_1 s m args below meth c k n 9 Q 1491 (lvL E b i) [] μ := by
  have hN2 : 295 ≤ eN E := by omega
  have hN3 : 311 ≤ eN E := by omega
  obtain ⟨p1, hp1⟩ : ∃ z, z = xs (i + nI 1).toNatClampNeg := ⟨_, rfl⟩
  obtain ⟨ec, t, r, w, ν, z0, hM, z1, z2, z3, z4⟩ := s_earned h hj p1
  have ht4 : t < 4 := lw_t4 hM (by decide)
  refine gq_lv (lv' := [(4, .int i), (3, .ref (eB E + 311)), (2, .ref (eB E + 295)), (1, .ref (eB E + 0)), (0, .ref b)]) rfl ?_
  refine gq_aload_n (i := 1) C dL_law_1491 rfl 3 rfl ?_
  refine gq_arg (v := nI 1) C X (hi 1 (by decide)) hp1.symm 4 0 rfl rfl (by decide) dL_law_1492 dL_law_1493 dL_law_1495 dL_law_1496 dL_law_1497 ?_
  refine gq_aload_n (i := 3) C dL_law_1498 rfl 1 rfl ?_
  refine gq_call (run_SW (rest := []) (As := [.ref (eB E + 0), .int p1, .ref (eB E + 311)]) C (c_L_earned hN hl9 z0 hM) wk_5_92 wk_5_93 wk_1_0 wk_5_94 hd_L_earned ⟨(Nat.le_of_ble_eq_true rfl), (Nat.le_of_ble_eq_true rfl)⟩ (Nat.le_of_ble_eq_true rfl) (lw_hf (by omega) (by omega) rfl) dL_law_1499 rfl) rfl ?_
  refine gq_istore (lv' := [(5, .int (nI t)), (4, .int i), (3, .ref (eB E + 311)), (2, .ref (eB E + 295)), (1, .ref (eB E + 0)), (0, .ref b)]) C dL_law_1502 (by decide) rfl ?_
  refine gq_aload_n (i := 2) C dL_law_1504 rfl 3 rfl ?_
  refine gq_arg (v := nI 1) C X (hi 1 (by decide)) hp1.symm 5 1 rfl rfl (by decide) dL_law_1505 dL_law_1506 dL_law_1508 dL_law_1509 dL_law_1510 ?_
  refine gq_V (As := [.int p1]) (rest := []) (j := 5) C (c_X4_earned hN3 z1) (qn_m 295 (by decide) hN3) (by decide) (by decide) rfl wk_8_31 wk_8_32 wk_8_33 wk_1_9 wk_8_34 hd_X4_earned ⟨(Nat.le_of_ble_eq_true rfl), (Nat.le_of_ble_eq_true rfl)⟩ (Nat.le_of_ble_eq_true rfl) (lw_hf (lw_b1 hK rfl) (lw_c1 hS rfl) rfl) dL_law_1511 rfl rfl ?_
  refine gq_lstore (lv' := [(6, .long w), (5, .int (nI t)), (4, .int i), (3, .ref (eB E + 311)), (2, .ref (eB E + 295)), (1, .ref (eB E + 0)), (0, .ref b)]) C dL_law_1514 (by decide) rfl ?_
  refine gq_aload_n (i := 2) C dL_law_1516 rfl 4 rfl ?_
  refine gq_V (As := []) (rest := []) (j := 5) C (c_X4_thrown hN3 (r := nI t) (congrArg some z2)) (qn_m 295 (by decide) hN3) (by decide) (by decide) rfl wk_7_13 wk_7_14 wk_7_15 wk_1_9 wk_7_16 hd_X4_thrown ⟨(Nat.le_of_ble_eq_true rfl), (Nat.le_of_ble_eq_true rfl)⟩ (Nat.le_of_ble_eq_true rfl) (lw_hf (lw_b2 hK rfl) (lw_c2 hS rfl) rfl) dL_law_1517 rfl rfl ?_
  refine gq_iload (i := 5) C dL_law_1520 1 rfl ?_
  refine gq_icmp_eq_t (tgt := 1527) C dL_law_1522 (by decide) rfl ?_
  refine gq_iload (i := 5) C dL_law_1527 1 rfl ?_
  by_cases ht : t = 0
  · refine gq_if_ne_f (tgt := 1543) C dL_law_1529 (by decide) (by rw [ht]; rfl) ?_
    refine gq_aload_n (i := 3) C dL_law_1532 rfl 3 rfl ?_
    refine gq_iconst (v := nI 0) C dL_law_1533 (by decide) ?_
    refine gq_laloadL (x := w) C (show 311 < eN E by omega) (by decide +kernel) (lw_out (z3 ht)) dL_law_1534 ?_
    refine gq_lload (i := 6) C dL_law_1535 0 rfl ?_
    refine gq_lcmp C dL_law_1537 ?_
    refine gq_if_eq_t (tgt := 1543) C dL_law_1538 (by decide) lw_cmp ?_
    refine gq_goto (tgt := 2921) C dL_law_1543 (by decide) ?_
    exact gq_widen (lw_k3 rfl) (lw_n3 rfl) (gq_sub [2, 3, 4, 5, 6] rfl (kk ν z4))
  · refine gq_if_ne_t (tgt := 1543) C dL_law_1529 (by decide) (lw_tn ht4 ht) ?_
    refine gq_goto (tgt := 2921) C dL_law_1543 (by decide) ?_
    exact gq_widen (lw_k3 rfl) (lw_n3 rfl) (gq_sub [2, 3, 4, 5, 6] rfl (kk ν z4))
set_option maxHeartbeats 4000000 in
set_option maxRecDepth 100000 in
theorem cs_28 (C : Cq E p s m args meth c cL_law 9 RL) (X : Sx E s b L xs) (hl9 : l.stackTraces = false) (hN : 312 ≤ eN E) (h : Iv j μ) (hj : j < 512) (hi : ∀ v, v < 7 → vp_in (i + nI v) L) (hK : k ≤ 500000) (hS : n ≤ 6000000) (kk : ∀ μ', Iv (j + 1) μ' → Gq E p l e room_1 s m args below meth c (k + 128) (n + 4096) 9 Q 2921 (lvL E b i) [] μ') : Gq E p l e room_1 s m args below meth c k n 9 Q 1546 (lvL E b i) [] μ := by
  have hN2 : 295 ≤ eN E := by omega
  have hN3 : 311 ≤ eN E := by omega
  obtain ⟨w, ν, z0, z1, z4⟩ := s_bankedInAll h hj
  refine gq_lv (lv' := [(4, .int i), (3, .ref (eB E + 311)), (2, .ref (eB E + 295)), (1, .ref (eB E + 0)), (0, .ref b)]) rfl ?_
  refine gq_aload_n (i := 1) C dL_law_1546 rfl 3 rfl ?_
  refine gq_V (As := []) (rest := []) (j := 0) C (c_X3_bankedInAll hN2 z0) (qn_l 0 (by decide) hN2) (by decide) (by decide) rfl wk_2_93 wk_2_94 wk_2_95 wk_1_1 wk_2_96 hd_X3_bankedInAll ⟨(Nat.le_of_ble_eq_true rfl), (Nat.le_of_ble_eq_true rfl)⟩ (Nat.le_of_ble_eq_true rfl) (lw_hf (by omega) (by omega) rfl) dL_law_1547 rfl rfl ?_
  refine gq_aload_n (i := 2) C dL_law_1550 rfl 2 rfl ?_
  refine gq_V (As := []) (rest := [.int w]) (j := 5) C (c_X4_bankedInAll hN3 z1) (qn_m 295 (by decide) hN3) (by decide) (by decide) rfl wk_8_35 wk_8_36 wk_8_37 wk_1_9 wk_8_38 hd_X4_bankedInAll ⟨(Nat.le_of_ble_eq_true rfl), (Nat.le_of_ble_eq_true rfl)⟩ (Nat.le_of_ble_eq_true rfl) (lw_hf (lw_b1 hK rfl) (lw_c1 hS rfl) rfl) dL_law_1551 rfl rfl ?_
  refine gq_icmp_eq_t (tgt := 2921) C dL_law_1554 (by decide) rfl ?_
  exact gq_widen (lw_k2 rfl) (lw_n2 rfl) (gq_sub [0, 1, 2, 3, 4] rfl (kk ν z4))
set_option maxHeartbeats 4000000 in
set_option maxRecDepth 100000 in
theorem cs_29 (C : Cq E p s m args meth c cL_law 9 RL) (X : Sx E s b L xs) (hl9 : l.stackTraces = false) (hN : 312 ≤ eN E) (h : Iv j μ) (hj : j < 512) (hi : ∀ v, v < 7 → vp_in (i + nI v) L) (hK : k ≤ 500000) (hS : n ≤ 6000000) (kk : ∀ μ', Iv (j + 1) μ' → Gq E p l e room_1 s m args below meth c (k + 128) (n + 4096) 9 Q 2921 (lvL E b i) [] μ') : Gq E p l e room_1 s m args below meth c k n 9 Q 1559 (lvL E b i) [] μ := by
  have hN2 : 295 ≤ eN E := by omega
  have hN3 : 311 ≤ eN E := by omega
  obtain ⟨w, ν, z0, z1, z4⟩ := s_lostInAll h hj
  refine gq_lv (lv' := [(4, .int i), (3, .ref (eB E + 311)), (2, .ref (eB E + 295)), (1, .ref (eB E + 0)), (0, .ref b)]) rfl ?_
  refine gq_aload_n (i := 1) C dL_law_1559 rfl 3 rfl ?_
  refine gq_V (As := []) (rest := []) (j := 0) C (c_X3_lostInAll hN2 z0) (qn_l 0 (by decide) hN2) (by decide) (by decide) rfl wk_2_97 wk_2_98 wk_2_99 wk_1_1 wk_2_100 hd_X3_lostInAll ⟨(Nat.le_of_ble_eq_true rfl), (Nat.le_of_ble_eq_true rfl)⟩ (Nat.le_of_ble_eq_true rfl) (lw_hf (by omega) (by omega) rfl) dL_law_1560 rfl rfl ?_
  refine gq_aload_n (i := 2) C dL_law_1563 rfl 2 rfl ?_
  refine gq_V (As := []) (rest := [.int w]) (j := 5) C (c_X4_lostInAll hN3 z1) (qn_m 295 (by decide) hN3) (by decide) (by decide) rfl wk_8_39 wk_8_40 wk_8_41 wk_1_9 wk_8_42 hd_X4_lostInAll ⟨(Nat.le_of_ble_eq_true rfl), (Nat.le_of_ble_eq_true rfl)⟩ (Nat.le_of_ble_eq_true rfl) (lw_hf (lw_b1 hK rfl) (lw_c1 hS rfl) rfl) dL_law_1564 rfl rfl ?_
  refine gq_icmp_eq_t (tgt := 2921) C dL_law_1567 (by decide) rfl ?_
  exact gq_widen (lw_k2 rfl) (lw_n2 rfl) (gq_sub [0, 1, 2, 3, 4] rfl (kk ν z4))
end LCS
