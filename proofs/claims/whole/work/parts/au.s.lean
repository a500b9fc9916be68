/-! ===== the law's cases ===== -/
section LCS
variable {E : Ev} {p : Program} {l : Launch} {e : Env} {s : State} {m : MethodId} {args : Array Value} {below : List Frame} {meth : Method} {c : Code} {k n j : Nat} {Q : State → Prop} {μ : Mm} {b L : Nat} {xs : Nat → Int32} {i : Int32}
set_option maxHeartbeats 4000000 in
set_option maxRecDepth 100000 in
theorem cs_30 (C : Cq E p s m args meth c cL_law 9 RL) (X : Sx E s b L xs) (hl9 : l.stackTraces = false) (hN : 312 ≤ eN E) (h : Iv j μ) (hj : j < 512) (hi : ∀ v, v < 7 → vp_in (i + nI v) L) (hK : k ≤ 500000) (hS : n ≤ 6000000) (kk : ∀ μ', Iv (j + 1) μ' → Gq E p l e room_1 s m args below meth c (k + 128) (n + 4096) 9 Q 2921 (lvL E b i) [] μ') : Gq E p l e room_1 s m args below meth c k n 9 Q 1572 (lvL E b i) [] μ := by
  have hN2 : 295 ≤ eN E := by omega
  have hN3 : 311 ≤ eN E := by omega
  obtain ⟨w, ν, z0, z1, z4⟩ := s_releasedInAll h hj
  refine gq_lv (lv' := [(4, .int i), (3, .ref (eB E + 311)), (2, .ref (eB E + 295)), (1, .ref (eB E + 0)), (0, .ref b)]) rfl ?_
  refine gq_aload_n (i := 1) C dL_law_1572 rfl 3 rfl ?_
  refine gq_V (As := []) (rest := []) (j := 0) C (c_X3_releasedInAll hN2 z0) (qn_l 0 (by decide) hN2) (by decide) (by decide) rfl wk_2_101 wk_2_102 wk_2_103 wk_1_1 wk_2_104 hd_X3_releasedInAll ⟨(Nat.le_of_ble_eq_true rfl), (Nat.le_of_ble_eq_true rfl)⟩ (Nat.le_of_ble_eq_true rfl) (lw_hf (by omega) (by omega) rfl) dL_law_1573 rfl rfl ?_
  refine gq_aload_n (i := 2) C dL_law_1576 rfl 2 rfl ?_
  refine gq_V (As := []) (rest := [.int w]) (j := 5) C (c_X4_releasedInAll hN3 z1) (qn_m 295 (by decide) hN3) (by decide) (by decide) rfl wk_8_43 wk_8_44 wk_8_45 wk_1_9 wk_8_46 hd_X4_releasedInAll ⟨(Nat.le_of_ble_eq_true rfl), (Nat.le_of_ble_eq_true rfl)⟩ (Nat.le_of_ble_eq_true rfl) (lw_hf (lw_b1 hK rfl) (lw_c1 hS rfl) rfl) dL_law_1577 rfl rfl ?_
  refine gq_icmp_eq_t (tgt := 2921) C dL_law_1580 (by decide) rfl ?_
  exact gq_widen (lw_k2 rfl) (lw_n2 rfl) (gq_sub [0, 1, 2, 3, 4] rfl (kk ν z4))
set_option maxHeartbeats 4000000 in
set_option maxRecDepth 100000 in
theorem cs_31 (C : Cq E p s m args meth c cL_law 9 RL) (X : Sx E s b L xs) (hl9 : l.stackTraces = false) (hN : 312 ≤ eN E) (h : Iv j μ) (hj : j < 512) (hi : ∀ v, v < 7 → vp_in (i + nI v) L) (hK : k ≤ 500000) (hS : n ≤ 6000000) (kk : ∀ μ', Iv (j + 1) μ' → Gq E p l e room_1 s m args below meth c (k + 128) (n + 4096) 9 Q 2921 (lvL E b i) [] μ') : Gq E p l e room_1 s m args below meth c k n 9 Q 1585 (lvL E b i) [] μ := by
  have hN2 : 295 ≤ eN E := by omega
  have hN3 : 311 ≤ eN E := by omega
  obtain ⟨w, ν, z0, z1, z4⟩ := s_areAccountsRight h hj
  refine gq_lv (lv' := [(4, .int i), (3, .ref (eB E + 311)), (2, .ref (eB E + 295)), (1, .ref (eB E + 0)), (0, .ref b)]) rfl ?_
  refine gq_aload_n (i := 1) C dL_law_1585 rfl 3 rfl ?_
  refine gq_V (As := []) (rest := []) (j := 0) C (c_X3_areAccountsRight hN2 z0) (qn_l 0 (by decide) hN2) (by decide) (by decide) rfl wk_2_105 wk_2_106 wk_2_107 wk_1_1 wk_2_108 hd_X3_areAccountsRight ⟨(Nat.le_of_ble_eq_true rfl), (Nat.le_of_ble_eq_true rfl)⟩ (Nat.le_of_ble_eq_true rfl) (lw_hf (by omega) (by omega) rfl) dL_law_1586 rfl rfl ?_
  refine gq_aload_n (i := 2) C dL_law_1589 rfl 2 rfl ?_
  refine gq_V (As := []) (rest := [.int w]) (j := 5) C (c_X4_areAccountsRight hN3 z1) (qn_m 295 (by decide) hN3) (by decide) (by decide) rfl wk_8_47 wk_8_48 wk_8_49 wk_1_9 wk_8_50 hd_X4_areAccountsRight ⟨(Nat.le_of_ble_eq_true rfl), (Nat.le_of_ble_eq_true rfl)⟩ (Nat.le_of_ble_eq_true rfl) (lw_hf (lw_b1 hK rfl) (lw_c1 hS rfl) rfl) dL_law_1590 rfl rfl ?_
  refine gq_icmp_eq_t (tgt := 2921) C dL_law_1593 (by decide) rfl ?_
  exact gq_widen (lw_k2 rfl) (lw_n2 rfl) (gq_sub [0, 1, 2, 3, 4] rfl (kk ν z4))
set_option maxHeartbeats 4000000 in
set_option maxRecDepth 100000 in
theorem cs_32 (C : Cq E p s m args meth c cL_law 9 RL) (X : Sx E s b L xs) (hl9 : l.stackTraces = false) (hN : 312 ≤ eN E) (h : Iv j μ) (hj : j < 512) (hi : ∀ v, v < 7 → vp_in (i + nI v) L) (hK : k ≤ 500000) (hS : n ≤ 6000000) (kk : ∀ μ', Iv (j + 1) μ' → Gq E p l e room_1 s m args below meth c (k + 128) (n + 4096) 9 Q 2921 (lvL E b i) [] μ') : Gq E p l e room_1 s m args below meth c k n 9 Q 1598 (lvL E b i) [] μ := by
  have hN2 : 295 ≤ eN E := by omega
  have hN3 : 311 ≤ eN E := by omega
  obtain ⟨w, ν, z0, z1, z4⟩ := s_richest h hj
  refine gq_lv (lv' := [(4, .int i), (3, .ref (eB E + 311)), (2, .ref (eB E + 295)), (1, .ref (eB E + 0)), (0, .ref b)]) rfl ?_
  refine gq_aload_n (i := 1) C dL_law_1598 rfl 3 rfl ?_
  refine gq_V (As := []) (rest := []) (j := 0) C (c_X3_richest hN2 z0) (qn_l 0 (by decide) hN2) (by decide) (by decide) rfl wk_2_113 wk_2_114 wk_2_115 wk_1_1 wk_2_116 hd_X3_richest ⟨(Nat.le_of_ble_eq_true rfl), (Nat.le_of_ble_eq_true rfl)⟩ (Nat.le_of_ble_eq_true rfl) (lw_hf (by omega) (by omega) rfl) dL_law_1599 rfl rfl ?_
  refine gq_aload_n (i := 2) C dL_law_1602 rfl 2 rfl ?_
  refine gq_V (As := []) (rest := [.int w]) (j := 5) C (c_X4_richest hN3 z1) (qn_m 295 (by decide) hN3) (by decide) (by decide) rfl wk_8_51 wk_8_52 wk_8_53 wk_1_9 wk_8_54 hd_X4_richest ⟨(Nat.le_of_ble_eq_true rfl), (Nat.le_of_ble_eq_true rfl)⟩ (Nat.le_of_ble_eq_true rfl) (lw_hf (lw_b1 hK rfl) (lw_c1 hS rfl) rfl) dL_law_1603 rfl rfl ?_
  refine gq_icmp_eq_t (tgt := 2921) C dL_law_1606 (by decide) rfl ?_
  exact gq_widen (lw_k2 rfl) (lw_n2 rfl) (gq_sub [0, 1, 2, 3, 4] rfl (kk ν z4))
set_option maxHeartbeats 4000000 in
set_option maxRecDepth 100000 in
theorem cs_33 (C : Cq E p s m args meth c cL_law 9 RL) (X : Sx E s b L xs) (hl9 : l.stackTraces = false) (hN : 312 ≤ eN E) (h : Iv j μ) (hj : j < 512) (hi : ∀ v, v < 7 → vp_in (i + nI v) L) (hK : k ≤ 500000) (hS : n ≤ 6000000) (kk : ∀ μ', Iv (j + 1) μ' → Gq E p l e room_1 s m args below meth c (k + 128) (n + 4096) 9 Q 2921 (lvL E b i) [] μ') : Gq E p l e room_1 s m args below meth c k n 9 Q 1611 (lvL E b i) [] μ := by
  have hN2 : 295 ≤ eN E := by omega
  have hN3 : 311 ≤ eN E := by omega
  obtain ⟨p1, hp1⟩ : ∃ z, z = xs (i + nI 1).toNatClampNeg := ⟨_, rfl⟩
  obtain ⟨p2, hp2⟩ : ∃ z, z = xs (i + nI 2).toNatClampNeg := ⟨_, rfl⟩
  obtain ⟨ec, t, r, μ1, w, ν, z0, hM, z1, z2, z3, z4⟩ := s_expected h hj p1 p2
  have ht4 : t < 4 := lw_t4 hM (by decide)
  refine gq_lv (lv' := [(4, .int i), (3, .ref (eB E + 311)), (2, .ref (eB E + 295)), (1, .ref (eB E + 0)), (0, .ref b)]) rfl ?_
  refine gq_aload_n (i := 1) C dL_law_1611 rfl 3 rfl ?_
  refine gq_arg (v := nI 1) C X (hi 1 (by decide)) hp1.symm 4 0 rfl rfl (by decide) dL_law_1612 dL_law_1613 dL_law_1615 dL_law_1616 dL_law_1617 ?_
  refine gq_arg (v := nI 2) C X (hi 2 (by decide)) hp2.symm 4 0 rfl rfl (by decide) dL_law_1618 dL_law_1619 dL_law_1621 dL_law_1622 dL_law_1623 ?_
  refine gq_aload_n (i := 3) C dL_law_1624 rfl 1 rfl ?_
  refine gq_call (run_SW (rest := []) (As := [.ref (eB E + 0), .int p1, .int p2, .ref (eB E + 311)]) C (c_L_expected hN hl9 z0 hM) wk_5_103 wk_5_104 wk_1_0 wk_5_105 hd_L_expected ⟨(Nat.le_of_ble_eq_true rfl), (Nat.le_of_ble_eq_true rfl)⟩ (Nat.le_of_ble_eq_true rfl) (lw_hf (by omega) (by omega) rfl) dL_law_1625 rfl) rfl ?_
  refine gq_istore (lv' := [(5, .int (nI t)), (4, .int i), (3, .ref (eB E + 311)), (2, .ref (eB E + 295)), (1, .ref (eB E + 0)), (0, .ref b)]) C dL_law_1628 (by decide) rfl ?_
  refine gq_aload_n (i := 2) C dL_law_1630 rfl 3 rfl ?_
  refine gq_arg (v := nI 1) C X (hi 1 (by decide)) hp1.symm 5 1 rfl rfl (by decide) dL_law_1631 dL_law_1632 dL_law_1634 dL_law_1635 dL_law_1636 ?_
  refine gq_arg (v := nI 2) C X (hi 2 (by decide)) hp2.symm 5 1 rfl rfl (by decide) dL_law_1637 dL_law_1638 dL_law_1640 dL_law_1641 dL_law_1642 ?_
  refine gq_V (As := [.int p1, .int p2]) (rest := []) (j := 5) C (c_X4_expected hN3 z1) (qn_m 295 (by decide) hN3) (by decide) (by decide) rfl wk_8_55 wk_8_56 wk_8_57 wk_1_9 wk_8_58 hd_X4_expected ⟨(Nat.le_of_ble_eq_true rfl), (Nat.le_of_ble_eq_true rfl)⟩ (Nat.le_of_ble_eq_true rfl) (lw_hf (lw_b1 hK rfl) (lw_c1 hS rfl) rfl) dL_law_1643 rfl rfl ?_
  refine gq_istore (lv' := [(6, .int w), (5, .int (nI t)), (4, .int i), (3, .ref (eB E + 311)), (2, .ref (eB E + 295)), (1, .ref (eB E + 0)), (0, .ref b)]) C dL_law_1646 (by decide) rfl ?_
  refine gq_aload_n (i := 2) C dL_law_1648 rfl 4 rfl ?_
  refine gq_V (As := []) (rest := []) (j := 5) C (c_X4_thrown hN3 (r := nI t) (congrArg some z2)) (qn_m 295 (by decide) hN3) (by decide) (by decide) rfl wk_7_13 wk_7_14 wk_7_15 wk_1_9 wk_7_16 hd_X4_thrown ⟨(Nat.le_of_ble_eq_true rfl), (Nat.le_of_ble_eq_true rfl)⟩ (Nat.le_of_ble_eq_true rfl) (lw_hf (lw_b2 hK rfl) (lw_c2 hS rfl) rfl) dL_law_1649 rfl rfl ?_
  refine gq_iload (i := 5) C dL_law_1652 1 rfl ?_
  refine gq_icmp_eq_t (tgt := 1659) C dL_law_1654 (by decide) rfl ?_
  refine gq_iload (i := 5) C dL_law_1659 1 rfl ?_
  by_cases ht : t = 0
  · refine gq_if_ne_f (tgt := 1676) C dL_law_1661 (by decide) (by rw [ht]; rfl) ?_
    refine gq_aload_n (i := 3) C dL_law_1664 rfl 3 rfl ?_
    refine gq_iconst (v := nI 0) C dL_law_1665 (by decide) ?_
    refine gq_laloadL (x := w.toInt64) C (show 311 < eN E by omega) (by decide +kernel) (lw_out (z3 ht)) dL_law_1666 ?_
    refine gq_iload (i := 6) C dL_law_1667 0 rfl ?_
    refine gq_i2l C dL_law_1669 ?_
    refine gq_lcmp C dL_law_1670 ?_
    refine gq_if_eq_t (tgt := 1676) C dL_law_1671 (by decide) lw_cmp ?_
    refine gq_goto (tgt := 2921) C dL_law_1676 (by decide) ?_
    exact gq_widen (lw_k3 rfl) (lw_n3 rfl) (gq_sub [2, 3, 4, 5, 6] rfl (kk ν z4))
  · refine gq_if_ne_t (tgt := 1676) C dL_law_1661 (by decide) (lw_tn ht4 ht) ?_
    refine gq_goto (tgt := 2921) C dL_law_1676 (by decide) ?_
    exact gq_widen (lw_k3 rfl) (lw_n3 rfl) (gq_sub [2, 3, 4, 5, 6] rfl (kk ν z4))
set_option maxHeartbeats 4000000 in
set_option maxRecDepth 100000 in
theorem cs_34 (C : Cq E p s m args meth c cL_law 9 RL) (X : Sx E s b L xs) (hl9 : l.stackTraces = false) (hN : 312 ≤ eN E) (h : Iv j μ) (hj : j < 512) (hi : ∀ v, v < 7 → vp_in (i + nI v) L) (hK : k ≤ 500000) (hS : n ≤ 6000000) (kk : ∀ μ', Iv (j + 1) μ' → Gq E p l e room_1 s m args below meth c (k + 128) (n + 4096) 9 Q 2921 (lvL E b i) [] μ') : Gq E p l e room_1 s m args below meth c k n 9 Q 1679 (lvL E b i) [] μ := by
  have hN2 : 295 ≤ eN E := by omega
  have hN3 : 311 ≤ eN E := by omega
  obtain ⟨p1, hp1⟩ : ∃ z, z = xs (i + nI 1).toNatClampNeg := ⟨_, rfl⟩
  obtain ⟨p2, hp2⟩ : ∃ z, z = xs (i + nI 2).toNatClampNeg := ⟨_, rfl⟩
  obtain ⟨ec, t, r, μ1, w, ν, z0, hM, z1, z2, z3, z4⟩ := s_cutMonths h hj p1 p2
  have ht4 : t < 4 := lw_t4 hM (by decide)
  refine gq_lv (lv' := [(4, .int i), (3, .ref (eB E + 311)), (2, .ref (eB E + 295)), (1, .ref (eB E + 0)), (0, .ref b)]) rfl ?_
  refine gq_aload_n (i := 1) C dL_law_1679 rfl 3 rfl ?_
  refine gq_arg (v := nI 1) C X (hi 1 (by decide)) hp1.symm 4 0 rfl rfl (by decide) dL_law_1680 dL_law_1681 dL_law_1683 dL_law_1684 dL_law_1685 ?_
  refine gq_arg (v := nI 2) C X (hi 2 (by decide)) hp2.symm 4 0 rfl rfl (by decide) dL_law_1686 dL_law_1687 dL_law_1689 dL_law_1690 dL_law_1691 ?_
  refine gq_aload_n (i := 3) C dL_law_1692 rfl 1 rfl ?_
  refine gq_call (run_SW (rest := []) (As := [.ref (eB E + 0), .int p1, .int p2, .ref (eB E + 311)]) C (c_L_cutMonths hN hl9 z0 hM) wk_5_211 wk_5_212 wk_1_0 wk_5_213 hd_L_cutMonths ⟨(Nat.le_of_ble_eq_true rfl), (Nat.le_of_ble_eq_true rfl)⟩ (Nat.le_of_ble_eq_true rfl) (lw_hf (by omega) (by omega) rfl) dL_law_1693 rfl) rfl ?_
  refine gq_istore (lv' := [(5, .int (nI t)), (4, .int i), (3, .ref (eB E + 311)), (2, .ref (eB E + 295)), (1, .ref (eB E + 0)), (0, .ref b)]) C dL_law_1696 (by decide) rfl ?_
  refine gq_aload_n (i := 2) C dL_law_1698 rfl 3 rfl ?_
  refine gq_arg (v := nI 1) C X (hi 1 (by decide)) hp1.symm 5 1 rfl rfl (by decide) dL_law_1699 dL_law_1700 dL_law_1702 dL_law_1703 dL_law_1704 ?_
  refine gq_arg (v := nI 2) C X (hi 2 (by decide)) hp2.symm 5 1 rfl rfl (by decide) dL_law_1705 dL_law_1706 dL_law_1708 dL_law_1709 dL_law_1710 ?_
  refine gq_V (As := [.int p1, .int p2]) (rest := []) (j := 5) C (c_X4_cutMonths hN3 z1) (qn_m 295 (by decide) hN3) (by decide) (by decide) rfl wk_8_132 wk_8_133 wk_8_134 wk_1_9 wk_8_135 hd_X4_cutMonths ⟨(Nat.le_of_ble_eq_true rfl), (Nat.le_of_ble_eq_true rfl)⟩ (Nat.le_of_ble_eq_true rfl) (lw_hf (lw_b1 hK rfl) (lw_c1 hS rfl) rfl) dL_law_1711 rfl rfl ?_
  refine gq_istore (lv' := [(6, .int w), (5, .int (nI t)), (4, .int i), (3, .ref (eB E + 311)), (2, .ref (eB E + 295)), (1, .ref (eB E + 0)), (0, .ref b)]) C dL_law_1714 (by decide) rfl ?_
  refine gq_aload_n (i := 2) C dL_law_1716 rfl 4 rfl ?_
  refine gq_V (As := []) (rest := []) (j := 5) C (c_X4_thrown hN3 (r := nI t) (congrArg some z2)) (qn_m 295 (by decide) hN3) (by decide) (by decide) rfl wk_7_13 wk_7_14 wk_7_15 wk_1_9 wk_7_16 hd_X4_thrown ⟨(Nat.le_of_ble_eq_true rfl), (Nat.le_of_ble_eq_true rfl)⟩ (Nat.le_of_ble_eq_true rfl) (lw_hf (lw_b2 hK rfl) (lw_c2 hS rfl) rfl) dL_law_1717 rfl rfl ?_
  refine gq_iload (i := 5) C dL_law_1720 1 rfl ?_
  refine gq_icmp_eq_t (tgt := 1727) C dL_law_1722 (by decide) rfl ?_
  refine gq_iload (i := 5) C dL_law_1727 1 rfl ?_
  by_cases ht : t = 0
  · refine gq_if_ne_f (tgt := 1744) C dL_law_1729 (by decide) (by rw [ht]; rfl) ?_
    refine gq_aload_n (i := 3) C dL_law_1732 rfl 3 rfl ?_
    refine gq_iconst (v := nI 0) C dL_law_1733 (by decide) ?_
    refine gq_laloadL (x := w.toInt64) C (show 311 < eN E by omega) (by decide +kernel) (lw_out (z3 ht)) dL_law_1734 ?_
    refine gq_iload (i := 6) C dL_law_1735 0 rfl ?_
    refine gq_i2l C dL_law_1737 ?_
    refine gq_lcmp C dL_law_1738 ?_
    refine gq_if_eq_t (tgt := 1744) C dL_law_1739 (by decide) lw_cmp ?_
    refine gq_goto (tgt := 2921) C dL_law_1744 (by decide) ?_
    exact gq_widen (lw_k3 rfl) (lw_n3 rfl) (gq_sub [2, 3, 4, 5, 6] rfl (kk ν z4))
  · refine gq_if_ne_t (tgt := 1744) C dL_law_1729 (by decide) (lw_tn ht4 ht) ?_
    refine gq_goto (tgt := 2921) C dL_law_1744 (by decide) ?_
    exact gq_widen (lw_k3 rfl) (lw_n3 rfl) (gq_sub [2, 3, 4, 5, 6] rfl (kk ν z4))
set_option maxHeartbeats 4000000 in
set_option maxRecDepth 100000 in
theorem cs_35 (C : Cq E p s m args meth c cL_law 9 RL) (X : Sx E s b L xs) (hl9 : l.stackTraces = false) (hN : 312 ≤ eN E) (h : Iv j μ) (hj : j < 512) (hi : ∀ v, v < 7 → vp_in (i + nI v) L) (hK : k ≤ 500000) (hS : n ≤ 6000000) (kk : ∀ μ', Iv (j + 1) μ' → Gq E p l e room_1 s m args below meth c (k + 128) (n + 4096) 9 Q 2921 (lvL E b i) [] μ') : Gq E p l e room_1 s m args below meth c k n 9 Q 1747 (lvL E b i) [] μ := by
  have hN2 : 295 ≤ eN E := by omega
  have hN3 : 311 ≤ eN E := by omega
  obtain ⟨p1, hp1⟩ : ∃ z, z = xs (i + nI 1).toNatClampNeg := ⟨_, rfl⟩
  obtain ⟨p2, hp2⟩ : ∃ z, z = xs (i + nI 2).toNatClampNeg := ⟨_, rfl⟩
  obtain ⟨ec, t, r, μ1, w, ν, z0, hM, z1, z2, z3, z4⟩ := s_balanceAfter h hj p1 p2
  have ht4 : t < 4 := lw_t4 hM (by decide)
  refine gq_lv (lv' := [(4, .int i), (3, .ref (eB E + 311)), (2, .ref (eB E + 295)), (1, .ref (eB E + 0)), (0, .ref b)]) rfl ?_
  refine gq_aload_n (i := 1) C dL_law_1747 rfl 3 rfl ?_
  refine gq_arg (v := nI 1) C X (hi 1 (by decide)) hp1.symm 4 0 rfl rfl (by decide) dL_law_1748 dL_law_1749 dL_law_1751 dL_law_1752 dL_law_1753 ?_
  refine gq_arg (v := nI 2) C X (hi 2 (by decide)) hp2.symm 4 0 rfl rfl (by decide) dL_law_1754 dL_law_1755 dL_law_1757 dL_law_1758 dL_law_1759 ?_
  refine gq_aload_n (i := 3) C dL_law_1760 rfl 1 rfl ?_
  refine gq_call (run_SW (rest := []) (As := [.ref (eB E + 0), .int p1, .int p2, .ref (eB E + 311)]) C (c_L_balanceAfter hN hl9 z0 hM) wk_5_218 wk_5_219 wk_1_0 wk_5_220 hd_L_balanceAfter ⟨(Nat.le_of_ble_eq_true rfl), (Nat.le_of_ble_eq_true rfl)⟩ (Nat.le_of_ble_eq_true rfl) (lw_hf (by omega) (by omega) rfl) dL_law_1761 rfl) rfl ?_
  refine gq_istore (lv' := [(5, .int (nI t)), (4, .int i), (3, .ref (eB E + 311)), (2, .ref (eB E + 295)), (1, .ref (eB E + 0)), (0, .ref b)]) C dL_law_1764 (by decide) rfl ?_
  refine gq_aload_n (i := 2) C dL_law_1766 rfl 3 rfl ?_
  refine gq_arg (v := nI 1) C X (hi 1 (by decide)) hp1.symm 5 1 rfl rfl (by decide) dL_law_1767 dL_law_1768 dL_law_1770 dL_law_1771 dL_law_1772 ?_
  refine gq_arg (v := nI 2) C X (hi 2 (by decide)) hp2.symm 5 1 rfl rfl (by decide) dL_law_1773 dL_law_1774 dL_law_1776 dL_law_1777 dL_law_1778 ?_
  refine gq_V (As := [.int p1, .int p2]) (rest := []) (j := 5) C (c_X4_balanceAfter hN3 z1) (qn_m 295 (by decide) hN3) (by decide) (by decide) rfl wk_8_136 wk_8_137 wk_8_138 wk_1_9 wk_8_139 hd_X4_balanceAfter ⟨(Nat.le_of_ble_eq_true rfl), (Nat.le_of_ble_eq_true rfl)⟩ (Nat.le_of_ble_eq_true rfl) (lw_hf (lw_b1 hK rfl) (lw_c1 hS rfl) rfl) dL_law_1779 rfl rfl ?_
  refine gq_lstore (lv' := [(6, .long w), (5, .int (nI t)), (4, .int i), (3, .ref (eB E + 311)), (2, .ref (eB E + 295)), (1, .ref (eB E + 0)), (0, .ref b)]) C dL_law_1782 (by decide) rfl ?_
  refine gq_aload_n (i := 2) C dL_law_1784 rfl 4 rfl ?_
  refine gq_V (As := []) (rest := []) (j := 5) C (c_X4_thrown hN3 (r := nI t) (congrArg some z2)) (qn_m 295 (by decide) hN3) (by decide) (by decide) rfl wk_7_13 wk_7_14 wk_7_15 wk_1_9 wk_7_16 hd_X4_thrown ⟨(Nat.le_of_ble_eq_true rfl), (Nat.le_of_ble_eq_true rfl)⟩ (Nat.le_of_ble_eq_true rfl) (lw_hf (lw_b2 hK rfl) (lw_c2 hS rfl) rfl) dL_law_1785 rfl rfl ?_
  refine gq_iload (i := 5) C dL_law_1788 1 rfl ?_
  refine gq_icmp_eq_t (tgt := 1795) C dL_law_1790 (by decide) rfl ?_
  refine gq_iload (i := 5) C dL_law_1795 1 rfl ?_
  by_cases ht : t = 0
  · refine gq_if_ne_f (tgt := 1811) C dL_law_1797 (by decide) (by rw [ht]; rfl) ?_
    refine gq_aload_n (i := 3) C dL_law_1800 rfl 3 rfl ?_
    refine gq_iconst (v := nI 0) C dL_law_1801 (by decide) ?_
    refine gq_laloadL (x := w) C (show 311 < eN E by omega) (by decide +kernel) (lw_out (z3 ht)) dL_law_1802 ?_
    refine gq_lload (i := 6) C dL_law_1803 0 rfl ?_
    refine gq_lcmp C dL_law_1805 ?_
    refine gq_if_eq_t (tgt := 1811) C dL_law_1806 (by decide) lw_cmp ?_
    refine gq_goto (tgt := 2921) C dL_law_1811 (by decide) ?_
    exact gq_widen (lw_k3 rfl) (lw_n3 rfl) (gq_sub [2, 3, 4, 5, 6] rfl (kk ν z4))
  · refine gq_if_ne_t (tgt := 1811) C dL_law_1797 (by decide) (lw_tn ht4 ht) ?_
    refine gq_goto (tgt := 2921) C dL_law_1811 (by decide) ?_
    exact gq_widen (lw_k3 rfl) (lw_n3 rfl) (gq_sub [2, 3, 4, 5, 6] rfl (kk ν z4))
set_option maxHeartbeats 4000000 in
set_option maxRecDepth 100000 in
theorem cs_36 (C : Cq E p s m args meth c cL_law 9 RL) (X : Sx E s b L xs) (hl9 : l.stackTraces = false) (hN : 312 ≤ eN E) (h : Iv j μ) (hj : j < 512) (hi : ∀ v, v < 7 → vp_in (i + nI v) L) (hK : k ≤ 500000) (hS : n ≤ 6000000) (kk : ∀ μ', Iv (j + 1) μ' → Gq E p l e room_1 s m args below meth c (k + 128) (n + 4096) 9 Q 2921 (lvL E b i) [] μ') : Gq E p l e room_1 s m args below meth c k n 9 Q 1814 (lvL E b i) [] μ := by
  have hN2 : 295 ≤ eN E := by omega
  have hN3 : 311 ≤ eN E := by omega
  obtain ⟨p1, hp1⟩ : ∃ z, z = xs (i + nI 1).toNatClampNeg := ⟨_, rfl⟩
  obtain ⟨ec, t, r, μ1, w, ν, z0, hM, z1, z2, z3, z4⟩ := s_driestMonth h hj p1
  have ht4 : t < 4 := lw_t4 hM (by decide)
  refine gq_lv (lv' := [(4, .int i), (3, .ref (eB E + 311)), (2, .ref (eB E + 295)), (1, .ref (eB E + 0)), (0, .ref b)]) rfl ?_
  refine gq_aload_n (i := 1) C dL_law_1814 rfl 3 rfl ?_
  refine gq_arg (v := nI 1) C X (hi 1 (by decide)) hp1.symm 4 0 rfl rfl (by decide) dL_law_1815 dL_law_1816 dL_law_1818 dL_law_1819 dL_law_1820 ?_
  refine gq_aload_n (i := 3) C dL_law_1821 rfl 1 rfl ?_
  refine gq_call (run_SW (rest := []) (As := [.ref (eB E + 0), .int p1, .ref (eB E + 311)]) C (c_L_driestMonth hN hl9 z0 hM) wk_5_225 wk_5_226 wk_1_0 wk_5_227 hd_L_driestMonth ⟨(Nat.le_of_ble_eq_true rfl), (Nat.le_of_ble_eq_true rfl)⟩ (Nat.le_of_ble_eq_true rfl) (lw_hf (by omega) (by omega) rfl) dL_law_1822 rfl) rfl ?_
  refine gq_istore (lv' := [(5, .int (nI t)), (4, .int i), (3, .ref (eB E + 311)), (2, .ref (eB E + 295)), (1, .ref (eB E + 0)), (0, .ref b)]) C dL_law_1825 (by decide) rfl ?_
  refine gq_aload_n (i := 2) C dL_law_1827 rfl 3 rfl ?_
  refine gq_arg (v := nI 1) C X (hi 1 (by decide)) hp1.symm 5 1 rfl rfl (by decide) dL_law_1828 dL_law_1829 dL_law_1831 dL_law_1832 dL_law_1833 ?_
  refine gq_V (As := [.int p1]) (rest := []) (j := 5) C (c_X4_driestMonth hN3 z1) (qn_m 295 (by decide) hN3) (by decide) (by decide) rfl wk_8_140 wk_8_141 wk_8_142 wk_1_9 wk_8_143 hd_X4_driestMonth ⟨(Nat.le_of_ble_eq_true rfl), (Nat.le_of_ble_eq_true rfl)⟩ (Nat.le_of_ble_eq_true rfl) (lw_hf (lw_b1 hK rfl) (lw_c1 hS rfl) rfl) dL_law_1834 rfl rfl ?_
  refine gq_istore (lv' := [(6, .int w), (5, .int (nI t)), (4, .int i), (3, .ref (eB E + 311)), (2, .ref (eB E + 295)), (1, .ref (eB E + 0)), (0, .ref b)]) C dL_law_1837 (by decide) rfl ?_
  refine gq_aload_n (i := 2) C dL_law_1839 rfl 4 rfl ?_
  refine gq_V (As := []) (rest := []) (j := 5) C (c_X4_thrown hN3 (r := nI t) (congrArg some z2)) (qn_m 295 (by decide) hN3) (by decide) (by decide) rfl wk_7_13 wk_7_14 wk_7_15 wk_1_9 wk_7_16 hd_X4_thrown ⟨(Nat.le_of_ble_eq_true rfl), (Nat.le_of_ble_eq_true rfl)⟩ (Nat.le_of_ble_eq_true rfl) (lw_hf (lw_b2 hK rfl) (lw_c2 hS rfl) rfl) dL_law_1840 rfl rfl ?_
  refine gq_iload (i := 5) C dL_law_1843 1 rfl ?_
  refine gq_icmp_eq_t (tgt := 1850) C dL_law_1845 (by decide) rfl ?_
  refine gq_iload (i := 5) C dL_law_1850 1 rfl ?_
  by_cases ht : t = 0
  · refine gq_if_ne_f (tgt := 1867) C dL_law_1852 (by decide) (by rw [ht]; rfl) ?_
    refine gq_aload_n (i := 3) C dL_law_1855 rfl 3 rfl ?_
    refine gq_iconst (v := nI 0) C dL_law_1856 (by decide) ?_
    refine gq_laloadL (x := w.toInt64) C (show 311 < eN E by omega) (by decide +kernel) (lw_out (z3 ht)) dL_law_1857 ?_
    refine gq_iload (i := 6) C dL_law_1858 0 rfl ?_
    refine gq_i2l C dL_law_1860 ?_
    refine gq_lcmp C dL_law_1861 ?_
    refine gq_if_eq_t (tgt := 1867) C dL_law_1862 (by decide) lw_cmp ?_
    refine gq_goto (tgt := 2921) C dL_law_1867 (by decide) ?_
    exact gq_widen (lw_k3 rfl) (lw_n3 rfl) (gq_sub [2, 3, 4, 5, 6] rfl (kk ν z4))
  · refine gq_if_ne_t (tgt := 1867) C dL_law_1852 (by decide) (lw_tn ht4 ht) ?_
    refine gq_goto (tgt := 2921) C dL_law_1867 (by decide) ?_
    exact gq_widen (lw_k3 rfl) (lw_n3 rfl) (gq_sub [2, 3, 4, 5, 6] rfl (kk ν z4))
set_option maxHeartbeats 4000000 in
set_option maxRecDepth 100000 in
theorem cs_37 (C : Cq E p s m args meth c cL_law 9 RL) (X : Sx E s b L xs) (hl9 : l.stackTraces = false) (hN : 312 ≤ eN E) (h : Iv j μ) (hj : j < 512) (hi : ∀ v, v < 7 → vp_in (i + nI v) L) (hK : k ≤ 500000) (hS : n ≤ 6000000) (kk : ∀ μ', Iv (j + 1) μ' → Gq E p l e room_1 s m args below meth c (k + 128) (n + 4096) 9 Q 2921 (lvL E b i) [] μ') : Gq E p l e room_1 s m args below meth c k n 9 Q 1870 (lvL E b i) [] μ := by
  have hN2 : 295 ≤ eN E := by omega
  have hN3 : 311 ≤ eN E := by omega
  obtain ⟨w, ν, z0, z1, z4⟩ := s_nextExercise h hj
  refine gq_lv (lv' := [(4, .int i), (3, .ref (eB E + 311)), (2, .ref (eB E + 295)), (1, .ref (eB E + 0)), (0, .ref b)]) rfl ?_
  refine gq_aload_n (i := 1) C dL_law_1870 rfl 3 rfl ?_
  refine gq_V (As := []) (rest := []) (j := 0) C (c_X3_nextExercise hN2 z0) (qn_l 0 (by decide) hN2) (by decide) (by decide) rfl wk_2_117 wk_2_118 wk_2_119 wk_1_1 wk_2_120 hd_X3_nextExercise ⟨(Nat.le_of_ble_eq_true rfl), (Nat.le_of_ble_eq_true rfl)⟩ (Nat.le_of_ble_eq_true rfl) (lw_hf (by omega) (by omega) rfl) dL_law_1871 rfl rfl ?_
  refine gq_aload_n (i := 2) C dL_law_1874 rfl 2 rfl ?_
  refine gq_V (As := []) (rest := [.int w]) (j := 5) C (c_X4_nextExercise hN3 z1) (qn_m 295 (by decide) hN3) (by decide) (by decide) rfl wk_8_144 wk_8_145 wk_8_146 wk_1_9 wk_8_147 hd_X4_nextExercise ⟨(Nat.le_of_ble_eq_true rfl), (Nat.le_of_ble_eq_true rfl)⟩ (Nat.le_of_ble_eq_true rfl) (lw_hf (lw_b1 hK rfl) (lw_c1 hS rfl) rfl) dL_law_1875 rfl rfl ?_
  refine gq_icmp_eq_t (tgt := 2921) C dL_law_1878 (by decide) rfl ?_
  exact gq_widen (lw_k2 rfl) (lw_n2 rfl) (gq_sub [0, 1, 2, 3, 4] rfl (kk ν z4))
set_option maxHeartbeats 4000000 in
set_option maxRecDepth 100000 in
theorem cs_38 (C : Cq E p s m args meth c cL_law 9 RL) (X : Sx E s b L xs) (hl9 : l.stackTraces = false) (hN : 312 ≤ eN E) (h : Iv j μ) (hj : j < 512) (hi : ∀ v, v < 7 → vp_in (i + nI v) L) (hK : k ≤ 500000) (hS : n ≤ 6000000) (kk : ∀ μ', Iv (j + 1) μ' → Gq E p l e room_1 s m args below meth c (k + 128) (n + 4096) 9 Q 2921 (lvL E b i) [] μ') : Gq E p l e room_1 s m args below meth c k n 9 Q 1883 (lvL E b i) [] μ := by
  have hN2 : 295 ≤ eN E := by omega
  have hN3 : 311 ≤ eN E := by omega
  obtain ⟨p1, hp1⟩ : ∃ z, z = xs (i + nI 1).toNatClampNeg := ⟨_, rfl⟩
  obtain ⟨ec, t, r, μ1, w, ν, z0, hM, z1, z2, z3, z4⟩ := s_free h hj p1
  have ht4 : t < 4 := lw_t4 hM (by decide)
  refine gq_lv (lv' := [(4, .int i), (3, .ref (eB E + 311)), (2, .ref (eB E + 295)), (1, .ref (eB E + 0)), (0, .ref b)]) rfl ?_
  refine gq_aload_n (i := 1) C dL_law_1883 rfl 3 rfl ?_
  refine gq_arg (v := nI 1) C X (hi 1 (by decide)) hp1.symm 4 0 rfl rfl (by decide) dL_law_1884 dL_law_1885 dL_law_1887 dL_law_1888 dL_law_1889 ?_
  refine gq_aload_n (i := 3) C dL_law_1890 rfl 1 rfl ?_
  refine gq_call (run_SW (rest := []) (As := [.ref (eB E + 0), .int p1, .ref (eB E + 311)]) C (c_L_free hN hl9 z0 hM) wk_6_13 wk_6_14 wk_1_0 wk_6_15 hd_L_free ⟨(Nat.le_of_ble_eq_true rfl), (Nat.le_of_ble_eq_true rfl)⟩ (Nat.le_of_ble_eq_true rfl) (lw_hf (by omega) (by omega) rfl) dL_law_1891 rfl) rfl ?_
  refine gq_istore (lv' := [(5, .int (nI t)), (4, .int i), (3, .ref (eB E + 311)), (2, .ref (eB E + 295)), (1, .ref (eB E + 0)), (0, .ref b)]) C dL_law_1894 (by decide) rfl ?_
  refine gq_aload_n (i := 2) C dL_law_1896 rfl 3 rfl ?_
  refine gq_arg (v := nI 1) C X (hi 1 (by decide)) hp1.symm 5 1 rfl rfl (by decide) dL_law_1897 dL_law_1898 dL_law_1900 dL_law_1901 dL_law_1902 ?_
  refine gq_V (As := [.int p1]) (rest := []) (j := 5) C (c_X4_free hN3 z1) (qn_m 295 (by decide) hN3) (by decide) (by decide) rfl wk_8_148 wk_8_149 wk_8_150 wk_1_9 wk_8_151 hd_X4_free ⟨(Nat.le_of_ble_eq_true rfl), (Nat.le_of_ble_eq_true rfl)⟩ (Nat.le_of_ble_eq_true rfl) (lw_hf (lw_b1 hK rfl) (lw_c1 hS rfl) rfl) dL_law_1903 rfl rfl ?_
  refine gq_istore (lv' := [(6, .int w), (5, .int (nI t)), (4, .int i), (3, .ref (eB E + 311)), (2, .ref (eB E + 295)), (1, .ref (eB E + 0)), (0, .ref b)]) C dL_law_1906 (by decide) rfl ?_
  refine gq_aload_n (i := 2) C dL_law_1908 rfl 4 rfl ?_
  refine gq_V (As := []) (rest := []) (j := 5) C (c_X4_thrown hN3 (r := nI t) (congrArg some z2)) (qn_m 295 (by decide) hN3) (by decide) (by decide) rfl wk_7_13 wk_7_14 wk_7_15 wk_1_9 wk_7_16 hd_X4_thrown ⟨(Nat.le_of_ble_eq_true rfl), (Nat.le_of_ble_eq_true rfl)⟩ (Nat.le_of_ble_eq_true rfl) (lw_hf (lw_b2 hK rfl) (lw_c2 hS rfl) rfl) dL_law_1909 rfl rfl ?_
  refine gq_iload (i := 5) C dL_law_1912 1 rfl ?_
  refine gq_icmp_eq_t (tgt := 1919) C dL_law_1914 (by decide) rfl ?_
  refine gq_iload (i := 5) C dL_law_1919 1 rfl ?_
  by_cases ht : t = 0
  · refine gq_if_ne_f (tgt := 1936) C dL_law_1921 (by decide) (by rw [ht]; rfl) ?_
    refine gq_aload_n (i := 3) C dL_law_1924 rfl 3 rfl ?_
    refine gq_iconst (v := nI 0) C dL_law_1925 (by decide) ?_
    refine gq_laloadL (x := w.toInt64) C (show 311 < eN E by omega) (by decide +kernel) (lw_out (z3 ht)) dL_law_1926 ?_
    refine gq_iload (i := 6) C dL_law_1927 0 rfl ?_
    refine gq_i2l C dL_law_1929 ?_
    refine gq_lcmp C dL_law_1930 ?_
    refine gq_if_eq_t (tgt := 1936) C dL_law_1931 (by decide) lw_cmp ?_
    refine gq_goto (tgt := 2921) C dL_law_1936 (by decide) ?_
    exact gq_widen (lw_k3 rfl) (lw_n3 rfl) (gq_sub [2, 3, 4, 5, 6] rfl (kk ν z4))
  · refine gq_if_ne_t (tgt := 1936) C dL_law_1921 (by decide) (lw_tn ht4 ht) ?_
    refine gq_goto (tgt := 2921) C dL_law_1936 (by decide) ?_
    exact gq_widen (lw_k3 rfl) (lw_n3 rfl) (gq_sub [2, 3, 4, 5, 6] rfl (kk ν z4))
set_option maxHeartbeats 4000000 in
set_option maxRecDepth 100000 in
theorem cs_39 (C : Cq E p s m args meth c cL_law 9 RL) (X : Sx E s b L xs) (hl9 : l.stackTraces = false) (hN : 312 ≤ eN E) (h : Iv j μ) (hj : j < 512) (hi : ∀ v, v < 7 → vp_in (i + nI v) L) (hK : k ≤ 500000) (hS : n ≤ 6000000) (kk : ∀ μ', Iv (j + 1) μ' → Gq E p l e room_1 s m args below meth c (k + 128) (n + 4096) 9 Q 2921 (lvL E b i) [] μ') : Gq E p l e room_1 s m args below meth c k n 9 Q 1939 (lvL E b i) [] μ := by
  have hN2 : 295 ≤ eN E := by omega
  have hN3 : 311 ≤ eN E := by omega
  obtain ⟨p1, hp1⟩ : ∃ z, z = xs (i + nI 1).toNatClampNeg := ⟨_, rfl⟩
  obtain ⟨ec, t, r, μ1, w, ν, z0, hM, z1, z2, z3, z4⟩ := s_bestReach h hj p1
  have ht4 : t < 4 := lw_t4 hM (by decide)
  refine gq_lv (lv' := [(4, .int i), (3, .ref (eB E + 311)), (2, .ref (eB E + 295)), (1, .ref (eB E + 0)), (0, .ref b)]) rfl ?_
  refine gq_aload_n (i := 1) C dL_law_1939 rfl 3 rfl ?_
  refine gq_arg (v := nI 1) C X (hi 1 (by decide)) hp1.symm 4 0 rfl rfl (by decide) dL_law_1940 dL_law_1941 dL_law_1943 dL_law_1944 dL_law_1945 ?_
  refine gq_aload_n (i := 3) C dL_law_1946 rfl 1 rfl ?_
  refine gq_call (run_SW (rest := []) (As := [.ref (eB E + 0), .int p1, .ref (eB E + 311)]) C (c_L_bestReach hN hl9 z0 hM) wk_6_22 wk_6_23 wk_1_0 wk_6_24 hd_L_bestReach ⟨(Nat.le_of_ble_eq_true rfl), (Nat.le_of_ble_eq_true rfl)⟩ (Nat.le_of_ble_eq_true rfl) (lw_hf (by omega) (by omega) rfl) dL_law_1947 rfl) rfl ?_
  refine gq_istore (lv' := [(5, .int (nI t)), (4, .int i), (3, .ref (eB E + 311)), (2, .ref (eB E + 295)), (1, .ref (eB E + 0)), (0, .ref b)]) C dL_law_1950 (by decide) rfl ?_
  refine gq_aload_n (i := 2) C dL_law_1952 rfl 3 rfl ?_
  refine gq_arg (v := nI 1) C X (hi 1 (by decide)) hp1.symm 5 1 rfl rfl (by decide) dL_law_1953 dL_law_1954 dL_law_1956 dL_law_1957 dL_law_1958 ?_
  refine gq_V (As := [.int p1]) (rest := []) (j := 5) C (c_X4_bestReach hN3 z1) (qn_m 295 (by decide) hN3) (by decide) (by decide) rfl wk_8_152 wk_8_153 wk_8_154 wk_1_9 wk_8_155 hd_X4_bestReach ⟨(Nat.le_of_ble_eq_true rfl), (Nat.le_of_ble_eq_true rfl)⟩ (Nat.le_of_ble_eq_true rfl) (lw_hf (lw_b1 hK rfl) (lw_c1 hS rfl) rfl) dL_law_1959 rfl rfl ?_
  refine gq_istore (lv' := [(6, .int w), (5, .int (nI t)), (4, .int i), (3, .ref (eB E + 311)), (2, .ref (eB E + 295)), (1, .ref (eB E + 0)), (0, .ref b)]) C dL_law_1962 (by decide) rfl ?_
  refine gq_aload_n (i := 2) C dL_law_1964 rfl 4 rfl ?_
  refine gq_V (As := []) (rest := []) (j := 5) C (c_X4_thrown hN3 (r := nI t) (congrArg some z2)) (qn_m 295 (by decide) hN3) (by decide) (by decide) rfl wk_7_13 wk_7_14 wk_7_15 wk_1_9 wk_7_16 hd_X4_thrown ⟨(Nat.le_of_ble_eq_true rfl), (Nat.le_of_ble_eq_true rfl)⟩ (Nat.le_of_ble_eq_true rfl) (lw_hf (lw_b2 hK rfl) (lw_c2 hS rfl) rfl) dL_law_1965 rfl rfl ?_
  refine gq_iload (i := 5) C dL_law_1968 1 rfl ?_
  refine gq_icmp_eq_t (tgt := 1975) C dL_law_1970 (by decide) rfl ?_
  refine gq_iload (i := 5) C dL_law_1975 1 rfl ?_
  by_cases ht : t = 0
  · refine gq_if_ne_f (tgt := 1992) C dL_law_1977 (by decide) (by rw [ht]; rfl) ?_
    refine gq_aload_n (i := 3) C dL_law_1980 rfl 3 rfl ?_
    refine gq_iconst (v := nI 0) C dL_law_1981 (by decide) ?_
    refine gq_laloadL (x := w.toInt64) C (show 311 < eN E by omega) (by decide +kernel) (lw_out (z3 ht)) dL_law_1982 ?_
    refine gq_iload (i := 6) C dL_law_1983 0 rfl ?_
    refine gq_i2l C dL_law_1985 ?_
    refine gq_lcmp C dL_law_1986 ?_
    refine gq_if_eq_t (tgt := 1992) C dL_law_1987 (by decide) lw_cmp ?_
    refine gq_goto (tgt := 2921) C dL_law_1992 (by decide) ?_
    exact gq_widen (lw_k3 rfl) (lw_n3 rfl) (gq_sub [2, 3, 4, 5, 6] rfl (kk ν z4))
  · refine gq_if_ne_t (tgt := 1992) C dL_law_1977 (by decide) (lw_tn ht4 ht) ?_
    refine gq_goto (tgt := 2921) C dL_law_1992 (by decide) ?_
    exact gq_widen (lw_k3 rfl) (lw_n3 rfl) (gq_sub [2, 3, 4, 5, 6] rfl (kk ν z4))
set_option maxHeartbeats 4000000 in
set_option maxRecDepth 100000 in
theorem cs_40 (C : Cq E p s m args meth c cL_law 9 RL) (X : Sx E s b L xs) (hl9 : l.stackTraces = false) (hN : 312 ≤ eN E) (h : Iv j μ) (hj : j < 512) (hi : ∀ v, v < 7 → vp_in (i + nI v) L) (hK : k ≤ 500000) (hS : n ≤ 6000000) (kk : ∀ μ', Iv (j + 1) μ' → Gq E p l e room_1 s m args below meth c (k + 128) (n + 4096) 9 Q 2921 (lvL E b i) [] μ') : Gq E p l e room_1 s m args below meth c k n 9 Q 1995 (lvL E b i) [] μ := by
  have hN2 : 295 ≤ eN E := by omega
  have hN3 : 311 ≤ eN E := by omega
  obtain ⟨p1, hp1⟩ : ∃ z, z = xs (i + nI 1).toNatClampNeg := ⟨_, rfl⟩
  obtain ⟨p2, hp2⟩ : ∃ z, z = xs (i + nI 2).toNatClampNeg := ⟨_, rfl⟩
  obtain ⟨p3, hp3⟩ : ∃ z, z = xs (i + nI 3).toNatClampNeg := ⟨_, rfl⟩
  obtain ⟨ec, t, r, μ1, w, ν, z0, hM, z1, z2, z3, z4⟩ := s_injured h hj p1 p2 p3
  have ht4 : t < 4 := lw_t4 hM (by decide)
  refine gq_lv (lv' := [(4, .int i), (3, .ref (eB E + 311)), (2, .ref (eB E + 295)), (1, .ref (eB E + 0)), (0, .ref b)]) rfl ?_
  refine gq_aload_n (i := 1) C dL_law_1995 rfl 3 rfl ?_
  refine gq_arg (v := nI 1) C X (hi 1 (by decide)) hp1.symm 4 0 rfl rfl (by decide) dL_law_1996 dL_law_1997 dL_law_1999 dL_law_2000 dL_law_2001 ?_
  refine gq_arg (v := nI 2) C X (hi 2 (by decide)) hp2.symm 4 0 rfl rfl (by decide) dL_law_2002 dL_law_2003 dL_law_2005 dL_law_2006 dL_law_2007 ?_
  refine gq_arg (v := nI 3) C X (hi 3 (by decide)) hp3.symm 4 0 rfl rfl (by decide) dL_law_2008 dL_law_2009 dL_law_2011 dL_law_2012 dL_law_2013 ?_
  refine gq_aload_n (i := 3) C dL_law_2014 rfl 1 rfl ?_
  refine gq_call (run_SW (rest := []) (As := [.ref (eB E + 0), .int p1, .int p2, .int p3, .ref (eB E + 311)]) C (c_L_injured hN hl9 z0 hM) wk_6_39 wk_6_40 wk_1_0 wk_6_41 hd_L_injured ⟨(Nat.le_of_ble_eq_true rfl), (Nat.le_of_ble_eq_true rfl)⟩ (Nat.le_of_ble_eq_true rfl) (lw_hf (by omega) (by omega) rfl) dL_law_2015 rfl) rfl ?_
  refine gq_istore (lv' := [(5, .int (nI t)), (4, .int i), (3, .ref (eB E + 311)), (2, .ref (eB E + 295)), (1, .ref (eB E + 0)), (0, .ref b)]) C dL_law_2018 (by decide) rfl ?_
  refine gq_aload_n (i := 2) C dL_law_2020 rfl 3 rfl ?_
  refine gq_arg (v := nI 1) C X (hi 1 (by decide)) hp1.symm 5 1 rfl rfl (by decide) dL_law_2021 dL_law_2022 dL_law_2024 dL_law_2025 dL_law_2026 ?_
  refine gq_arg (v := nI 2) C X (hi 2 (by decide)) hp2.symm 5 1 rfl rfl (by decide) dL_law_2027 dL_law_2028 dL_law_2030 dL_law_2031 dL_law_2032 ?_
  refine gq_arg (v := nI 3) C X (hi 3 (by decide)) hp3.symm 5 1 rfl rfl (by decide) dL_law_2033 dL_law_2034 dL_law_2036 dL_law_2037 dL_law_2038 ?_
  refine gq_V (As := [.int p1, .int p2, .int p3]) (rest := []) (j := 5) C (c_X4_injured hN3 z1) (qn_m 295 (by decide) hN3) (by decide) (by decide) rfl wk_8_156 wk_8_157 wk_8_158 wk_1_9 wk_8_159 hd_X4_injured ⟨(Nat.le_of_ble_eq_true rfl), (Nat.le_of_ble_eq_true rfl)⟩ (Nat.le_of_ble_eq_true rfl) (lw_hf (lw_b1 hK rfl) (lw_c1 hS rfl) rfl) dL_law_2039 rfl rfl ?_
  refine gq_istore (lv' := [(6, .int w), (5, .int (nI t)), (4, .int i), (3, .ref (eB E + 311)), (2, .ref (eB E + 295)), (1, .ref (eB E + 0)), (0, .ref b)]) C dL_law_2042 (by decide) rfl ?_
  refine gq_aload_n (i := 2) C dL_law_2044 rfl 4 rfl ?_
  refine gq_V (As := []) (rest := []) (j := 5) C (c_X4_thrown hN3 (r := nI t) (congrArg some z2)) (qn_m 295 (by decide) hN3) (by decide) (by decide) rfl wk_7_13 wk_7_14 wk_7_15 wk_1_9 wk_7_16 hd_X4_thrown ⟨(Nat.le_of_ble_eq_true rfl), (Nat.le_of_ble_eq_true rfl)⟩ (Nat.le_of_ble_eq_true rfl) (lw_hf (lw_b2 hK rfl) (lw_c2 hS rfl) rfl) dL_law_2045 rfl rfl ?_
  refine gq_iload (i := 5) C dL_law_2048 1 rfl ?_
  refine gq_icmp_eq_t (tgt := 2055) C dL_law_2050 (by decide) rfl ?_
  refine gq_iload (i := 5) C dL_law_2055 1 rfl ?_
  by_cases ht : t = 0
  · refine gq_if_ne_f (tgt := 2072) C dL_law_2057 (by decide) (by rw [ht]; rfl) ?_
    refine gq_aload_n (i := 3) C dL_law_2060 rfl 3 rfl ?_
    refine gq_iconst (v := nI 0) C dL_law_2061 (by decide) ?_
    refine gq_laloadL (x := w.toInt64) C (show 311 < eN E by omega) (by decide +kernel) (lw_out (z3 ht)) dL_law_2062 ?_
    refine gq_iload (i := 6) C dL_law_2063 0 rfl ?_
    refine gq_i2l C dL_law_2065 ?_
    refine gq_lcmp C dL_law_2066 ?_
    refine gq_if_eq_t (tgt := 2072) C dL_law_2067 (by decide) lw_cmp ?_
    refine gq_goto (tgt := 2921) C dL_law_2072 (by decide) ?_
    exact gq_widen (lw_k3 rfl) (lw_n3 rfl) (gq_sub [2, 3, 4, 5, 6] rfl (kk ν z4))
  · refine gq_if_ne_t (tgt := 2072) C dL_law_2057 (by decide) (lw_tn ht4 ht) ?_
    refine gq_goto (tgt := 2921) C dL_law_2072 (by decide) ?_
    exact gq_widen (lw_k3 rfl) (lw_n3 rfl) (gq_sub [2, 3, 4, 5, 6] rfl (kk ν z4))
set_option maxHeartbeats 4000000 in
set_option maxRecDepth 100000 in
theorem cs_41 (C : Cq E p s m args meth c cL_law 9 RL) (X : Sx E s b L xs) (hl9 : l.stackTraces = false) (hN : 312 ≤ eN E) (h : Iv j μ) (hj : j < 512) (hi : ∀ v, v < 7 → vp_in (i + nI v) L) (hK : k ≤ 500000) (hS : n ≤ 6000000) (kk : ∀ μ', Iv (j + 1) μ' → Gq E p l e room_1 s m args below meth c (k + 128) (n + 4096) 9 Q 2921 (lvL E b i) [] μ') : Gq E p l e room_1 s m args below meth c k n 9 Q 2075 (lvL E b i) [] μ := by
  have hN2 : 295 ≤ eN E := by omega
  have hN3 : 311 ≤ eN E := by omega
  obtain ⟨p1, hp1⟩ : ∃ z, z = xs (i + nI 1).toNatClampNeg := ⟨_, rfl⟩
  obtain ⟨ec, t, r, μ1, w, ν, z0, hM, z1, z2, z3, z4⟩ := s_blocked h hj p1
  have ht4 : t < 4 := lw_t4 hM (by decide)
  refine gq_lv (lv' := [(4, .int i), (3, .ref (eB E + 311)), (2, .ref (eB E + 295)), (1, .ref (eB E + 0)), (0, .ref b)]) rfl ?_
  refine gq_aload_n (i := 1) C dL_law_2075 rfl 3 rfl ?_
  refine gq_arg (v := nI 1) C X (hi 1 (by decide)) hp1.symm 4 0 rfl rfl (by decide) dL_law_2076 dL_law_2077 dL_law_2079 dL_law_2080 dL_law_2081 ?_
  refine gq_aload_n (i := 3) C dL_law_2082 rfl 1 rfl ?_
  refine gq_call (run_SW (rest := []) (As := [.ref (eB E + 0), .int p1, .ref (eB E + 311)]) C (c_L_blocked hN hl9 z0 hM) wk_6_54 wk_6_55 wk_1_0 wk_6_56 hd_L_blocked ⟨(Nat.le_of_ble_eq_true rfl), (Nat.le_of_ble_eq_true rfl)⟩ (Nat.le_of_ble_eq_true rfl) (lw_hf (by omega) (by omega) rfl) dL_law_2083 rfl) rfl ?_
  refine gq_istore (lv' := [(5, .int (nI t)), (4, .int i), (3, .ref (eB E + 311)), (2, .ref (eB E + 295)), (1, .ref (eB E + 0)), (0, .ref b)]) C dL_law_2086 (by decide) rfl ?_
  refine gq_aload_n (i := 2) C dL_law_2088 rfl 3 rfl ?_
  refine gq_arg (v := nI 1) C X (hi 1 (by decide)) hp1.symm 5 1 rfl rfl (by decide) dL_law_2089 dL_law_2090 dL_law_2092 dL_law_2093 dL_law_2094 ?_
  refine gq_V (As := [.int p1]) (rest := []) (j := 5) C (c_X4_blocked hN3 z1) (qn_m 295 (by decide) hN3) (by decide) (by decide) rfl wk_8_168 wk_8_169 wk_8_170 wk_1_9 wk_8_171 hd_X4_blocked ⟨(Nat.le_of_ble_eq_true rfl), (Nat.le_of_ble_eq_true rfl)⟩ (Nat.le_of_ble_eq_true rfl) (lw_hf (lw_b1 hK rfl) (lw_c1 hS rfl) rfl) dL_law_2095 rfl rfl ?_
  refine gq_istore (lv' := [(6, .int w), (5, .int (nI t)), (4, .int i), (3, .ref (eB E + 311)), (2, .ref (eB E + 295)), (1, .ref (eB E + 0)), (0, .ref b)]) C dL_law_2098 (by decide) rfl ?_
  refine gq_aload_n (i := 2) C dL_law_2100 rfl 4 rfl ?_
  refine gq_V (As := []) (rest := []) (j := 5) C (c_X4_thrown hN3 (r := nI t) (congrArg some z2)) (qn_m 295 (by decide) hN3) (by decide) (by decide) rfl wk_7_13 wk_7_14 wk_7_15 wk_1_9 wk_7_16 hd_X4_thrown ⟨(Nat.le_of_ble_eq_true rfl), (Nat.le_of_ble_eq_true rfl)⟩ (Nat.le_of_ble_eq_true rfl) (lw_hf (lw_b2 hK rfl) (lw_c2 hS rfl) rfl) dL_law_2101 rfl rfl ?_
  refine gq_iload (i := 5) C dL_law_2104 1 rfl ?_
  refine gq_icmp_eq_t (tgt := 2111) C dL_law_2106 (by decide) rfl ?_
  refine gq_iload (i := 5) C dL_law_2111 1 rfl ?_
  by_cases ht : t = 0
  · refine gq_if_ne_f (tgt := 2128) C dL_law_2113 (by decide) (by rw [ht]; rfl) ?_
    refine gq_aload_n (i := 3) C dL_law_2116 rfl 3 rfl ?_
    refine gq_iconst (v := nI 0) C dL_law_2117 (by decide) ?_
    refine gq_laloadL (x := w.toInt64) C (show 311 < eN E by omega) (by decide +kernel) (lw_out (z3 ht)) dL_law_2118 ?_
    refine gq_iload (i := 6) C dL_law_2119 0 rfl ?_
    refine gq_i2l C dL_law_2121 ?_
    refine gq_lcmp C dL_law_2122 ?_
    refine gq_if_eq_t (tgt := 2128) C dL_law_2123 (by decide) lw_cmp ?_
    refine gq_goto (tgt := 2921) C dL_law_2128 (by decide) ?_
    exact gq_widen (lw_k3 rfl) (lw_n3 rfl) (gq_sub [2, 3, 4, 5, 6] rfl (kk ν z4))
  · refine gq_if_ne_t (tgt := 2128) C dL_law_2113 (by decide) (lw_tn ht4 ht) ?_
    refine gq_goto (tgt := 2921) C dL_law_2128 (by decide) ?_
    exact gq_widen (lw_k3 rfl) (lw_n3 rfl) (gq_sub [2, 3, 4, 5, 6] rfl (kk ν z4))
set_option maxHeartbeats 4000000 in
set_option maxRecDepth 100000 in
theorem cs_42 (C : Cq E p s m args meth c cL_law 9 RL) (X : Sx E s b L xs) (hl9 : l.stackTraces = false) (hN : 312 ≤ eN E) (h : Iv j μ) (hj : j < 512) (hi : ∀ v, v < 7 → vp_in (i + nI v) L) (hK : k ≤ 500000) (hS : n ≤ 6000000) (kk : ∀ μ', Iv (j + 1) μ' → Gq E p l e room_1 s m args below meth c (k + 128) (n + 4096) 9 Q 2921 (lvL E b i) [] μ') : Gq E p l e room_1 s m args below meth c k n 9 Q 2131 (lvL E b i) [] μ := by
  have hN2 : 295 ≤ eN E := by omega
  have hN3 : 311 ≤ eN E := by omega
  obtain ⟨p1, hp1⟩ : ∃ z, z = xs (i + nI 1).toNatClampNeg := ⟨_, rfl⟩
  obtain ⟨ec, t, r, μ1, w, ν, z0, hM, z1, z2, z3, z4⟩ := s_run h hj p1
  have ht4 : t < 4 := lw_t4 hM (by decide)
  refine gq_lv (lv' := [(4, .int i), (3, .ref (eB E + 311)), (2, .ref (eB E + 295)), (1, .ref (eB E + 0)), (0, .ref b)]) rfl ?_
  refine gq_aload_n (i := 1) C dL_law_2131 rfl 3 rfl ?_
  refine gq_arg (v := nI 1) C X (hi 1 (by decide)) hp1.symm 4 0 rfl rfl (by decide) dL_law_2132 dL_law_2133 dL_law_2135 dL_law_2136 dL_law_2137 ?_
  refine gq_aload_n (i := 3) C dL_law_2138 rfl 1 rfl ?_
  refine gq_call (run_SW (rest := []) (As := [.ref (eB E + 0), .int p1, .ref (eB E + 311)]) C (c_L_run hN hl9 z0 hM) wk_6_61 wk_6_62 wk_1_0 wk_6_63 hd_L_run ⟨(Nat.le_of_ble_eq_true rfl), (Nat.le_of_ble_eq_true rfl)⟩ (Nat.le_of_ble_eq_true rfl) (lw_hf (by omega) (by omega) rfl) dL_law_2139 rfl) rfl ?_
  refine gq_istore (lv' := [(5, .int (nI t)), (4, .int i), (3, .ref (eB E + 311)), (2, .ref (eB E + 295)), (1, .ref (eB E + 0)), (0, .ref b)]) C dL_law_2142 (by decide) rfl ?_
  refine gq_aload_n (i := 2) C dL_law_2144 rfl 3 rfl ?_
  refine gq_arg (v := nI 1) C X (hi 1 (by decide)) hp1.symm 5 1 rfl rfl (by decide) dL_law_2145 dL_law_2146 dL_law_2148 dL_law_2149 dL_law_2150 ?_
  refine gq_V (As := [.int p1]) (rest := []) (j := 5) C (c_X4_run hN3 z1) (qn_m 295 (by decide) hN3) (by decide) (by decide) rfl wk_8_172 wk_8_173 wk_8_174 wk_1_9 wk_8_175 hd_X4_run ⟨(Nat.le_of_ble_eq_true rfl), (Nat.le_of_ble_eq_true rfl)⟩ (Nat.le_of_ble_eq_true rfl) (lw_hf (lw_b1 hK rfl) (lw_c1 hS rfl) rfl) dL_law_2151 rfl rfl ?_
  refine gq_istore (lv' := [(6, .int w), (5, .int (nI t)), (4, .int i), (3, .ref (eB E + 311)), (2, .ref (eB E + 295)), (1, .ref (eB E + 0)), (0, .ref b)]) C dL_law_2154 (by decide) rfl ?_
  refine gq_aload_n (i := 2) C dL_law_2156 rfl 4 rfl ?_
  refine gq_V (As := []) (rest := []) (j := 5) C (c_X4_thrown hN3 (r := nI t) (congrArg some z2)) (qn_m 295 (by decide) hN3) (by decide) (by decide) rfl wk_7_13 wk_7_14 wk_7_15 wk_1_9 wk_7_16 hd_X4_thrown ⟨(Nat.le_of_ble_eq_true rfl), (Nat.le_of_ble_eq_true rfl)⟩ (Nat.le_of_ble_eq_true rfl) (lw_hf (lw_b2 hK rfl) (lw_c2 hS rfl) rfl) dL_law_2157 rfl rfl ?_
  refine gq_iload (i := 5) C dL_law_2160 1 rfl ?_
  refine gq_icmp_eq_t (tgt := 2167) C dL_law_2162 (by decide) rfl ?_
  refine gq_iload (i := 5) C dL_law_2167 1 rfl ?_
  by_cases ht : t = 0
  · refine gq_if_ne_f (tgt := 2184) C dL_law_2169 (by decide) (by rw [ht]; rfl) ?_
    refine gq_aload_n (i := 3) C dL_law_2172 rfl 3 rfl ?_
    refine gq_iconst (v := nI 0) C dL_law_2173 (by decide) ?_
    refine gq_laloadL (x := w.toInt64) C (show 311 < eN E by omega) (by decide +kernel) (lw_out (z3 ht)) dL_law_2174 ?_
    refine gq_iload (i := 6) C dL_law_2175 0 rfl ?_
    refine gq_i2l C dL_law_2177 ?_
    refine gq_lcmp C dL_law_2178 ?_
    refine gq_if_eq_t (tgt := 2184) C dL_law_2179 (by decide) lw_cmp ?_
    refine gq_goto (tgt := 2921) C dL_law_2184 (by decide) ?_
    exact gq_widen (lw_k3 rfl) (lw_n3 rfl) (gq_sub [2, 3, 4, 5, 6] rfl (kk ν z4))
  · refine gq_if_ne_t (tgt := 2184) C dL_law_2169 (by decide) (lw_tn ht4 ht) ?_
    refine gq_goto (tgt := 2921) C dL_law_2184 (by decide) ?_
    exact gq_widen (lw_k3 rfl) (lw_n3 rfl) (gq_sub [2, 3, 4, 5, 6] rfl (kk ν z4))
set_option maxHeartbeats 4000000 in
set_option maxRecDepth 100000 in
theorem cs_43 (C : Cq E p s m args meth c cL_law 9 RL) (X : Sx E s b L xs) (hl9 : l.stackTraces = false) (hN : 312 ≤ eN E) (h : Iv j μ) (hj : j < 512) (hi : ∀ v, v < 7 → vp_in (i + nI v) L) (hK : k ≤ 500000) (hS : n ≤ 6000000) (kk : ∀ μ', Iv (j + 1) μ' → Gq E p l e room_1 s m args below meth c (k + 128) (n + 4096) 9 Q 2921 (lvL E b i) [] μ') : Gq E p l e room_1 s m args below meth c k n 9 Q 2187 (lvL E b i) [] μ := by
  have hN2 : 295 ≤ eN E := by omega
  have hN3 : 311 ≤ eN E := by omega
  obtain ⟨p1, hp1⟩ : ∃ z, z = xs (i + nI 1).toNatClampNeg := ⟨_, rfl⟩
  obtain ⟨p2, hp2⟩ : ∃ z, z = xs (i + nI 2).toNatClampNeg := ⟨_, rfl⟩
  obtain ⟨p3, hp3⟩ : ∃ z, z = xs (i + nI 3).toNatClampNeg := ⟨_, rfl⟩
  obtain ⟨p4, hp4⟩ : ∃ z, z = xs (i + nI 4).toNatClampNeg := ⟨_, rfl⟩
  obtain ⟨p5, hp5⟩ : ∃ z, z = xs (i + nI 5).toNatClampNeg := ⟨_, rfl⟩
  obtain ⟨p6, hp6⟩ : ∃ z, z = xs (i + nI 6).toNatClampNeg := ⟨_, rfl⟩
  obtain ⟨ec, t, r, μ1, w, ν, z0, hM, z1, z2, z3, z4⟩ := s_lease h hj p1 p2 p3 p4 p5 p6
  have ht4 : t < 4 := lw_t4 hM (by decide)
  refine gq_lv (lv' := [(4, .int i), (3, .ref (eB E + 311)), (2, .ref (eB E + 295)), (1, .ref (eB E + 0)), (0, .ref b)]) rfl ?_
  refine gq_aload_n (i := 1) C dL_law_2187 rfl 3 rfl ?_
  refine gq_arg (v := nI 1) C X (hi 1 (by decide)) hp1.symm 4 0 rfl rfl (by decide) dL_law_2188 dL_law_2189 dL_law_2191 dL_law_2192 dL_law_2193 ?_
  refine gq_arg (v := nI 2) C X (hi 2 (by decide)) hp2.symm 4 0 rfl rfl (by decide) dL_law_2194 dL_law_2195 dL_law_2197 dL_law_2198 dL_law_2199 ?_
  refine gq_arg (v := nI 3) C X (hi 3 (by decide)) hp3.symm 4 0 rfl rfl (by decide) dL_law_2200 dL_law_2201 dL_law_2203 dL_law_2204 dL_law_2205 ?_
  refine gq_arg (v := nI 4) C X (hi 4 (by decide)) hp4.symm 4 0 rfl rfl (by decide) dL_law_2206 dL_law_2207 dL_law_2209 dL_law_2210 dL_law_2211 ?_
  refine gq_arg (v := nI 5) C X (hi 5 (by decide)) hp5.symm 4 0 rfl rfl (by decide) dL_law_2212 dL_law_2213 dL_law_2215 dL_law_2216 dL_law_2217 ?_
  refine gq_argB (v := nI 6) C X (hi 6 (by decide)) hp6.symm 4 0 rfl rfl (by decide) dL_law_2218 dL_law_2219 dL_law_2221 dL_law_2223 dL_law_2224 ?_
  refine gq_aload_n (i := 3) C dL_law_2225 rfl 1 rfl ?_
  refine gq_call (run_SW (rest := []) (As := [.ref (eB E + 0), .int p1, .int p2, .int p3, .int p4, .int p5, .int p6, .ref (eB E + 311)]) C (c_L_lease hN hl9 z0 hM) wk_6_72 wk_6_73 wk_1_0 wk_6_74 hd_L_lease ⟨(Nat.le_of_ble_eq_true rfl), (Nat.le_of_ble_eq_true rfl)⟩ (Nat.le_of_ble_eq_true rfl) (lw_hf (by omega) (by omega) rfl) dL_law_2226 rfl) rfl ?_
  refine gq_istore (lv' := [(5, .int (nI t)), (4, .int i), (3, .ref (eB E + 311)), (2, .ref (eB E + 295)), (1, .ref (eB E + 0)), (0, .ref b)]) C dL_law_2229 (by decide) rfl ?_
  refine gq_aload_n (i := 2) C dL_law_2231 rfl 3 rfl ?_
  refine gq_arg (v := nI 1) C X (hi 1 (by decide)) hp1.symm 5 1 rfl rfl (by decide) dL_law_2232 dL_law_2233 dL_law_2235 dL_law_2236 dL_law_2237 ?_
  refine gq_arg (v := nI 2) C X (hi 2 (by decide)) hp2.symm 5 1 rfl rfl (by decide) dL_law_2238 dL_law_2239 dL_law_2241 dL_law_2242 dL_law_2243 ?_
  refine gq_arg (v := nI 3) C X (hi 3 (by decide)) hp3.symm 5 1 rfl rfl (by decide) dL_law_2244 dL_law_2245 dL_law_2247 dL_law_2248 dL_law_2249 ?_
  refine gq_arg (v := nI 4) C X (hi 4 (by decide)) hp4.symm 5 1 rfl rfl (by decide) dL_law_2250 dL_law_2251 dL_law_2253 dL_law_2254 dL_law_2255 ?_
  refine gq_arg (v := nI 5) C X (hi 5 (by decide)) hp5.symm 5 1 rfl rfl (by decide) dL_law_2256 dL_law_2257 dL_law_2259 dL_law_2260 dL_law_2261 ?_
  refine gq_argB (v := nI 6) C X (hi 6 (by decide)) hp6.symm 5 1 rfl rfl (by decide) dL_law_2262 dL_law_2263 dL_law_2265 dL_law_2267 dL_law_2268 ?_
  refine gq_V (As := [.int p1, .int p2, .int p3, .int p4, .int p5, .int p6]) (rest := []) (j := 5) C (c_X4_lease hN3 z1) (qn_m 295 (by decide) hN3) (by decide) (by decide) rfl wk_8_180 wk_8_181 wk_8_182 wk_1_9 wk_8_183 hd_X4_lease ⟨(Nat.le_of_ble_eq_true rfl), (Nat.le_of_ble_eq_true rfl)⟩ (Nat.le_of_ble_eq_true rfl) (lw_hf (lw_b1 hK rfl) (lw_c1 hS rfl) rfl) dL_law_2269 rfl rfl ?_
  refine gq_istore (lv' := [(6, .int w), (5, .int (nI t)), (4, .int i), (3, .ref (eB E + 311)), (2, .ref (eB E + 295)), (1, .ref (eB E + 0)), (0, .ref b)]) C dL_law_2272 (by decide) rfl ?_
  refine gq_aload_n (i := 2) C dL_law_2274 rfl 4 rfl ?_
  refine gq_V (As := []) (rest := []) (j := 5) C (c_X4_thrown hN3 (r := nI t) (congrArg some z2)) (qn_m 295 (by decide) hN3) (by decide) (by decide) rfl wk_7_13 wk_7_14 wk_7_15 wk_1_9 wk_7_16 hd_X4_thrown ⟨(Nat.le_of_ble_eq_true rfl), (Nat.le_of_ble_eq_true rfl)⟩ (Nat.le_of_ble_eq_true rfl) (lw_hf (lw_b2 hK rfl) (lw_c2 hS rfl) rfl) dL_law_2275 rfl rfl ?_
  refine gq_iload (i := 5) C dL_law_2278 1 rfl ?_
  refine gq_icmp_eq_t (tgt := 2285) C dL_law_2280 (by decide) rfl ?_
  refine gq_iload (i := 5) C dL_law_2285 1 rfl ?_
  by_cases ht : t = 0
  · refine gq_if_ne_f (tgt := 2302) C dL_law_2287 (by decide) (by rw [ht]; rfl) ?_
    refine gq_aload_n (i := 3) C dL_law_2290 rfl 3 rfl ?_
    refine gq_iconst (v := nI 0) C dL_law_2291 (by decide) ?_
    refine gq_laloadL (x := w.toInt64) C (show 311 < eN E by omega) (by decide +kernel) (lw_out (z3 ht)) dL_law_2292 ?_
    refine gq_iload (i := 6) C dL_law_2293 0 rfl ?_
    refine gq_i2l C dL_law_2295 ?_
    refine gq_lcmp C dL_law_2296 ?_
    refine gq_if_eq_t (tgt := 2302) C dL_law_2297 (by decide) lw_cmp ?_
    refine gq_goto (tgt := 2921) C dL_law_2302 (by decide) ?_
    exact gq_widen (lw_k3 rfl) (lw_n3 rfl) (gq_sub [2, 3, 4, 5, 6] rfl (kk ν z4))
  · refine gq_if_ne_t (tgt := 2302) C dL_law_2287 (by decide) (lw_tn ht4 ht) ?_
    refine gq_goto (tgt := 2921) C dL_law_2302 (by decide) ?_
    exact gq_widen (lw_k3 rfl) (lw_n3 rfl) (gq_sub [2, 3, 4, 5, 6] rfl (kk ν z4))
set_option maxHeartbeats 4000000 in
set_option maxRecDepth 100000 in
theorem cs_44 (C : Cq E p s m args meth c cL_law 9 RL) (X : Sx E s b L xs) (hl9 : l.stackTraces = false) (hN : 312 ≤ eN E) (h : Iv j μ) (hj : j < 512) (hi : ∀ v, v < 7 → vp_in (i + nI v) L) (hK : k ≤ 500000) (hS : n ≤ 6000000) (kk : ∀ μ', Iv (j + 1) μ' → Gq E p l e room_1 s m args below meth c (k + 128) (n + 4096) 9 Q 2921 (lvL E b i) [] μ') : Gq E p l e room_1 s m args below meth c k n 9 Q 2305 (lvL E b i) [] μ := by
  have hN2 : 295 ≤ eN E := by omega
  have hN3 : 311 ≤ eN E := by omega
  obtain ⟨p1, hp1⟩ : ∃ z, z = xs (i + nI 1).toNatClampNeg := ⟨_, rfl⟩
  obtain ⟨ec, t, r, μ1, w, ν, z0, hM, z1, z2, z3, z4⟩ := s_endLease h hj p1
  have ht4 : t < 4 := lw_t4 hM (by decide)
  refine gq_lv (lv' := [(4, .int i), (3, .ref (eB E + 311)), (2, .ref (eB E + 295)), (1, .ref (eB E + 0)), (0, .ref b)]) rfl ?_
  refine gq_aload_n (i := 1) C dL_law_2305 rfl 3 rfl ?_
  refine gq_arg (v := nI 1) C X (hi 1 (by decide)) hp1.symm 4 0 rfl rfl (by decide) dL_law_2306 dL_law_2307 dL_law_2309 dL_law_2310 dL_law_2311 ?_
  refine gq_aload_n (i := 3) C dL_law_2312 rfl 1 rfl ?_
  refine gq_call (run_SW (rest := []) (As := [.ref (eB E + 0), .int p1, .ref (eB E + 311)]) C (c_L_endLease hN hl9 z0 hM) wk_6_80 wk_6_81 wk_1_0 wk_6_82 hd_L_endLease ⟨(Nat.le_of_ble_eq_true rfl), (Nat.le_of_ble_eq_true rfl)⟩ (Nat.le_of_ble_eq_true rfl) (lw_hf (by omega) (by omega) rfl) dL_law_2313 rfl) rfl ?_
  refine gq_istore (lv' := [(5, .int (nI t)), (4, .int i), (3, .ref (eB E + 311)), (2, .ref (eB E + 295)), (1, .ref (eB E + 0)), (0, .ref b)]) C dL_law_2316 (by decide) rfl ?_
  refine gq_aload_n (i := 2) C dL_law_2318 rfl 3 rfl ?_
  refine gq_arg (v := nI 1) C X (hi 1 (by decide)) hp1.symm 5 1 rfl rfl (by decide) dL_law_2319 dL_law_2320 dL_law_2322 dL_law_2323 dL_law_2324 ?_
  refine gq_V (As := [.int p1]) (rest := []) (j := 5) C (c_X4_endLease hN3 z1) (qn_m 295 (by decide) hN3) (by decide) (by decide) rfl wk_8_184 wk_8_185 wk_8_186 wk_1_9 wk_8_187 hd_X4_endLease ⟨(Nat.le_of_ble_eq_true rfl), (Nat.le_of_ble_eq_true rfl)⟩ (Nat.le_of_ble_eq_true rfl) (lw_hf (lw_b1 hK rfl) (lw_c1 hS rfl) rfl) dL_law_2325 rfl rfl ?_
  refine gq_istore (lv' := [(6, .int w), (5, .int (nI t)), (4, .int i), (3, .ref (eB E + 311)), (2, .ref (eB E + 295)), (1, .ref (eB E + 0)), (0, .ref b)]) C dL_law_2328 (by decide) rfl ?_
  refine gq_aload_n (i := 2) C dL_law_2330 rfl 4 rfl ?_
  refine gq_V (As := []) (rest := []) (j := 5) C (c_X4_thrown hN3 (r := nI t) (congrArg some z2)) (qn_m 295 (by decide) hN3) (by decide) (by decide) rfl wk_7_13 wk_7_14 wk_7_15 wk_1_9 wk_7_16 hd_X4_thrown ⟨(Nat.le_of_ble_eq_true rfl), (Nat.le_of_ble_eq_true rfl)⟩ (Nat.le_of_ble_eq_true rfl) (lw_hf (lw_b2 hK rfl) (lw_c2 hS rfl) rfl) dL_law_2331 rfl rfl ?_
  refine gq_iload (i := 5) C dL_law_2334 1 rfl ?_
  refine gq_icmp_eq_t (tgt := 2341) C dL_law_2336 (by decide) rfl ?_
  refine gq_iload (i := 5) C dL_law_2341 1 rfl ?_
  by_cases ht : t = 0
  · refine gq_if_ne_f (tgt := 2358) C dL_law_2343 (by decide) (by rw [ht]; rfl) ?_
    refine gq_aload_n (i := 3) C dL_law_2346 rfl 3 rfl ?_
    refine gq_iconst (v := nI 0) C dL_law_2347 (by decide) ?_
    refine gq_laloadL (x := w.toInt64) C (show 311 < eN E by omega) (by decide +kernel) (lw_out (z3 ht)) dL_law_2348 ?_
    refine gq_iload (i := 6) C dL_law_2349 0 rfl ?_
    refine gq_i2l C dL_law_2351 ?_
    refine gq_lcmp C dL_law_2352 ?_
    refine gq_if_eq_t (tgt := 2358) C dL_law_2353 (by decide) lw_cmp ?_
    refine gq_goto (tgt := 2921) C dL_law_2358 (by decide) ?_
    exact gq_widen (lw_k3 rfl) (lw_n3 rfl) (gq_sub [2, 3, 4, 5, 6] rfl (kk ν z4))
  · refine gq_if_ne_t (tgt := 2358) C dL_law_2343 (by decide) (lw_tn ht4 ht) ?_
    refine gq_goto (tgt := 2921) C dL_law_2358 (by decide) ?_
    exact gq_widen (lw_k3 rfl) (lw_n3 rfl) (gq_sub [2, 3, 4, 5, 6] rfl (kk ν z4))
set_option maxHeartbeats 4000000 in
set_option maxRecDepth 100000 in
theorem cs_45 (C : Cq E p s m args meth c cL_law 9 RL) (X : Sx E s b L xs) (hl9 : l.stackTraces = false) (hN : 312 ≤ eN E) (h : Iv j μ) (hj : j < 512) (hi : ∀ v, v < 7 → vp_in (i + nI v) L) (hK : k ≤ 500000) (hS : n ≤ 6000000) (kk : ∀ μ', Iv (j + 1) μ' → Gq E p l e room_1 s m args below meth c (k + 128) (n + 4096) 9 Q 2921 (lvL E b i) [] μ') : Gq E p l e room_1 s m args below meth c k n 9 Q 2361 (lvL E b i) [] μ := by
  have hN2 : 295 ≤ eN E := by omega
  have hN3 : 311 ≤ eN E := by omega
  obtain ⟨p1, hp1⟩ : ∃ z, z = xs (i + nI 1).toNatClampNeg := ⟨_, rfl⟩
  obtain ⟨p2, hp2⟩ : ∃ z, z = xs (i + nI 2).toNatClampNeg := ⟨_, rfl⟩
  obtain ⟨p3, hp3⟩ : ∃ z, z = xs (i + nI 3).toNatClampNeg := ⟨_, rfl⟩
  obtain ⟨ec, t, r, μ1, w, ν, z0, hM, z1, z2, z3, z4⟩ := s_release h hj p1 p2 p3
  have ht4 : t < 4 := lw_t4 hM (by decide)
  refine gq_lv (lv' := [(4, .int i), (3, .ref (eB E + 311)), (2, .ref (eB E + 295)), (1, .ref (eB E + 0)), (0, .ref b)]) rfl ?_
  refine gq_aload_n (i := 1) C dL_law_2361 rfl 3 rfl ?_
  refine gq_arg (v := nI 1) C X (hi 1 (by decide)) hp1.symm 4 0 rfl rfl (by decide) dL_law_2362 dL_law_2363 dL_law_2365 dL_law_2366 dL_law_2367 ?_
  refine gq_arg (v := nI 2) C X (hi 2 (by decide)) hp2.symm 4 0 rfl rfl (by decide) dL_law_2368 dL_law_2369 dL_law_2371 dL_law_2372 dL_law_2373 ?_
  refine gq_arg (v := nI 3) C X (hi 3 (by decide)) hp3.symm 4 0 rfl rfl (by decide) dL_law_2374 dL_law_2375 dL_law_2377 dL_law_2378 dL_law_2379 ?_
  refine gq_aload_n (i := 3) C dL_law_2380 rfl 1 rfl ?_
  refine gq_call (run_SW (rest := []) (As := [.ref (eB E + 0), .int p1, .int p2, .int p3, .ref (eB E + 311)]) C (c_L_release hN hl9 z0 hM) wk_6_88 wk_6_89 wk_1_0 wk_6_90 hd_L_release ⟨(Nat.le_of_ble_eq_true rfl), (Nat.le_of_ble_eq_true rfl)⟩ (Nat.le_of_ble_eq_true rfl) (lw_hf (by omega) (by omega) rfl) dL_law_2381 rfl) rfl ?_
  refine gq_istore (lv' := [(5, .int (nI t)), (4, .int i), (3, .ref (eB E + 311)), (2, .ref (eB E + 295)), (1, .ref (eB E + 0)), (0, .ref b)]) C dL_law_2384 (by decide) rfl ?_
  refine gq_aload_n (i := 2) C dL_law_2386 rfl 3 rfl ?_
  refine gq_arg (v := nI 1) C X (hi 1 (by decide)) hp1.symm 5 1 rfl rfl (by decide) dL_law_2387 dL_law_2388 dL_law_2390 dL_law_2391 dL_law_2392 ?_
  refine gq_arg (v := nI 2) C X (hi 2 (by decide)) hp2.symm 5 1 rfl rfl (by decide) dL_law_2393 dL_law_2394 dL_law_2396 dL_law_2397 dL_law_2398 ?_
  refine gq_arg (v := nI 3) C X (hi 3 (by decide)) hp3.symm 5 1 rfl rfl (by decide) dL_law_2399 dL_law_2400 dL_law_2402 dL_law_2403 dL_law_2404 ?_
  refine gq_V (As := [.int p1, .int p2, .int p3]) (rest := []) (j := 5) C (c_X4_release hN3 z1) (qn_m 295 (by decide) hN3) (by decide) (by decide) rfl wk_8_188 wk_8_189 wk_8_190 wk_1_9 wk_8_191 hd_X4_release ⟨(Nat.le_of_ble_eq_true rfl), (Nat.le_of_ble_eq_true rfl)⟩ (Nat.le_of_ble_eq_true rfl) (lw_hf (lw_b1 hK rfl) (lw_c1 hS rfl) rfl) dL_law_2405 rfl rfl ?_
  refine gq_istore (lv' := [(6, .int w), (5, .int (nI t)), (4, .int i), (3, .ref (eB E + 311)), (2, .ref (eB E + 295)), (1, .ref (eB E + 0)), (0, .ref b)]) C dL_law_2408 (by decide) rfl ?_
  refine gq_aload_n (i := 2) C dL_law_2410 rfl 4 rfl ?_
  refine gq_V (As := []) (rest := []) (j := 5) C (c_X4_thrown hN3 (r := nI t) (congrArg some z2)) (qn_m 295 (by decide) hN3) (by decide) (by decide) rfl wk_7_13 wk_7_14 wk_7_15 wk_1_9 wk_7_16 hd_X4_thrown ⟨(Nat.le_of_ble_eq_true rfl), (Nat.le_of_ble_eq_true rfl)⟩ (Nat.le_of_ble_eq_true rfl) (lw_hf (lw_b2 hK rfl) (lw_c2 hS rfl) rfl) dL_law_2411 rfl rfl ?_
  refine gq_iload (i := 5) C dL_law_2414 1 rfl ?_
  refine gq_icmp_eq_t (tgt := 2421) C dL_law_2416 (by decide) rfl ?_
  refine gq_iload (i := 5) C dL_law_2421 1 rfl ?_
  by_cases ht : t = 0
  · refine gq_if_ne_f (tgt := 2438) C dL_law_2423 (by decide) (by rw [ht]; rfl) ?_
    refine gq_aload_n (i := 3) C dL_law_2426 rfl 3 rfl ?_
    refine gq_iconst (v := nI 0) C dL_law_2427 (by decide) ?_
    refine gq_laloadL (x := w.toInt64) C (show 311 < eN E by omega) (by decide +kernel) (lw_out (z3 ht)) dL_law_2428 ?_
    refine gq_iload (i := 6) C dL_law_2429 0 rfl ?_
    refine gq_i2l C dL_law_2431 ?_
    refine gq_lcmp C dL_law_2432 ?_
    refine gq_if_eq_t (tgt := 2438) C dL_law_2433 (by decide) lw_cmp ?_
    refine gq_goto (tgt := 2921) C dL_law_2438 (by decide) ?_
    exact gq_widen (lw_k3 rfl) (lw_n3 rfl) (gq_sub [2, 3, 4, 5, 6] rfl (kk ν z4))
  · refine gq_if_ne_t (tgt := 2438) C dL_law_2423 (by decide) (lw_tn ht4 ht) ?_
    refine gq_goto (tgt := 2921) C dL_law_2438 (by decide) ?_
    exact gq_widen (lw_k3 rfl) (lw_n3 rfl) (gq_sub [2, 3, 4, 5, 6] rfl (kk ν z4))
set_option maxHeartbeats 4000000 in
set_option maxRecDepth 100000 in
theorem cs_46 (C : Cq E p s m args meth c cL_law 9 RL) (X : Sx E s b L xs) (hl9 : l.stackTraces = false) (hN : 312 ≤ eN E) (h : Iv j μ) (hj : j < 512) (hi : ∀ v, v < 7 → vp_in (i + nI v) L) (hK : k ≤ 500000) (hS : n ≤ 6000000) (kk : ∀ μ', Iv (j + 1) μ' → Gq E p l e room_1 s m args below meth c (k + 128) (n + 4096) 9 Q 2921 (lvL E b i) [] μ') : Gq E p l e room_1 s m args below meth c k n 9 Q 2441 (lvL E b i) [] μ := by
  have hN2 : 295 ≤ eN E := by omega
  have hN3 : 311 ≤ eN E := by omega
  obtain ⟨p1, hp1⟩ : ∃ z, z = xs (i + nI 1).toNatClampNeg := ⟨_, rfl⟩
  obtain ⟨p2, hp2⟩ : ∃ z, z = xs (i + nI 2).toNatClampNeg := ⟨_, rfl⟩
  obtain ⟨ec, t, r, μ1, w, ν, z0, hM, z1, z2, z3, z4⟩ := s_setKeep h hj p1 p2
  have ht4 : t < 4 := lw_t4 hM (by decide)
  refine gq_lv (lv' := [(4, .int i), (3, .ref (eB E + 311)), (2, .ref (eB E + 295)), (1, .ref (eB E + 0)), (0, .ref b)]) rfl ?_
  refine gq_aload_n (i := 1) C dL_law_2441 rfl 3 rfl ?_
  refine gq_arg (v := nI 1) C X (hi 1 (by decide)) hp1.symm 4 0 rfl rfl (by decide) dL_law_2442 dL_law_2443 dL_law_2445 dL_law_2446 dL_law_2447 ?_
  refine gq_arg (v := nI 2) C X (hi 2 (by decide)) hp2.symm 4 0 rfl rfl (by decide) dL_law_2448 dL_law_2449 dL_law_2451 dL_law_2452 dL_law_2453 ?_
  refine gq_aload_n (i := 3) C dL_law_2454 rfl 1 rfl ?_
  refine gq_call (run_SW (rest := []) (As := [.ref (eB E + 0), .int p1, .int p2, .ref (eB E + 311)]) C (c_L_setKeep hN hl9 z0 hM) wk_6_97 wk_6_98 wk_1_0 wk_6_99 hd_L_setKeep ⟨(Nat.le_of_ble_eq_true rfl), (Nat.le_of_ble_eq_true rfl)⟩ (Nat.le_of_ble_eq_true rfl) (lw_hf (by omega) (by omega) rfl) dL_law_2455 rfl) rfl ?_
  refine gq_istore (lv' := [(5, .int (nI t)), (4, .int i), (3, .ref (eB E + 311)), (2, .ref (eB E + 295)), (1, .ref (eB E + 0)), (0, .ref b)]) C dL_law_2458 (by decide) rfl ?_
  refine gq_aload_n (i := 2) C dL_law_2460 rfl 3 rfl ?_
  refine gq_arg (v := nI 1) C X (hi 1 (by decide)) hp1.symm 5 1 rfl rfl (by decide) dL_law_2461 dL_law_2462 dL_law_2464 dL_law_2465 dL_law_2466 ?_
  refine gq_arg (v := nI 2) C X (hi 2 (by decide)) hp2.symm 5 1 rfl rfl (by decide) dL_law_2467 dL_law_2468 dL_law_2470 dL_law_2471 dL_law_2472 ?_
  refine gq_V (As := [.int p1, .int p2]) (rest := []) (j := 5) C (c_X4_setKeep hN3 z1) (qn_m 295 (by decide) hN3) (by decide) (by decide) rfl wk_8_192 wk_8_193 wk_8_194 wk_1_9 wk_8_195 hd_X4_setKeep ⟨(Nat.le_of_ble_eq_true rfl), (Nat.le_of_ble_eq_true rfl)⟩ (Nat.le_of_ble_eq_true rfl) (lw_hf (lw_b1 hK rfl) (lw_c1 hS rfl) rfl) dL_law_2473 rfl rfl ?_
  refine gq_istore (lv' := [(6, .int w), (5, .int (nI t)), (4, .int i), (3, .ref (eB E + 311)), (2, .ref (eB E + 295)), (1, .ref (eB E + 0)), (0, .ref b)]) C dL_law_2476 (by decide) rfl ?_
  refine gq_aload_n (i := 2) C dL_law_2478 rfl 4 rfl ?_
  refine gq_V (As := []) (rest := []) (j := 5) C (c_X4_thrown hN3 (r := nI t) (congrArg some z2)) (qn_m 295 (by decide) hN3) (by decide) (by decide) rfl wk_7_13 wk_7_14 wk_7_15 wk_1_9 wk_7_16 hd_X4_thrown ⟨(Nat.le_of_ble_eq_true rfl), (Nat.le_of_ble_eq_true rfl)⟩ (Nat.le_of_ble_eq_true rfl) (lw_hf (lw_b2 hK rfl) (lw_c2 hS rfl) rfl) dL_law_2479 rfl rfl ?_
  refine gq_iload (i := 5) C dL_law_2482 1 rfl ?_
  refine gq_icmp_eq_t (tgt := 2489) C dL_law_2484 (by decide) rfl ?_
  refine gq_iload (i := 5) C dL_law_2489 1 rfl ?_
  by_cases ht : t = 0
  · refine gq_if_ne_f (tgt := 2506) C dL_law_2491 (by decide) (by rw [ht]; rfl) ?_
    refine gq_aload_n (i := 3) C dL_law_2494 rfl 3 rfl ?_
    refine gq_iconst (v := nI 0) C dL_law_2495 (by decide) ?_
    refine gq_laloadL (x := w.toInt64) C (show 311 < eN E by omega) (by decide +kernel) (lw_out (z3 ht)) dL_law_2496 ?_
    refine gq_iload (i := 6) C dL_law_2497 0 rfl ?_
    refine gq_i2l C dL_law_2499 ?_
    refine gq_lcmp C dL_law_2500 ?_
    refine gq_if_eq_t (tgt := 2506) C dL_law_2501 (by decide) lw_cmp ?_
    refine gq_goto (tgt := 2921) C dL_law_2506 (by decide) ?_
    exact gq_widen (lw_k3 rfl) (lw_n3 rfl) (gq_sub [2, 3, 4, 5, 6] rfl (kk ν z4))
  · refine gq_if_ne_t (tgt := 2506) C dL_law_2491 (by decide) (lw_tn ht4 ht) ?_
    refine gq_goto (tgt := 2921) C dL_law_2506 (by decide) ?_
    exact gq_widen (lw_k3 rfl) (lw_n3 rfl) (gq_sub [2, 3, 4, 5, 6] rfl (kk ν z4))
set_option maxHeartbeats 4000000 in
set_option maxRecDepth 100000 in
theorem cs_47 (C : Cq E p s m args meth c cL_law 9 RL) (X : Sx E s b L xs) (hl9 : l.stackTraces = false) (hN : 312 ≤ eN E) (h : Iv j μ) (hj : j < 512) (hi : ∀ v, v < 7 → vp_in (i + nI v) L) (hK : k ≤ 500000) (hS : n ≤ 6000000) (kk : ∀ μ', Iv (j + 1) μ' → Gq E p l e room_1 s m args below meth c (k + 128) (n + 4096) 9 Q 2921 (lvL E b i) [] μ') : Gq E p l e room_1 s m args below meth c k n 9 Q 2509 (lvL E b i) [] μ := by
  have hN2 : 295 ≤ eN E := by omega
  have hN3 : 311 ≤ eN E := by omega
  obtain ⟨p1, hp1⟩ : ∃ z, z = xs (i + nI 1).toNatClampNeg := ⟨_, rfl⟩
  obtain ⟨p2, hp2⟩ : ∃ z, z = xs (i + nI 2).toNatClampNeg := ⟨_, rfl⟩
  obtain ⟨ec, t, r, μ1, w, ν, z0, hM, z1, z2, z3, z4⟩ := s_setMinimum h hj p1 p2
  have ht4 : t < 4 := lw_t4 hM (by decide)
  refine gq_lv (lv' := [(4, .int i), (3, .ref (eB E + 311)), (2, .ref (eB E + 295)), (1, .ref (eB E + 0)), (0, .ref b)]) rfl ?_
  refine gq_aload_n (i := 1) C dL_law_2509 rfl 3 rfl ?_
  refine gq_arg (v := nI 1) C X (hi 1 (by decide)) hp1.symm 4 0 rfl rfl (by decide) dL_law_2510 dL_law_2511 dL_law_2513 dL_law_2514 dL_law_2515 ?_
  refine gq_arg (v := nI 2) C X (hi 2 (by decide)) hp2.symm 4 0 rfl rfl (by decide) dL_law_2516 dL_law_2517 dL_law_2519 dL_law_2520 dL_law_2521 ?_
  refine gq_aload_n (i := 3) C dL_law_2522 rfl 1 rfl ?_
  refine gq_call (run_SW (rest := []) (As := [.ref (eB E + 0), .int p1, .int p2, .ref (eB E + 311)]) C (c_L_setMinimum hN hl9 z0 hM) wk_6_105 wk_6_106 wk_1_0 wk_6_107 hd_L_setMinimum ⟨(Nat.le_of_ble_eq_true rfl), (Nat.le_of_ble_eq_true rfl)⟩ (Nat.le_of_ble_eq_true rfl) (lw_hf (by omega) (by omega) rfl) dL_law_2523 rfl) rfl ?_
  refine gq_istore (lv' := [(5, .int (nI t)), (4, .int i), (3, .ref (eB E + 311)), (2, .ref (eB E + 295)), (1, .ref (eB E + 0)), (0, .ref b)]) C dL_law_2526 (by decide) rfl ?_
  refine gq_aload_n (i := 2) C dL_law_2528 rfl 3 rfl ?_
  refine gq_arg (v := nI 1) C X (hi 1 (by decide)) hp1.symm 5 1 rfl rfl (by decide) dL_law_2529 dL_law_2530 dL_law_2532 dL_law_2533 dL_law_2534 ?_
  refine gq_arg (v := nI 2) C X (hi 2 (by decide)) hp2.symm 5 1 rfl rfl (by decide) dL_law_2535 dL_law_2536 dL_law_2538 dL_law_2539 dL_law_2540 ?_
  refine gq_V (As := [.int p1, .int p2]) (rest := []) (j := 5) C (c_X4_setMinimum hN3 z1) (qn_m 295 (by decide) hN3) (by decide) (by decide) rfl wk_8_200 wk_8_201 wk_8_202 wk_1_9 wk_8_203 hd_X4_setMinimum ⟨(Nat.le_of_ble_eq_true rfl), (Nat.le_of_ble_eq_true rfl)⟩ (Nat.le_of_ble_eq_true rfl) (lw_hf (lw_b1 hK rfl) (lw_c1 hS rfl) rfl) dL_law_2541 rfl rfl ?_
  refine gq_istore (lv' := [(6, .int w), (5, .int (nI t)), (4, .int i), (3, .ref (eB E + 311)), (2, .ref (eB E + 295)), (1, .ref (eB E + 0)), (0, .ref b)]) C dL_law_2544 (by decide) rfl ?_
  refine gq_aload_n (i := 2) C dL_law_2546 rfl 4 rfl ?_
  refine gq_V (As := []) (rest := []) (j := 5) C (c_X4_thrown hN3 (r := nI t) (congrArg some z2)) (qn_m 295 (by decide) hN3) (by decide) (by decide) rfl wk_7_13 wk_7_14 wk_7_15 wk_1_9 wk_7_16 hd_X4_thrown ⟨(Nat.le_of_ble_eq_true rfl), (Nat.le_of_ble_eq_true rfl)⟩ (Nat.le_of_ble_eq_true rfl) (lw_hf (lw_b2 hK rfl) (lw_c2 hS rfl) rfl) dL_law_2547 rfl rfl ?_
  refine gq_iload (i := 5) C dL_law_2550 1 rfl ?_
  refine gq_icmp_eq_t (tgt := 2557) C dL_law_2552 (by decide) rfl ?_
  refine gq_iload (i := 5) C dL_law_2557 1 rfl ?_
  by_cases ht : t = 0
  · refine gq_if_ne_f (tgt := 2574) C dL_law_2559 (by decide) (by rw [ht]; rfl) ?_
    refine gq_aload_n (i := 3) C dL_law_2562 rfl 3 rfl ?_
    refine gq_iconst (v := nI 0) C dL_law_2563 (by decide) ?_
    refine gq_laloadL (x := w.toInt64) C (show 311 < eN E by omega) (by decide +kernel) (lw_out (z3 ht)) dL_law_2564 ?_
    refine gq_iload (i := 6) C dL_law_2565 0 rfl ?_
    refine gq_i2l C dL_law_2567 ?_
    refine gq_lcmp C dL_law_2568 ?_
    refine gq_if_eq_t (tgt := 2574) C dL_law_2569 (by decide) lw_cmp ?_
    refine gq_goto (tgt := 2921) C dL_law_2574 (by decide) ?_
    exact gq_widen (lw_k3 rfl) (lw_n3 rfl) (gq_sub [2, 3, 4, 5, 6] rfl (kk ν z4))
  · refine gq_if_ne_t (tgt := 2574) C dL_law_2559 (by decide) (lw_tn ht4 ht) ?_
    refine gq_goto (tgt := 2921) C dL_law_2574 (by decide) ?_
    exact gq_widen (lw_k3 rfl) (lw_n3 rfl) (gq_sub [2, 3, 4, 5, 6] rfl (kk ν z4))
set_option maxHeartbeats 4000000 in
set_option maxRecDepth 100000 in
theorem cs_48 (C : Cq E p s m args meth c cL_law 9 RL) (X : Sx E s b L xs) (hl9 : l.stackTraces = false) (hN : 312 ≤ eN E) (h : Iv j μ) (hj : j < 512) (hi : ∀ v, v < 7 → vp_in (i + nI v) L) (hK : k ≤ 500000) (hS : n ≤ 6000000) (kk : ∀ μ', Iv (j + 1) μ' → Gq E p l e room_1 s m args below meth c (k + 128) (n + 4096) 9 Q 2921 (lvL E b i) [] μ') : Gq E p l e room_1 s m args below meth c k n 9 Q 2577 (lvL E b i) [] μ := by
  have hN2 : 295 ≤ eN E := by omega
  have hN3 : 311 ≤ eN E := by omega
  obtain ⟨p1, hp1⟩ : ∃ z, z = xs (i + nI 1).toNatClampNeg := ⟨_, rfl⟩
  obtain ⟨p2, hp2⟩ : ∃ z, z = xs (i + nI 2).toNatClampNeg := ⟨_, rfl⟩
  obtain ⟨p3, hp3⟩ : ∃ z, z = xs (i + nI 3).toNatClampNeg := ⟨_, rfl⟩
  obtain ⟨ec, t, r, μ1, w, ν, z0, hM, z1, z2, z3, z4⟩ := s_transfer h hj p1 p2 p3
  have ht4 : t < 4 := lw_t4 hM (by decide)
  refine gq_lv (lv' := [(4, .int i), (3, .ref (eB E + 311)), (2, .ref (eB E + 295)), (1, .ref (eB E + 0)), (0, .ref b)]) rfl ?_
  refine gq_aload_n (i := 1) C dL_law_2577 rfl 3 rfl ?_
  refine gq_arg (v := nI 1) C X (hi 1 (by decide)) hp1.symm 4 0 rfl rfl (by decide) dL_law_2578 dL_law_2579 dL_law_2581 dL_law_2582 dL_law_2583 ?_
  refine gq_arg (v := nI 2) C X (hi 2 (by decide)) hp2.symm 4 0 rfl rfl (by decide) dL_law_2584 dL_law_2585 dL_law_2587 dL_law_2588 dL_law_2589 ?_
  refine gq_arg (v := nI 3) C X (hi 3 (by decide)) hp3.symm 4 0 rfl rfl (by decide) dL_law_2590 dL_law_2591 dL_law_2593 dL_law_2594 dL_law_2595 ?_
  refine gq_aload_n (i := 3) C dL_law_2596 rfl 1 rfl ?_
  refine gq_call (run_SW (rest := []) (As := [.ref (eB E + 0), .int p1, .int p2, .int p3, .ref (eB E + 311)]) C (c_L_transfer hN hl9 z0 hM) wk_6_112 wk_6_113 wk_1_0 wk_6_114 hd_L_transfer ⟨(Nat.le_of_ble_eq_true rfl), (Nat.le_of_ble_eq_true rfl)⟩ (Nat.le_of_ble_eq_true rfl) (lw_hf (by omega) (by omega) rfl) dL_law_2597 rfl) rfl ?_
  refine gq_istore (lv' := [(5, .int (nI t)), (4, .int i), (3, .ref (eB E + 311)), (2, .ref (eB E + 295)), (1, .ref (eB E + 0)), (0, .ref b)]) C dL_law_2600 (by decide) rfl ?_
  refine gq_aload_n (i := 2) C dL_law_2602 rfl 3 rfl ?_
  refine gq_arg (v := nI 1) C X (hi 1 (by decide)) hp1.symm 5 1 rfl rfl (by decide) dL_law_2603 dL_law_2604 dL_law_2606 dL_law_2607 dL_law_2608 ?_
  refine gq_arg (v := nI 2) C X (hi 2 (by decide)) hp2.symm 5 1 rfl rfl (by decide) dL_law_2609 dL_law_2610 dL_law_2612 dL_law_2613 dL_law_2614 ?_
  refine gq_arg (v := nI 3) C X (hi 3 (by decide)) hp3.symm 5 1 rfl rfl (by decide) dL_law_2615 dL_law_2616 dL_law_2618 dL_law_2619 dL_law_2620 ?_
  refine gq_V (As := [.int p1, .int p2, .int p3]) (rest := []) (j := 5) C (c_X4_transfer hN3 z1) (qn_m 295 (by decide) hN3) (by decide) (by decide) rfl wk_8_204 wk_8_205 wk_8_206 wk_1_9 wk_8_207 hd_X4_transfer ⟨(Nat.le_of_ble_eq_true rfl), (Nat.le_of_ble_eq_true rfl)⟩ (Nat.le_of_ble_eq_true rfl) (lw_hf (lw_b1 hK rfl) (lw_c1 hS rfl) rfl) dL_law_2621 rfl rfl ?_
  refine gq_istore (lv' := [(6, .int w), (5, .int (nI t)), (4, .int i), (3, .ref (eB E + 311)), (2, .ref (eB E + 295)), (1, .ref (eB E + 0)), (0, .ref b)]) C dL_law_2624 (by decide) rfl ?_
  refine gq_aload_n (i := 2) C dL_law_2626 rfl 4 rfl ?_
  refine gq_V (As := []) (rest := []) (j := 5) C (c_X4_thrown hN3 (r := nI t) (congrArg some z2)) (qn_m 295 (by decide) hN3) (by decide) (by decide) rfl wk_7_13 wk_7_14 wk_7_15 wk_1_9 wk_7_16 hd_X4_thrown ⟨(Nat.le_of_ble_eq_true rfl), (Nat.le_of_ble_eq_true rfl)⟩ (Nat.le_of_ble_eq_true rfl) (lw_hf (lw_b2 hK rfl) (lw_c2 hS rfl) rfl) dL_law_2627 rfl rfl ?_
  refine gq_iload (i := 5) C dL_law_2630 1 rfl ?_
  refine gq_icmp_eq_t (tgt := 2637) C dL_law_2632 (by decide) rfl ?_
  refine gq_iload (i := 5) C dL_law_2637 1 rfl ?_
  by_cases ht : t = 0
  · refine gq_if_ne_f (tgt := 2654) C dL_law_2639 (by decide) (by rw [ht]; rfl) ?_
    refine gq_aload_n (i := 3) C dL_law_2642 rfl 3 rfl ?_
    refine gq_iconst (v := nI 0) C dL_law_2643 (by decide) ?_
    refine gq_laloadL (x := w.toInt64) C (show 311 < eN E by omega) (by decide +kernel) (lw_out (z3 ht)) dL_law_2644 ?_
    refine gq_iload (i := 6) C dL_law_2645 0 rfl ?_
    refine gq_i2l C dL_law_2647 ?_
    refine gq_lcmp C dL_law_2648 ?_
    refine gq_if_eq_t (tgt := 2654) C dL_law_2649 (by decide) lw_cmp ?_
    refine gq_goto (tgt := 2921) C dL_law_2654 (by decide) ?_
    exact gq_widen (lw_k3 rfl) (lw_n3 rfl) (gq_sub [2, 3, 4, 5, 6] rfl (kk ν z4))
  · refine gq_if_ne_t (tgt := 2654) C dL_law_2639 (by decide) (lw_tn ht4 ht) ?_
    refine gq_goto (tgt := 2921) C dL_law_2654 (by decide) ?_
    exact gq_widen (lw_k3 rfl) (lw_n3 rfl) (gq_sub [2, 3, 4, 5, 6] rfl (kk ν z4))
set_option maxHeartbeats 4000000 in
set_option maxRecDepth 100000 in
theorem cs_49 (C : Cq E p s m args meth c cL_law 9 RL) (X : Sx E s b L xs) (hl9 : l.stackTraces = false) (hN : 312 ≤ eN E) (h : Iv j μ) (hj : j < 512) (hi : ∀ v, v < 7 → vp_in (i + nI v) L) (hK : k ≤ 500000) (hS : n ≤ 6000000) (kk : ∀ μ', Iv (j + 1) μ' → Gq E p l e room_1 s m args below meth c (k + 128) (n + 4096) 9 Q 2921 (lvL E b i) [] μ') : Gq E p l e room_1 s m args below meth c k n 9 Q 2657 (lvL E b i) [] μ := by
  have hN2 : 295 ≤ eN E := by omega
  have hN3 : 311 ≤ eN E := by omega
  obtain ⟨p1, hp1⟩ : ∃ z, z = xs (i + nI 1).toNatClampNeg := ⟨_, rfl⟩
  obtain ⟨p2, hp2⟩ : ∃ z, z = xs (i + nI 2).toNatClampNeg := ⟨_, rfl⟩
  obtain ⟨ec, t, r, μ1, w, ν, z0, hM, z1, z2, z3, z4⟩ := s_swap h hj p1 p2
  have ht4 : t < 4 := lw_t4 hM (by decide)
  refine gq_lv (lv' := [(4, .int i), (3, .ref (eB E + 311)), (2, .ref (eB E + 295)), (1, .ref (eB E + 0)), (0, .ref b)]) rfl ?_
  refine gq_aload_n (i := 1) C dL_law_2657 rfl 3 rfl ?_
  refine gq_arg (v := nI 1) C X (hi 1 (by decide)) hp1.symm 4 0 rfl rfl (by decide) dL_law_2658 dL_law_2659 dL_law_2661 dL_law_2662 dL_law_2663 ?_
  refine gq_arg (v := nI 2) C X (hi 2 (by decide)) hp2.symm 4 0 rfl rfl (by decide) dL_law_2664 dL_law_2665 dL_law_2667 dL_law_2668 dL_law_2669 ?_
  refine gq_aload_n (i := 3) C dL_law_2670 rfl 1 rfl ?_
  refine gq_call (run_SW (rest := []) (As := [.ref (eB E + 0), .int p1, .int p2, .ref (eB E + 311)]) C (c_L_swap hN hl9 z0 hM) wk_6_120 wk_6_121 wk_1_0 wk_6_122 hd_L_swap ⟨(Nat.le_of_ble_eq_true rfl), (Nat.le_of_ble_eq_true rfl)⟩ (Nat.le_of_ble_eq_true rfl) (lw_hf (by omega) (by omega) rfl) dL_law_2671 rfl) rfl ?_
  refine gq_istore (lv' := [(5, .int (nI t)), (4, .int i), (3, .ref (eB E + 311)), (2, .ref (eB E + 295)), (1, .ref (eB E + 0)), (0, .ref b)]) C dL_law_2674 (by decide) rfl ?_
  refine gq_aload_n (i := 2) C dL_law_2676 rfl 3 rfl ?_
  refine gq_arg (v := nI 1) C X (hi 1 (by decide)) hp1.symm 5 1 rfl rfl (by decide) dL_law_2677 dL_law_2678 dL_law_2680 dL_law_2681 dL_law_2682 ?_
  refine gq_arg (v := nI 2) C X (hi 2 (by decide)) hp2.symm 5 1 rfl rfl (by decide) dL_law_2683 dL_law_2684 dL_law_2686 dL_law_2687 dL_law_2688 ?_
  refine gq_V (As := [.int p1, .int p2]) (rest := []) (j := 5) C (c_X4_swap hN3 z1) (qn_m 295 (by decide) hN3) (by decide) (by decide) rfl wk_8_208 wk_8_209 wk_8_210 wk_1_9 wk_8_211 hd_X4_swap ⟨(Nat.le_of_ble_eq_true rfl), (Nat.le_of_ble_eq_true rfl)⟩ (Nat.le_of_ble_eq_true rfl) (lw_hf (lw_b1 hK rfl) (lw_c1 hS rfl) rfl) dL_law_2689 rfl rfl ?_
  refine gq_istore (lv' := [(6, .int w), (5, .int (nI t)), (4, .int i), (3, .ref (eB E + 311)), (2, .ref (eB E + 295)), (1, .ref (eB E + 0)), (0, .ref b)]) C dL_law_2692 (by decide) rfl ?_
  refine gq_aload_n (i := 2) C dL_law_2694 rfl 4 rfl ?_
  refine gq_V (As := []) (rest := []) (j := 5) C (c_X4_thrown hN3 (r := nI t) (congrArg some z2)) (qn_m 295 (by decide) hN3) (by decide) (by decide) rfl wk_7_13 wk_7_14 wk_7_15 wk_1_9 wk_7_16 hd_X4_thrown ⟨(Nat.le_of_ble_eq_true rfl), (Nat.le_of_ble_eq_true rfl)⟩ (Nat.le_of_ble_eq_true rfl) (lw_hf (lw_b2 hK rfl) (lw_c2 hS rfl) rfl) dL_law_2695 rfl rfl ?_
  refine gq_iload (i := 5) C dL_law_2698 1 rfl ?_
  refine gq_icmp_eq_t (tgt := 2705) C dL_law_2700 (by decide) rfl ?_
  refine gq_iload (i := 5) C dL_law_2705 1 rfl ?_
  by_cases ht : t = 0
  · refine gq_if_ne_f (tgt := 2722) C dL_law_2707 (by decide) (by rw [ht]; rfl) ?_
    refine gq_aload_n (i := 3) C dL_law_2710 rfl 3 rfl ?_
    refine gq_iconst (v := nI 0) C dL_law_2711 (by decide) ?_
    refine gq_laloadL (x := w.toInt64) C (show 311 < eN E by omega) (by decide +kernel) (lw_out (z3 ht)) dL_law_2712 ?_
    refine gq_iload (i := 6) C dL_law_2713 0 rfl ?_
    refine gq_i2l C dL_law_2715 ?_
    refine gq_lcmp C dL_law_2716 ?_
    refine gq_if_eq_t (tgt := 2722) C dL_law_2717 (by decide) lw_cmp ?_
    refine gq_goto (tgt := 2921) C dL_law_2722 (by decide) ?_
    exact gq_widen (lw_k3 rfl) (lw_n3 rfl) (gq_sub [2, 3, 4, 5, 6] rfl (kk ν z4))
  · refine gq_if_ne_t (tgt := 2722) C dL_law_2707 (by decide) (lw_tn ht4 ht) ?_
    refine gq_goto (tgt := 2921) C dL_law_2722 (by decide) ?_
    exact gq_widen (lw_k3 rfl) (lw_n3 rfl) (gq_sub [2, 3, 4, 5, 6] rfl (kk ν z4))
set_option maxHeartbeats 4000000 in
set_option maxRecDepth 100000 in
theorem cs_50 (C : Cq E p s m args meth c cL_law 9 RL) (X : Sx E s b L xs) (hl9 : l.stackTraces = false) (hN : 312 ≤ eN E) (h : Iv j μ) (hj : j < 512) (hi : ∀ v, v < 7 → vp_in (i + nI v) L) (hK : k ≤ 500000) (hS : n ≤ 6000000) (kk : ∀ μ', Iv (j + 1) μ' → Gq E p l e room_1 s m args below meth c (k + 128) (n + 4096) 9 Q 2921 (lvL E b i) [] μ') : Gq E p l e room_1 s m args below meth c k n 9 Q 2725 (lvL E b i) [] μ := by
  have hN2 : 295 ≤ eN E := by omega
  have hN3 : 311 ≤ eN E := by omega
  obtain ⟨w, μ1, ν, z0, z1, z4⟩ := s_undo h hj
  refine gq_lv (lv' := [(4, .int i), (3, .ref (eB E + 311)), (2, .ref (eB E + 295)), (1, .ref (eB E + 0)), (0, .ref b)]) rfl ?_
  refine gq_aload_n (i := 1) C dL_law_2725 rfl 3 rfl ?_
  refine gq_V (As := []) (rest := []) (j := 0) C (c_X3_undo hN2 z0) (qn_l 0 (by decide) hN2) (by decide) (by decide) rfl wk_2_129 wk_2_130 wk_2_131 wk_1_1 wk_2_132 hd_X3_undo ⟨(Nat.le_of_ble_eq_true rfl), (Nat.le_of_ble_eq_true rfl)⟩ (Nat.le_of_ble_eq_true rfl) (lw_hf (by omega) (by omega) rfl) dL_law_2726 rfl rfl ?_
  refine gq_aload_n (i := 2) C dL_law_2729 rfl 2 rfl ?_
  refine gq_V (As := []) (rest := [.int w]) (j := 5) C (c_X4_undo hN3 z1) (qn_m 295 (by decide) hN3) (by decide) (by decide) rfl wk_8_220 wk_8_221 wk_8_222 wk_1_9 wk_8_223 hd_X4_undo ⟨(Nat.le_of_ble_eq_true rfl), (Nat.le_of_ble_eq_true rfl)⟩ (Nat.le_of_ble_eq_true rfl) (lw_hf (lw_b1 hK rfl) (lw_c1 hS rfl) rfl) dL_law_2730 rfl rfl ?_
  refine gq_icmp_eq_t (tgt := 2921) C dL_law_2733 (by decide) rfl ?_
  exact gq_widen (lw_k2 rfl) (lw_n2 rfl) (gq_sub [0, 1, 2, 3, 4] rfl (kk ν z4))
set_option maxHeartbeats 4000000 in
set_option maxRecDepth 100000 in
theorem cs_51 (C : Cq E p s m args meth c cL_law 9 RL) (X : Sx E s b L xs) (hl9 : l.stackTraces = false) (hN : 312 ≤ eN E) (h : Iv j μ) (hj : j < 512) (hi : ∀ v, v < 7 → vp_in (i + nI v) L) (hK : k ≤ 500000) (hS : n ≤ 6000000) (kk : ∀ μ', Iv (j + 1) μ' → Gq E p l e room_1 s m args below meth c (k + 128) (n + 4096) 9 Q 2921 (lvL E b i) [] μ') : Gq E p l e room_1 s m args below meth c k n 9 Q 2738 (lvL E b i) [] μ := by
  have hN2 : 295 ≤ eN E := by omega
  have hN3 : 311 ≤ eN E := by omega
  obtain ⟨w, ν, z0, z1, z4⟩ := s_undoDepth h hj
  refine gq_lv (lv' := [(4, .int i), (3, .ref (eB E + 311)), (2, .ref (eB E + 295)), (1, .ref (eB E + 0)), (0, .ref b)]) rfl ?_
  refine gq_aload_n (i := 1) C dL_law_2738 rfl 3 rfl ?_
  refine gq_V (As := []) (rest := []) (j := 0) C (c_X3_undoDepth hN2 z0) (qn_l 0 (by decide) hN2) (by decide) (by decide) rfl wk_2_145 wk_2_146 wk_2_147 wk_1_1 wk_2_148 hd_X3_undoDepth ⟨(Nat.le_of_ble_eq_true rfl), (Nat.le_of_ble_eq_true rfl)⟩ (Nat.le_of_ble_eq_true rfl) (lw_hf (by omega) (by omega) rfl) dL_law_2739 rfl rfl ?_
  refine gq_aload_n (i := 2) C dL_law_2742 rfl 2 rfl ?_
  refine gq_V (As := []) (rest := [.int w]) (j := 5) C (c_X4_undoDepth hN3 z1) (qn_m 295 (by decide) hN3) (by decide) (by decide) rfl wk_8_224 wk_8_225 wk_8_226 wk_1_9 wk_8_227 hd_X4_undoDepth ⟨(Nat.le_of_ble_eq_true rfl), (Nat.le_of_ble_eq_true rfl)⟩ (Nat.le_of_ble_eq_true rfl) (lw_hf (lw_b1 hK rfl) (lw_c1 hS rfl) rfl) dL_law_2743 rfl rfl ?_
  refine gq_icmp_eq_t (tgt := 2921) C dL_law_2746 (by decide) rfl ?_
  exact gq_widen (lw_k2 rfl) (lw_n2 rfl) (gq_sub [0, 1, 2, 3, 4] rfl (kk ν z4))
set_option maxHeartbeats 4000000 in
set_option maxRecDepth 100000 in
theorem cs_53 (C : Cq E p s m args meth c cL_law 9 RL) (X : Sx E s b L xs) (hl9 : l.stackTraces = false) (hN : 312 ≤ eN E) (h : Iv j μ) (hj : j < 512) (hi : ∀ v, v < 7 → vp_in (i + nI v) L) (hK : k ≤ 500000) (hS : n ≤ 6000000) (kk : ∀ μ', Iv (j + 1) μ' → Gq E p l e room_1 s m args below meth c (k + 128) (n + 4096) 9 Q 2921 (lvL E b i) [] μ') : Gq E p l e room_1 s m args below meth c k n 9 Q 2814 (lvL E b i) [] μ := by
  have hN2 : 295 ≤ eN E := by omega
  have hN3 : 311 ≤ eN E := by omega
  obtain ⟨p1, hp1⟩ : ∃ z, z = xs (i + nI 1).toNatClampNeg := ⟨_, rfl⟩
  obtain ⟨ec, t, r, μ1, w, ν, z0, hM, z1, z2, z3, z4⟩ := s_restore h hj p1
  have ht4 : t < 4 := lw_t4 hM (by decide)
  refine gq_lv (lv' := [(4, .int i), (3, .ref (eB E + 311)), (2, .ref (eB E + 295)), (1, .ref (eB E + 0)), (0, .ref b)]) rfl ?_
  refine gq_aload_n (i := 1) C dL_law_2814 rfl 3 rfl ?_
  refine gq_arg (v := nI 1) C X (hi 1 (by decide)) hp1.symm 4 0 rfl rfl (by decide) dL_law_2815 dL_law_2816 dL_law_2818 dL_law_2819 dL_law_2820 ?_
  refine gq_aload_n (i := 3) C dL_law_2821 rfl 1 rfl ?_
  refine gq_call (run_SW (rest := []) (As := [.ref (eB E + 0), .int p1, .ref (eB E + 311)]) C (c_L_restore hN hl9 z0 hM) wk_6_140 wk_6_141 wk_1_0 wk_6_142 hd_L_restore ⟨(Nat.le_of_ble_eq_true rfl), (Nat.le_of_ble_eq_true rfl)⟩ (Nat.le_of_ble_eq_true rfl) (lw_hf (by omega) (by omega) rfl) dL_law_2822 rfl) rfl ?_
  refine gq_istore (lv' := [(5, .int (nI t)), (4, .int i), (3, .ref (eB E + 311)), (2, .ref (eB E + 295)), (1, .ref (eB E + 0)), (0, .ref b)]) C dL_law_2825 (by decide) rfl ?_
  refine gq_aload_n (i := 2) C dL_law_2827 rfl 3 rfl ?_
  refine gq_arg (v := nI 1) C X (hi 1 (by decide)) hp1.symm 5 1 rfl rfl (by decide) dL_law_2828 dL_law_2829 dL_law_2831 dL_law_2832 dL_law_2833 ?_
  refine gq_V (As := [.int p1]) (rest := []) (j := 5) C (c_X4_restore hN3 z1) (qn_m 295 (by decide) hN3) (by decide) (by decide) rfl wk_8_216 wk_8_217 wk_8_218 wk_1_9 wk_8_219 hd_X4_restore ⟨(Nat.le_of_ble_eq_true rfl), (Nat.le_of_ble_eq_true rfl)⟩ (Nat.le_of_ble_eq_true rfl) (lw_hf (lw_b1 hK rfl) (lw_c1 hS rfl) rfl) dL_law_2834 rfl rfl ?_
  refine gq_istore (lv' := [(6, .int w), (5, .int (nI t)), (4, .int i), (3, .ref (eB E + 311)), (2, .ref (eB E + 295)), (1, .ref (eB E + 0)), (0, .ref b)]) C dL_law_2837 (by decide) rfl ?_
  refine gq_aload_n (i := 2) C dL_law_2839 rfl 4 rfl ?_
  refine gq_V (As := []) (rest := []) (j := 5) C (c_X4_thrown hN3 (r := nI t) (congrArg some z2)) (qn_m 295 (by decide) hN3) (by decide) (by decide) rfl wk_7_13 wk_7_14 wk_7_15 wk_1_9 wk_7_16 hd_X4_thrown ⟨(Nat.le_of_ble_eq_true rfl), (Nat.le_of_ble_eq_true rfl)⟩ (Nat.le_of_ble_eq_true rfl) (lw_hf (lw_b2 hK rfl) (lw_c2 hS rfl) rfl) dL_law_2840 rfl rfl ?_
  refine gq_iload (i := 5) C dL_law_2843 1 rfl ?_
  refine gq_icmp_eq_t (tgt := 2850) C dL_law_2845 (by decide) rfl ?_
  refine gq_iload (i := 5) C dL_law_2850 1 rfl ?_
  by_cases ht : t = 0
  · refine gq_if_ne_f (tgt := 2867) C dL_law_2852 (by decide) (by rw [ht]; rfl) ?_
    refine gq_aload_n (i := 3) C dL_law_2855 rfl 3 rfl ?_
    refine gq_iconst (v := nI 0) C dL_law_2856 (by decide) ?_
    refine gq_laloadL (x := w.toInt64) C (show 311 < eN E by omega) (by decide +kernel) (lw_out (z3 ht)) dL_law_2857 ?_
    refine gq_iload (i := 6) C dL_law_2858 0 rfl ?_
    refine gq_i2l C dL_law_2860 ?_
    refine gq_lcmp C dL_law_2861 ?_
    refine gq_if_eq_t (tgt := 2867) C dL_law_2862 (by decide) lw_cmp ?_
    refine gq_goto (tgt := 2921) C dL_law_2867 (by decide) ?_
    exact gq_widen (lw_k3 rfl) (lw_n3 rfl) (gq_sub [2, 3, 4, 5, 6] rfl (kk ν z4))
  · refine gq_if_ne_t (tgt := 2867) C dL_law_2852 (by decide) (lw_tn ht4 ht) ?_
    refine gq_goto (tgt := 2921) C dL_law_2867 (by decide) ?_
    exact gq_widen (lw_k3 rfl) (lw_n3 rfl) (gq_sub [2, 3, 4, 5, 6] rfl (kk ν z4))
end LCS
