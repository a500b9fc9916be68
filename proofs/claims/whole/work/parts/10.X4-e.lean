abbrev rm_X4_grows : Room := { frames := 6, cells := 0, slots := 0, locals := 151 }
def F_X4_grows (p1 : Int32) (p2 : Int32) (p3 : Int32) (μ : Mm) : Option (Int32 × Mm) :=
  (F_X4_rightOf p1 p2 μ).bind fun o2 =>
  (F_X4_putsAside  μ).bind fun o5 =>
  (F_X4_months p3 o5).bind fun o8 =>
  (F_X4_rightOf p1 p2 o8).bind fun o11 =>
  (F_X4_takesBack  o8).bind fun o14 =>
  some ((o11 - o2), o14)
set_option maxHeartbeats 4000000 in
set_option maxRecDepth 100000 in
theorem c_X4_grows {l : Launch} {E : Ev} (hN : 311 ≤ eN E) {p1 : Int32} {p2 : Int32} {p3 : Int32} {μ : Mm} {r : Int32} {μ' : Mm} (z0 : F_X4_grows p1 p2 p3 μ = some (r, μ')) : Ct l E yX4_grows (Cond.code yX4_grows cX4_grows 6 (some .int) :: GW) rm_X4_grows [.ref (eB E + 295), .int p1, .int p2, .int p3] μ (some (.int r)) μ' := by
  refine ct_of (by decide) (Nat.le_of_ble_eq_true rfl) (fun p e s m args below meth c C hr => ?_)
  have C : Cq E p s m args meth c cX4_grows 6 RX4 := C
  refine gq_lv (lv' := [(0, .ref (eB E + 295)), (1, .int p1), (2, .int p2), (3, .int p3)]) rfl ?_
  unfold F_X4_grows at z0
  refine gq_aload_n C dX4_grows_0 rfl 0 rfl ?_
  refine gq_iload_n C dX4_grows_1 rfl 1 rfl ?_
  refine gq_iload_n C dX4_grows_2 rfl 2 rfl ?_
  obtain ⟨x3, eo2, z1⟩ := bind_ex z0
  refine gq_V (As := [.int p1, .int p2]) (rest := []) (j := 5) C (c_X4_rightOf hN  eo2) (qn_m 295 (by decide) hN) (by decide) (by decide) rfl wk_7_179 wk_7_181 ws_X4_rightOf wk_1_9 wk_7_182 hd_X4_rightOf ⟨(Nat.le_of_ble_eq_true rfl), (Nat.le_of_ble_eq_true rfl)⟩ (Nat.le_of_ble_eq_true rfl) ⟨(Nat.le_of_ble_eq_true rfl), (Nat.le_of_ble_eq_true rfl)⟩ dX4_grows_3 rfl rfl ?_
  refine gq_istore (lv' := [(4, .int x3), (0, .ref (eB E + 295)), (1, .int p1), (2, .int p2), (3, .int p3)]) C dX4_grows_6 (by decide) rfl ?_
  refine gq_aload_n C dX4_grows_8 rfl 1 rfl ?_
  obtain ⟨m6, eo5, z4⟩ := bind_ex z1
  refine gq_V (As := []) (rest := []) (j := 5) C (c_X4_putsAside hN  eo5) (qn_m 295 (by decide) hN) (by decide) (by decide) rfl wk_8_67 wk_8_69 ws_X4_putsAside wk_1_9 wk_8_70 hd_X4_putsAside ⟨(Nat.le_of_ble_eq_true rfl), (Nat.le_of_ble_eq_true rfl)⟩ (Nat.le_of_ble_eq_true rfl) ⟨(Nat.le_of_ble_eq_true rfl), (Nat.le_of_ble_eq_true rfl)⟩ dX4_grows_9 rfl rfl ?_
  refine gq_aload_n C dX4_grows_12 rfl 1 rfl ?_
  refine gq_iload_n C dX4_grows_13 rfl 4 rfl ?_
  obtain ⟨m9, eo8, z7⟩ := bind_ex z4
  refine gq_V (As := [.int p3]) (rest := []) (j := 5) C (c_X4_months hN  eo8) (qn_m 295 (by decide) hN) (by decide) (by decide) rfl wk_8_71 wk_8_73 ws_X4_months wk_1_9 wk_8_74 hd_X4_months ⟨(Nat.le_of_ble_eq_true rfl), (Nat.le_of_ble_eq_true rfl)⟩ (Nat.le_of_ble_eq_true rfl) ⟨(Nat.le_of_ble_eq_true rfl), (Nat.le_of_ble_eq_true rfl)⟩ dX4_grows_14 rfl rfl ?_
  refine gq_aload_n C dX4_grows_17 rfl 1 rfl ?_
  refine gq_iload_n C dX4_grows_18 rfl 2 rfl ?_
  refine gq_iload_n C dX4_grows_19 rfl 3 rfl ?_
  obtain ⟨x12, eo11, z10⟩ := bind_ex z7
  refine gq_V (As := [.int p1, .int p2]) (rest := []) (j := 5) C (c_X4_rightOf hN  eo11) (qn_m 295 (by decide) hN) (by decide) (by decide) rfl wk_7_179 wk_7_181 ws_X4_rightOf wk_1_9 wk_7_182 hd_X4_rightOf ⟨(Nat.le_of_ble_eq_true rfl), (Nat.le_of_ble_eq_true rfl)⟩ (Nat.le_of_ble_eq_true rfl) ⟨(Nat.le_of_ble_eq_true rfl), (Nat.le_of_ble_eq_true rfl)⟩ dX4_grows_20 rfl rfl ?_
  refine gq_iload C dX4_grows_23 0 rfl ?_
  refine gq_isub C dX4_grows_25 ?_
  refine gq_istore (lv' := [(5, .int (x12 - x3)), (4, .int x3), (0, .ref (eB E + 295)), (1, .int p1), (2, .int p2), (3, .int p3)]) C dX4_grows_26 (by decide) rfl ?_
  refine gq_aload_n C dX4_grows_28 rfl 2 rfl ?_
  obtain ⟨m15, eo14, z13⟩ := bind_ex z10
  refine gq_V (As := []) (rest := []) (j := 5) C (c_X4_takesBack hN  eo14) (qn_m 295 (by decide) hN) (by decide) (by decide) rfl wk_8_128 wk_8_130 ws_X4_takesBack wk_1_9 wk_8_131 hd_X4_takesBack ⟨(Nat.le_of_ble_eq_true rfl), (Nat.le_of_ble_eq_true rfl)⟩ (Nat.le_of_ble_eq_true rfl) ⟨(Nat.le_of_ble_eq_true rfl), (Nat.le_of_ble_eq_true rfl)⟩ dX4_grows_29 rfl rfl ?_
  refine gq_iload C dX4_grows_32 0 rfl ?_
  cases z13
  exact gq_iret C hr dX4_grows_34 (Nat.le_of_ble_eq_true rfl) (Nat.le_of_ble_eq_true rfl)
abbrev rm_X4_expected : Room := { frames := 7, cells := 0, slots := 0, locals := 176 }
def F_X4_expected (p1 : Int32) (p2 : Int32) (μ : Mm) : Option (Int32 × Mm) :=
  (F_X4_isRight p1 μ).bind fun o2 =>
  (if o2 = 0 then
  (some (1 : Int32))
  else
  ((F_X4_isMonths p2 μ).bind fun o10 =>
  if o10 = 0 then
  (some (2 : Int32))
  else
  (some (0 : Int32)))).bind fun o14 =>
  (some (uI μ 295 0 o14)).bind fun m15 =>
  if (m15.1 295 0) ≤ 0 then
  ((F_X4_grows p1 (7 : Int32) p2 m15).bind fun o20 =>
  some (o20.1, o20.2))
  else
  (some ((0 : Int32), m15))
set_option maxHeartbeats 4000000 in
set_option maxRecDepth 100000 in
theorem c_X4_expected {l : Launch} {E : Ev} (hN : 311 ≤ eN E) {p1 : Int32} {p2 : Int32} {μ : Mm} {r : Int32} {μ' : Mm} (z0 : F_X4_expected p1 p2 μ = some (r, μ')) : Ct l E yX4_expected (Cond.code yX4_expected cX4_expected 3 (some .int) :: GW) rm_X4_expected [.ref (eB E + 295), .int p1, .int p2] μ (some (.int r)) μ' := by
  refine ct_of (by decide) (Nat.le_of_ble_eq_true rfl) (fun p e s m args below meth c C hr => ?_)
  have C : Cq E p s m args meth c cX4_expected 3 RX4 := C
  refine gq_lv (lv' := [(0, .ref (eB E + 295)), (1, .int p1), (2, .int p2)]) rfl ?_
  unfold F_X4_expected at z0
  refine gq_aload_n C dX4_expected_0 rfl 0 rfl ?_
  refine gq_aload_n C dX4_expected_1 rfl 0 rfl ?_
  refine gq_iload_n C dX4_expected_2 rfl 1 rfl ?_
  obtain ⟨x3, eo2, z1⟩ := bind_ex z0
  refine gq_V (As := [.int p1]) (rest := [.ref (eB E + 295)]) (j := 5) C (c_X4_isRight hN  eo2) (qn_m 295 (by decide) hN) (by decide) (by decide) rfl wk_7_175 wk_7_177 ws_X4_isRight wk_1_9 wk_7_178 hd_X4_isRight ⟨(Nat.le_of_ble_eq_true rfl), (Nat.le_of_ble_eq_true rfl)⟩ (Nat.le_of_ble_eq_true rfl) ⟨(Nat.le_of_ble_eq_true rfl), (Nat.le_of_ble_eq_true rfl)⟩ dX4_expected_3 rfl rfl ?_
  obtain ⟨x4, z5, z6⟩ := bind_ex z1
  refine gq_join (k' := 0) (n' := 0) (pc' := 26) (lv' := [(0, .ref (eB E + 295)), (1, .int p1), (2, .int p2)]) (st' := [.int x4, .ref (eB E + 295)]) (μ' := μ) ?_ (fun J26 => ?_)
  · obtain ⟨m15, em15, z16⟩ := bind_ex z6
    refine gq_put5_0 C (qn_m 295 (by decide) hN) (by decide) wk_6_162 (Option.some.inj em15).symm dX4_expected_26 ?_
    refine gq_aload_n C dX4_expected_29 rfl 0 rfl ?_
    refine gq_get5 C (qn_m 295 (by decide) hN) (by decide) 0 (by decide) wk_6_162 rfl dX4_expected_30 ?_
    rcases ite_ex z16 with ⟨c17, z18⟩ | ⟨c17, z18⟩
    · refine gq_if_le_t (tgt := 40) C dX4_expected_33 (by decide) c17 ?_
      refine gq_aload_n C dX4_expected_40 rfl 0 rfl ?_
      refine gq_iload_n C dX4_expected_41 rfl 1 rfl ?_
      refine gq_bipush (v := 7) C dX4_expected_42 (by decide) ?_
      refine gq_iload_n C dX4_expected_44 rfl 2 rfl ?_
      obtain ⟨⟨x21, m22⟩, eo20, z19⟩ := bind_ex z18
      dsimp only at z19
      refine gq_V (As := [.int p1, .int (7 : Int32), .int p2]) (rest := []) (j := 5) C (c_X4_grows hN  eo20) (qn_m 295 (by decide) hN) (by decide) (by decide) rfl wk_8_63 wk_8_65 ws_X4_grows wk_1_9 wk_8_66 hd_X4_grows ⟨(Nat.le_of_ble_eq_true rfl), (Nat.le_of_ble_eq_true rfl)⟩ (Nat.le_of_ble_eq_true rfl) ⟨(Nat.le_of_ble_eq_true rfl), (Nat.le_of_ble_eq_true rfl)⟩ dX4_expected_45 rfl rfl ?_
      cases z19
      exact gq_iret C hr dX4_expected_48 (Nat.le_of_ble_eq_true rfl) (Nat.le_of_ble_eq_true rfl)
    · refine gq_if_le_f (tgt := 40) C dX4_expected_33 (by decide) c17 ?_
      refine gq_iconst (v := 0) C dX4_expected_36 (by decide) ?_
      refine gq_goto (tgt := 48) C dX4_expected_37 (by decide) ?_
      cases z18
      exact gq_iret C hr dX4_expected_48 (Nat.le_of_ble_eq_true rfl) (Nat.le_of_ble_eq_true rfl)
  · rcases ite_ex z5 with ⟨c7, z8⟩ | ⟨c7, z8⟩
    · refine gq_if_ne_f (tgt := 13) C dX4_expected_6 (by decide) c7 ?_
      refine gq_iconst (v := 1) C dX4_expected_9 (by decide) ?_
      refine gq_goto (tgt := 26) C dX4_expected_10 (by decide) ?_
      cases z8
      exact gq_widen (Nat.le_of_ble_eq_true rfl) (Nat.le_of_ble_eq_true rfl) (gq_sub [0, 1, 2] rfl J26)
    · refine gq_if_ne_t (tgt := 13) C dX4_expected_6 (by decide) c7 ?_
      refine gq_aload_n C dX4_expected_13 rfl 0 rfl ?_
      refine gq_iload_n C dX4_expected_14 rfl 2 rfl ?_
      obtain ⟨x11, eo10, z9⟩ := bind_ex z8
      refine gq_V (As := [.int p2]) (rest := [.ref (eB E + 295)]) (j := 5) C (c_X4_isMonths hN  eo10) (qn_m 295 (by decide) hN) (by decide) (by decide) rfl wk_8_59 wk_8_61 ws_X4_isMonths wk_1_9 wk_8_62 hd_X4_isMonths ⟨(Nat.le_of_ble_eq_true rfl), (Nat.le_of_ble_eq_true rfl)⟩ (Nat.le_of_ble_eq_true rfl) ⟨(Nat.le_of_ble_eq_true rfl), (Nat.le_of_ble_eq_true rfl)⟩ dX4_expected_15 rfl rfl ?_
      rcases ite_ex z9 with ⟨c12, z13⟩ | ⟨c12, z13⟩
      · refine gq_if_ne_f (tgt := 25) C dX4_expected_18 (by decide) c12 ?_
        refine gq_iconst (v := 2) C dX4_expected_21 (by decide) ?_
        refine gq_goto (tgt := 26) C dX4_expected_22 (by decide) ?_
        cases z13
        exact gq_widen (Nat.le_of_ble_eq_true rfl) (Nat.le_of_ble_eq_true rfl) (gq_sub [0, 1, 2] rfl J26)
      · refine gq_if_ne_t (tgt := 25) C dX4_expected_18 (by decide) c12 ?_
        refine gq_iconst (v := 0) C dX4_expected_25 (by decide) ?_
        cases z13
        exact gq_widen (Nat.le_of_ble_eq_true rfl) (Nat.le_of_ble_eq_true rfl) (gq_sub [0, 1, 2] rfl J26)
abbrev rm_X4_cutMonths : Room := { frames := 7, cells := 0, slots := 0, locals := 176 }
def F_X4_cutMonths (p1 : Int32) (p2 : Int32) (μ : Mm) : Option (Int32 × Mm) :=
  (F_X4_isRight p1 μ).bind fun o2 =>
  (if o2 = 0 then
  (some (1 : Int32))
  else
  ((F_X4_isMonths p2 μ).bind fun o10 =>
  if o10 = 0 then
  (some (2 : Int32))
  else
  (some (0 : Int32)))).bind fun o14 =>
  (some (uI μ 295 0 o14)).bind fun m15 =>
  if (m15.1 295 0) ≤ 0 then
  ((F_X4_grows p1 (9 : Int32) p2 m15).bind fun o20 =>
  some (o20.1, o20.2))
  else
  (some ((0 : Int32), m15))
set_option maxHeartbeats 4000000 in
set_option maxRecDepth 100000 in
theorem c_X4_cutMonths {l : Launch} {E : Ev} (hN : 311 ≤ eN E) {p1 : Int32} {p2 : Int32} {μ : Mm} {r : Int32} {μ' : Mm} (z0 : F_X4_cutMonths p1 p2 μ = some (r, μ')) : Ct l E yX4_cutMonths (Cond.code yX4_cutMonths cX4_cutMonths 3 (some .int) :: GW) rm_X4_cutMonths [.ref (eB E + 295), .int p1, .int p2] μ (some (.int r)) μ' := by
  refine ct_of (by decide) (Nat.le_of_ble_eq_true rfl) (fun p e s m args below meth c C hr => ?_)
  have C : Cq E p s m args meth c cX4_cutMonths 3 RX4 := C
  refine gq_lv (lv' := [(0, .ref (eB E + 295)), (1, .int p1), (2, .int p2)]) rfl ?_
  unfold F_X4_cutMonths at z0
  refine gq_aload_n C dX4_cutMonths_0 rfl 0 rfl ?_
  refine gq_aload_n C dX4_cutMonths_1 rfl 0 rfl ?_
  refine gq_iload_n C dX4_cutMonths_2 rfl 1 rfl ?_
  obtain ⟨x3, eo2, z1⟩ := bind_ex z0
  refine gq_V (As := [.int p1]) (rest := [.ref (eB E + 295)]) (j := 5) C (c_X4_isRight hN  eo2) (qn_m 295 (by decide) hN) (by decide) (by decide) rfl wk_7_175 wk_7_177 ws_X4_isRight wk_1_9 wk_7_178 hd_X4_isRight ⟨(Nat.le_of_ble_eq_true rfl), (Nat.le_of_ble_eq_true rfl)⟩ (Nat.le_of_ble_eq_true rfl) ⟨(Nat.le_of_ble_eq_true rfl), (Nat.le_of_ble_eq_true rfl)⟩ dX4_cutMonths_3 rfl rfl ?_
  obtain ⟨x4, z5, z6⟩ := bind_ex z1
  refine gq_join (k' := 0) (n' := 0) (pc' := 26) (lv' := [(0, .ref (eB E + 295)), (1, .int p1), (2, .int p2)]) (st' := [.int x4, .ref (eB E + 295)]) (μ' := μ) ?_ (fun J26 => ?_)
  · obtain ⟨m15, em15, z16⟩ := bind_ex z6
    refine gq_put5_0 C (qn_m 295 (by decide) hN) (by decide) wk_6_162 (Option.some.inj em15).symm dX4_cutMonths_26 ?_
    refine gq_aload_n C dX4_cutMonths_29 rfl 0 rfl ?_
    refine gq_get5 C (qn_m 295 (by decide) hN) (by decide) 0 (by decide) wk_6_162 rfl dX4_cutMonths_30 ?_
    rcases ite_ex z16 with ⟨c17, z18⟩ | ⟨c17, z18⟩
    · refine gq_if_le_t (tgt := 40) C dX4_cutMonths_33 (by decide) c17 ?_
      refine gq_aload_n C dX4_cutMonths_40 rfl 0 rfl ?_
      refine gq_iload_n C dX4_cutMonths_41 rfl 1 rfl ?_
      refine gq_bipush (v := 9) C dX4_cutMonths_42 (by decide) ?_
      refine gq_iload_n C dX4_cutMonths_44 rfl 2 rfl ?_
      obtain ⟨⟨x21, m22⟩, eo20, z19⟩ := bind_ex z18
      dsimp only at z19
      refine gq_V (As := [.int p1, .int (9 : Int32), .int p2]) (rest := []) (j := 5) C (c_X4_grows hN  eo20) (qn_m 295 (by decide) hN) (by decide) (by decide) rfl wk_8_63 wk_8_65 ws_X4_grows wk_1_9 wk_8_66 hd_X4_grows ⟨(Nat.le_of_ble_eq_true rfl), (Nat.le_of_ble_eq_true rfl)⟩ (Nat.le_of_ble_eq_true rfl) ⟨(Nat.le_of_ble_eq_true rfl), (Nat.le_of_ble_eq_true rfl)⟩ dX4_cutMonths_45 rfl rfl ?_
      cases z19
      exact gq_iret C hr dX4_cutMonths_48 (Nat.le_of_ble_eq_true rfl) (Nat.le_of_ble_eq_true rfl)
    · refine gq_if_le_f (tgt := 40) C dX4_cutMonths_33 (by decide) c17 ?_
      refine gq_iconst (v := 0) C dX4_cutMonths_36 (by decide) ?_
      refine gq_goto (tgt := 48) C dX4_cutMonths_37 (by decide) ?_
      cases z18
      exact gq_iret C hr dX4_cutMonths_48 (Nat.le_of_ble_eq_true rfl) (Nat.le_of_ble_eq_true rfl)
  · rcases ite_ex z5 with ⟨c7, z8⟩ | ⟨c7, z8⟩
    · refine gq_if_ne_f (tgt := 13) C dX4_cutMonths_6 (by decide) c7 ?_
      refine gq_iconst (v := 1) C dX4_cutMonths_9 (by decide) ?_
      refine gq_goto (tgt := 26) C dX4_cutMonths_10 (by decide) ?_
      cases z8
      exact gq_widen (Nat.le_of_ble_eq_true rfl) (Nat.le_of_ble_eq_true rfl) (gq_sub [0, 1, 2] rfl J26)
    · refine gq_if_ne_t (tgt := 13) C dX4_cutMonths_6 (by decide) c7 ?_
      refine gq_aload_n C dX4_cutMonths_13 rfl 0 rfl ?_
      refine gq_iload_n C dX4_cutMonths_14 rfl 2 rfl ?_
      obtain ⟨x11, eo10, z9⟩ := bind_ex z8
      refine gq_V (As := [.int p2]) (rest := [.ref (eB E + 295)]) (j := 5) C (c_X4_isMonths hN  eo10) (qn_m 295 (by decide) hN) (by decide) (by decide) rfl wk_8_59 wk_8_61 ws_X4_isMonths wk_1_9 wk_8_62 hd_X4_isMonths ⟨(Nat.le_of_ble_eq_true rfl), (Nat.le_of_ble_eq_true rfl)⟩ (Nat.le_of_ble_eq_true rfl) ⟨(Nat.le_of_ble_eq_true rfl), (Nat.le_of_ble_eq_true rfl)⟩ dX4_cutMonths_15 rfl rfl ?_
      rcases ite_ex z9 with ⟨c12, z13⟩ | ⟨c12, z13⟩
      · refine gq_if_ne_f (tgt := 25) C dX4_cutMonths_18 (by decide) c12 ?_
        refine gq_iconst (v := 2) C dX4_cutMonths_21 (by decide) ?_
        refine gq_goto (tgt := 26) C dX4_cutMonths_22 (by decide) ?_
        cases z13
        exact gq_widen (Nat.le_of_ble_eq_true rfl) (Nat.le_of_ble_eq_true rfl) (gq_sub [0, 1, 2] rfl J26)
      · refine gq_if_ne_t (tgt := 25) C dX4_cutMonths_18 (by decide) c12 ?_
        refine gq_iconst (v := 0) C dX4_cutMonths_25 (by decide) ?_
        cases z13
        exact gq_widen (Nat.le_of_ble_eq_true rfl) (Nat.le_of_ble_eq_true rfl) (gq_sub [0, 1, 2] rfl J26)
abbrev rm_X4_balanceAfter : Room := { frames := 6, cells := 0, slots := 0, locals := 151 }
def F_X4_balanceAfter (p1 : Int32) (p2 : Int32) (μ : Mm) : Option (Int64 × Mm) :=
  (F_X4_isAccount p1 μ).bind fun o2 =>
  (if o2 = 0 then
  (some (1 : Int32))
  else
  ((F_X4_isMonths p2 μ).bind fun o10 =>
  if o10 = 0 then
  (some (2 : Int32))
  else
  (some (0 : Int32)))).bind fun o14 =>
  (some (uI μ 295 0 o14)).bind fun m15 =>
  if (m15.1 295 0) ≤ 0 then
  ((F_X4_putsAside  m15).bind fun o20 =>
  (F_X4_months p2 o20).bind fun o23 =>
  (aL o23 300 p1).bind fun x25 =>
  (F_X4_takesBack  o23).bind fun o28 =>
  some (x25, o28))
  else
  (some ((0 : Int64), m15))
set_option maxHeartbeats 4000000 in
set_option maxRecDepth 100000 in
theorem c_X4_balanceAfter {l : Launch} {E : Ev} (hN : 311 ≤ eN E) {p1 : Int32} {p2 : Int32} {μ : Mm} {r : Int64} {μ' : Mm} (z0 : F_X4_balanceAfter p1 p2 μ = some (r, μ')) : Ct l E yX4_balanceAfter (Cond.code yX4_balanceAfter cX4_balanceAfter 5 (some .long) :: GW) rm_X4_balanceAfter [.ref (eB E + 295), .int p1, .int p2] μ (some (.long r)) μ' := by
  refine ct_of (by decide) (Nat.le_of_ble_eq_true rfl) (fun p e s m args below meth c C hr => ?_)
  have C : Cq E p s m args meth c cX4_balanceAfter 5 RX4 := C
  refine gq_lv (lv' := [(0, .ref (eB E + 295)), (1, .int p1), (2, .int p2)]) rfl ?_
  unfold F_X4_balanceAfter at z0
  refine gq_aload_n C dX4_balanceAfter_0 rfl 0 rfl ?_
  refine gq_aload_n C dX4_balanceAfter_1 rfl 0 rfl ?_
  refine gq_iload_n C dX4_balanceAfter_2 rfl 1 rfl ?_
  obtain ⟨x3, eo2, z1⟩ := bind_ex z0
  refine gq_V (As := [.int p1]) (rest := [.ref (eB E + 295)]) (j := 5) C (c_X4_isAccount hN  eo2) (qn_m 295 (by decide) hN) (by decide) (by decide) rfl wk_7_163 wk_7_165 ws_X4_isAccount wk_1_9 wk_7_166 hd_X4_isAccount ⟨(Nat.le_of_ble_eq_true rfl), (Nat.le_of_ble_eq_true rfl)⟩ (Nat.le_of_ble_eq_true rfl) ⟨(Nat.le_of_ble_eq_true rfl), (Nat.le_of_ble_eq_true rfl)⟩ dX4_balanceAfter_3 rfl rfl ?_
  obtain ⟨x4, z5, z6⟩ := bind_ex z1
  refine gq_join (k' := 0) (n' := 0) (pc' := 26) (lv' := [(0, .ref (eB E + 295)), (1, .int p1), (2, .int p2)]) (st' := [.int x4, .ref (eB E + 295)]) (μ' := μ) ?_ (fun J26 => ?_)
  · obtain ⟨m15, em15, z16⟩ := bind_ex z6
    refine gq_put5_0 C (qn_m 295 (by decide) hN) (by decide) wk_6_162 (Option.some.inj em15).symm dX4_balanceAfter_26 ?_
    refine gq_aload_n C dX4_balanceAfter_29 rfl 0 rfl ?_
    refine gq_get5 C (qn_m 295 (by decide) hN) (by decide) 0 (by decide) wk_6_162 rfl dX4_balanceAfter_30 ?_
    rcases ite_ex z16 with ⟨c17, z18⟩ | ⟨c17, z18⟩
    · refine gq_if_le_t (tgt := 38) C dX4_balanceAfter_33 (by decide) c17 ?_
      refine gq_aload_n C dX4_balanceAfter_38 rfl 0 rfl ?_
      obtain ⟨m21, eo20, z19⟩ := bind_ex z18
      refine gq_V (As := []) (rest := []) (j := 5) C (c_X4_putsAside hN  eo20) (qn_m 295 (by decide) hN) (by decide) (by decide) rfl wk_8_67 wk_8_69 ws_X4_putsAside wk_1_9 wk_8_70 hd_X4_putsAside ⟨(Nat.le_of_ble_eq_true rfl), (Nat.le_of_ble_eq_true rfl)⟩ (Nat.le_of_ble_eq_true rfl) ⟨(Nat.le_of_ble_eq_true rfl), (Nat.le_of_ble_eq_true rfl)⟩ dX4_balanceAfter_39 rfl rfl ?_
      refine gq_aload_n C dX4_balanceAfter_42 rfl 0 rfl ?_
      refine gq_iload_n C dX4_balanceAfter_43 rfl 2 rfl ?_
      obtain ⟨m24, eo23, z22⟩ := bind_ex z19
      refine gq_V (As := [.int p2]) (rest := []) (j := 5) C (c_X4_months hN  eo23) (qn_m 295 (by decide) hN) (by decide) (by decide) rfl wk_8_71 wk_8_73 ws_X4_months wk_1_9 wk_8_74 hd_X4_months ⟨(Nat.le_of_ble_eq_true rfl), (Nat.le_of_ble_eq_true rfl)⟩ (Nat.le_of_ble_eq_true rfl) ⟨(Nat.le_of_ble_eq_true rfl), (Nat.le_of_ble_eq_true rfl)⟩ dX4_balanceAfter_44 rfl rfl ?_
      refine gq_aload_n C dX4_balanceAfter_47 rfl 0 rfl ?_
      refine gq_get5 C (qn_m 295 (by decide) hN) (by decide) 5 (by decide) wk_6_167 rfl dX4_balanceAfter_48 ?_
      refine gq_iload_n C dX4_balanceAfter_51 rfl 1 rfl ?_
      obtain ⟨x25, ex25, z26⟩ := bind_ex z22
      refine gq_laloadL C (qn_m 300 (by decide) hN) (by decide) ex25 dX4_balanceAfter_52 ?_
      refine gq_lstore_n (lv' := [(3, .long x25), (0, .ref (eB E + 295)), (1, .int p1), (2, .int p2)]) C dX4_balanceAfter_53 rfl (by decide) rfl ?_
      refine gq_aload_n C dX4_balanceAfter_54 rfl 1 rfl ?_
      obtain ⟨m29, eo28, z27⟩ := bind_ex z26
      refine gq_V (As := []) (rest := []) (j := 5) C (c_X4_takesBack hN  eo28) (qn_m 295 (by decide) hN) (by decide) (by decide) rfl wk_8_128 wk_8_130 ws_X4_takesBack wk_1_9 wk_8_131 hd_X4_takesBack ⟨(Nat.le_of_ble_eq_true rfl), (Nat.le_of_ble_eq_true rfl)⟩ (Nat.le_of_ble_eq_true rfl) ⟨(Nat.le_of_ble_eq_true rfl), (Nat.le_of_ble_eq_true rfl)⟩ dX4_balanceAfter_55 rfl rfl ?_
      refine gq_lload_n C dX4_balanceAfter_58 rfl 0 rfl ?_
      cases z27
      exact gq_lret C hr dX4_balanceAfter_59 (Nat.le_of_ble_eq_true rfl) (Nat.le_of_ble_eq_true rfl)
    · refine gq_if_le_f (tgt := 38) C dX4_balanceAfter_33 (by decide) c17 ?_
      refine gq_lconst (v := 0) C dX4_balanceAfter_36 (by decide) ?_
      cases z18
      exact gq_lret C hr dX4_balanceAfter_37 (Nat.le_of_ble_eq_true rfl) (Nat.le_of_ble_eq_true rfl)
  · rcases ite_ex z5 with ⟨c7, z8⟩ | ⟨c7, z8⟩
    · refine gq_if_ne_f (tgt := 13) C dX4_balanceAfter_6 (by decide) c7 ?_
      refine gq_iconst (v := 1) C dX4_balanceAfter_9 (by decide) ?_
      refine gq_goto (tgt := 26) C dX4_balanceAfter_10 (by decide) ?_
      cases z8
      exact gq_widen (Nat.le_of_ble_eq_true rfl) (Nat.le_of_ble_eq_true rfl) (gq_sub [0, 1, 2] rfl J26)
    · refine gq_if_ne_t (tgt := 13) C dX4_balanceAfter_6 (by decide) c7 ?_
      refine gq_aload_n C dX4_balanceAfter_13 rfl 0 rfl ?_
      refine gq_iload_n C dX4_balanceAfter_14 rfl 2 rfl ?_
      obtain ⟨x11, eo10, z9⟩ := bind_ex z8
      refine gq_V (As := [.int p2]) (rest := [.ref (eB E + 295)]) (j := 5) C (c_X4_isMonths hN  eo10) (qn_m 295 (by decide) hN) (by decide) (by decide) rfl wk_8_59 wk_8_61 ws_X4_isMonths wk_1_9 wk_8_62 hd_X4_isMonths ⟨(Nat.le_of_ble_eq_true rfl), (Nat.le_of_ble_eq_true rfl)⟩ (Nat.le_of_ble_eq_true rfl) ⟨(Nat.le_of_ble_eq_true rfl), (Nat.le_of_ble_eq_true rfl)⟩ dX4_balanceAfter_15 rfl rfl ?_
      rcases ite_ex z9 with ⟨c12, z13⟩ | ⟨c12, z13⟩
      · refine gq_if_ne_f (tgt := 25) C dX4_balanceAfter_18 (by decide) c12 ?_
        refine gq_iconst (v := 2) C dX4_balanceAfter_21 (by decide) ?_
        refine gq_goto (tgt := 26) C dX4_balanceAfter_22 (by decide) ?_
        cases z13
        exact gq_widen (Nat.le_of_ble_eq_true rfl) (Nat.le_of_ble_eq_true rfl) (gq_sub [0, 1, 2] rfl J26)
      · refine gq_if_ne_t (tgt := 25) C dX4_balanceAfter_18 (by decide) c12 ?_
        refine gq_iconst (v := 0) C dX4_balanceAfter_25 (by decide) ?_
        cases z13
        exact gq_widen (Nat.le_of_ble_eq_true rfl) (Nat.le_of_ble_eq_true rfl) (gq_sub [0, 1, 2] rfl J26)
abbrev rm_X4_driestMonth : Room := { frames := 6, cells := 0, slots := 0, locals := 151 }
def F_X4_driestMonth_50 (u1 : Int32) : Nat → Int32 → Int32 → Int32 → Mm → Option (Int32 × Mm)
  | 0, _, _, _, _ => none
  | n + 1, v2, v3, v4, μ =>
  if u1 < v4 then
  (some (v2, μ))
  else
  ((F_X4_months (1 : Int32) μ).bind fun o24 =>
  (if v2 = 0 then
  ((F_X4_outflowNow  o24).bind fun o33 =>
  some (v4, o33))
  else
  ((F_X4_outflowNow  o24).bind fun o36 =>
  if v3 ≤ o36 then
  (some (v2, v3))
  else
  ((F_X4_outflowNow  o24).bind fun o41 =>
  some (v4, o41)))).bind fun o43 =>
  F_X4_driestMonth_50 u1 n o43.1 o43.2 (v4 + 1) o24)
def F_X4_driestMonth (p1 : Int32) (μ : Mm) : Option (Int32 × Mm) :=
  (F_X4_isMonths p1 μ).bind fun o2 =>
  (if o2 = 0 then
  (some (1 : Int32))
  else
  ((aI μ 296 (0 : Int32)).bind fun x9 =>
  if x9 = 0 then
  (some (2 : Int32))
  else
  (some (0 : Int32)))).bind fun o13 =>
  (some (uI μ 295 0 o13)).bind fun m14 =>
  if (m14.1 295 0) ≤ 0 then
  ((F_X4_putsAside  m14).bind fun o19 =>
  (F_X4_driestMonth_50 p1 qFuel (0 : Int32) (0 : Int32) (1 : Int32) o19).bind fun o45 =>
  (F_X4_takesBack  o45.2).bind fun o49 =>
  some (o45.1, o49))
  else
  (some ((0 : Int32), m14))
set_option maxHeartbeats 4000000 in
set_option maxRecDepth 100000 in
theorem l_X4_driestMonth_50 {l : Launch} {E : Ev} (hN : 311 ≤ eN E) {p : Program} {e : Env} {s : State} {m : MethodId} {args : Array Value} {below : List Frame} {meth : Method} {c : Code} (C : Cq E p s m args meth c cX4_driestMonth 5 RX4) {Q : State → Prop} {u1 : Int32} : ∀ (n : Nat) (v2 : Int32) (v3 : Int32) (v4 : Int32) (μ : Mm) (w2 : Int32) (μx : Mm), F_X4_driestMonth_50 u1 n v2 v3 v4 μ = some (w2, μx) → Gq E p l e rm_X4_driestMonth s m args below meth c 0 0 5 Q 87 [(0, .ref (eB E + 295)), (2, .int w2)] [] μx → Gq E p l e rm_X4_driestMonth s m args below meth c 0 0 5 Q 50 [(0, .ref (eB E + 295)), (1, .int u1), (2, .int v2), (3, .int v3), (4, .int v4)] [] μ := by
  intro n
  induction n with
  | zero =>
    intro v2 v3 v4 μ w2 μx z0 kk
    rw [F_X4_driestMonth_50] at z0
    cases z0
  | succ n ih =>
    intro v2 v3 v4 μ w2 μx z0 kk
    rw [F_X4_driestMonth_50] at z0
    refine gq_iload C dX4_driestMonth_50 4 rfl ?_
    refine gq_iload_n C dX4_driestMonth_52 rfl 1 rfl ?_
    rcases ite_ex z0 with ⟨c21, z22⟩ | ⟨c21, z22⟩
    · refine gq_icmp_gt_t (tgt := 87) C dX4_driestMonth_53 (by decide) c21 ?_
      cases z22
      exact gq_widen (Nat.le_of_ble_eq_true rfl) (Nat.le_of_ble_eq_true rfl) (gq_sub [0, 2] rfl kk)
    · refine gq_icmp_gt_f (tgt := 87) C dX4_driestMonth_53 (by decide) c21 ?_
      refine gq_aload_n C dX4_driestMonth_56 rfl 0 rfl ?_
      refine gq_iconst (v := 1) C dX4_driestMonth_57 (by decide) ?_
      obtain ⟨m25, eo24, z23⟩ := bind_ex z22
      refine gq_V (As := [.int (1 : Int32)]) (rest := []) (j := 5) C (c_X4_months hN  eo24) (qn_m 295 (by decide) hN) (by decide) (by decide) rfl wk_8_71 wk_8_73 ws_X4_months wk_1_9 wk_8_74 hd_X4_months ⟨(Nat.le_of_ble_eq_true rfl), (Nat.le_of_ble_eq_true rfl)⟩ (Nat.le_of_ble_eq_true rfl) ⟨(Nat.le_of_ble_eq_true rfl), (Nat.le_of_ble_eq_true rfl)⟩ dX4_driestMonth_58 rfl rfl ?_
      refine gq_iload_n C dX4_driestMonth_61 rfl 2 rfl ?_
      obtain ⟨⟨x26, x27⟩, z28, z29⟩ := bind_ex z23
      dsimp only at z29
      refine gq_join (k' := 0) (n' := 0) (pc' := 81) (lv' := [(0, .ref (eB E + 295)), (1, .int u1), (2, .int x26), (3, .int x27), (4, .int v4)]) (st' := []) (μ' := m25) ?_ (fun J81 => ?_)
      · refine gq_iinc (v := (v4 + 1)) (lv' := [(4, .int (v4 + 1)), (0, .ref (eB E + 295)), (1, .int u1), (2, .int x26), (3, .int x27)]) (q := 4) C dX4_driestMonth_81 rfl rfl (by decide) rfl ?_
        refine gq_goto (tgt := 50) C dX4_driestMonth_84 (by decide) ?_
        refine gq_widen (k' := 0) (n' := 0) (Nat.le_of_ble_eq_true rfl) (Nat.le_of_ble_eq_true rfl) (gq_sub [1, 2, 3, 4, 0] rfl ?_)
        exact ih _ _ _ _ _ _ z29 kk
      · rcases ite_ex z28 with ⟨c30, z31⟩ | ⟨c30, z31⟩
        · refine gq_if_eq_t (tgt := 73) C dX4_driestMonth_62 (by decide) c30 ?_
          refine gq_iload C dX4_driestMonth_73 4 rfl ?_
          refine gq_istore_n (lv' := [(2, .int v4), (0, .ref (eB E + 295)), (1, .int u1), (3, .int v3), (4, .int v4)]) C dX4_driestMonth_75 rfl (by decide) rfl ?_
          refine gq_aload_n C dX4_driestMonth_76 rfl 1 rfl ?_
          obtain ⟨x34, eo33, z32⟩ := bind_ex z31
          refine gq_V (As := []) (rest := []) (j := 5) C (c_X4_outflowNow hN  eo33) (qn_m 295 (by decide) hN) (by decide) (by decide) rfl wk_8_19 wk_8_21 ws_X4_outflowNow wk_1_9 wk_8_22 hd_X4_outflowNow ⟨(Nat.le_of_ble_eq_true rfl), (Nat.le_of_ble_eq_true rfl)⟩ (Nat.le_of_ble_eq_true rfl) ⟨(Nat.le_of_ble_eq_true rfl), (Nat.le_of_ble_eq_true rfl)⟩ dX4_driestMonth_77 rfl rfl ?_
          refine gq_istore_n (lv' := [(3, .int x34), (2, .int v4), (0, .ref (eB E + 295)), (1, .int u1), (4, .int v4)]) C dX4_driestMonth_80 rfl (by decide) rfl ?_
          cases z32
          exact gq_widen (Nat.le_of_ble_eq_true rfl) (Nat.le_of_ble_eq_true rfl) (gq_sub [2, 3, 1, 0, 4] rfl J81)
        · refine gq_if_eq_f (tgt := 73) C dX4_driestMonth_62 (by decide) c30 ?_
          refine gq_aload_n C dX4_driestMonth_65 rfl 0 rfl ?_
          obtain ⟨x37, eo36, z35⟩ := bind_ex z31
          refine gq_V (As := []) (rest := []) (j := 5) C (c_X4_outflowNow hN  eo36) (qn_m 295 (by decide) hN) (by decide) (by decide) rfl wk_8_19 wk_8_21 ws_X4_outflowNow wk_1_9 wk_8_22 hd_X4_outflowNow ⟨(Nat.le_of_ble_eq_true rfl), (Nat.le_of_ble_eq_true rfl)⟩ (Nat.le_of_ble_eq_true rfl) ⟨(Nat.le_of_ble_eq_true rfl), (Nat.le_of_ble_eq_true rfl)⟩ dX4_driestMonth_66 rfl rfl ?_
          refine gq_iload_n C dX4_driestMonth_69 rfl 3 rfl ?_
          rcases ite_ex z35 with ⟨c38, z39⟩ | ⟨c38, z39⟩
          · refine gq_icmp_ge_t (tgt := 81) C dX4_driestMonth_70 (by decide) c38 ?_
            cases z39
            exact gq_widen (Nat.le_of_ble_eq_true rfl) (Nat.le_of_ble_eq_true rfl) (gq_sub [0, 1, 2, 3, 4] rfl J81)
          · refine gq_icmp_ge_f (tgt := 81) C dX4_driestMonth_70 (by decide) c38 ?_
            refine gq_iload C dX4_driestMonth_73 4 rfl ?_
            refine gq_istore_n (lv' := [(2, .int v4), (0, .ref (eB E + 295)), (1, .int u1), (3, .int v3), (4, .int v4)]) C dX4_driestMonth_75 rfl (by decide) rfl ?_
            refine gq_aload_n C dX4_driestMonth_76 rfl 1 rfl ?_
            obtain ⟨x42, eo41, z40⟩ := bind_ex z39
            refine gq_V (As := []) (rest := []) (j := 5) C (c_X4_outflowNow hN  eo41) (qn_m 295 (by decide) hN) (by decide) (by decide) rfl wk_8_19 wk_8_21 ws_X4_outflowNow wk_1_9 wk_8_22 hd_X4_outflowNow ⟨(Nat.le_of_ble_eq_true rfl), (Nat.le_of_ble_eq_true rfl)⟩ (Nat.le_of_ble_eq_true rfl) ⟨(Nat.le_of_ble_eq_true rfl), (Nat.le_of_ble_eq_true rfl)⟩ dX4_driestMonth_77 rfl rfl ?_
            refine gq_istore_n (lv' := [(3, .int x42), (2, .int v4), (0, .ref (eB E + 295)), (1, .int u1), (4, .int v4)]) C dX4_driestMonth_80 rfl (by decide) rfl ?_
            cases z40
            exact gq_widen (Nat.le_of_ble_eq_true rfl) (Nat.le_of_ble_eq_true rfl) (gq_sub [2, 3, 1, 0, 4] rfl J81)
set_option maxHeartbeats 4000000 in
set_option maxRecDepth 100000 in
theorem c_X4_driestMonth {l : Launch} {E : Ev} (hN : 311 ≤ eN E) {p1 : Int32} {μ : Mm} {r : Int32} {μ' : Mm} (z0 : F_X4_driestMonth p1 μ = some (r, μ')) : Ct l E yX4_driestMonth (Cond.code yX4_driestMonth cX4_driestMonth 5 (some .int) :: GW) rm_X4_driestMonth [.ref (eB E + 295), .int p1] μ (some (.int r)) μ' := by
  refine ct_of (by decide) (Nat.le_of_ble_eq_true rfl) (fun p e s m args below meth c C hr => ?_)
  have C : Cq E p s m args meth c cX4_driestMonth 5 RX4 := C
  refine gq_lv (lv' := [(0, .ref (eB E + 295)), (1, .int p1)]) rfl ?_
  unfold F_X4_driestMonth at z0
  refine gq_aload_n C dX4_driestMonth_0 rfl 0 rfl ?_
  refine gq_aload_n C dX4_driestMonth_1 rfl 0 rfl ?_
  refine gq_iload_n C dX4_driestMonth_2 rfl 1 rfl ?_
  obtain ⟨x3, eo2, z1⟩ := bind_ex z0
  refine gq_V (As := [.int p1]) (rest := [.ref (eB E + 295)]) (j := 5) C (c_X4_isMonths hN  eo2) (qn_m 295 (by decide) hN) (by decide) (by decide) rfl wk_8_59 wk_8_61 ws_X4_isMonths wk_1_9 wk_8_62 hd_X4_isMonths ⟨(Nat.le_of_ble_eq_true rfl), (Nat.le_of_ble_eq_true rfl)⟩ (Nat.le_of_ble_eq_true rfl) ⟨(Nat.le_of_ble_eq_true rfl), (Nat.le_of_ble_eq_true rfl)⟩ dX4_driestMonth_3 rfl rfl ?_
  obtain ⟨x4, z5, z6⟩ := bind_ex z1
  refine gq_join (k' := 0) (n' := 0) (pc' := 27) (lv' := [(0, .ref (eB E + 295)), (1, .int p1)]) (st' := [.int x4, .ref (eB E + 295)]) (μ' := μ) ?_ (fun J27 => ?_)
  · obtain ⟨m14, em14, z15⟩ := bind_ex z6
    refine gq_put5_0 C (qn_m 295 (by decide) hN) (by decide) wk_6_162 (Option.some.inj em14).symm dX4_driestMonth_27 ?_
    refine gq_aload_n C dX4_driestMonth_30 rfl 0 rfl ?_
    refine gq_get5 C (qn_m 295 (by decide) hN) (by decide) 0 (by decide) wk_6_162 rfl dX4_driestMonth_31 ?_
    rcases ite_ex z15 with ⟨c16, z17⟩ | ⟨c16, z17⟩
    · refine gq_if_le_t (tgt := 39) C dX4_driestMonth_34 (by decide) c16 ?_
      refine gq_aload_n C dX4_driestMonth_39 rfl 0 rfl ?_
      obtain ⟨m20, eo19, z18⟩ := bind_ex z17
      refine gq_V (As := []) (rest := []) (j := 5) C (c_X4_putsAside hN  eo19) (qn_m 295 (by decide) hN) (by decide) (by decide) rfl wk_8_67 wk_8_69 ws_X4_putsAside wk_1_9 wk_8_70 hd_X4_putsAside ⟨(Nat.le_of_ble_eq_true rfl), (Nat.le_of_ble_eq_true rfl)⟩ (Nat.le_of_ble_eq_true rfl) ⟨(Nat.le_of_ble_eq_true rfl), (Nat.le_of_ble_eq_true rfl)⟩ dX4_driestMonth_40 rfl rfl ?_
      refine gq_iconst (v := 0) C dX4_driestMonth_43 (by decide) ?_
      refine gq_istore_n (lv' := [(2, .int (0 : Int32)), (0, .ref (eB E + 295)), (1, .int p1)]) C dX4_driestMonth_44 rfl (by decide) rfl ?_
      refine gq_iconst (v := 0) C dX4_driestMonth_45 (by decide) ?_
      refine gq_istore_n (lv' := [(3, .int (0 : Int32)), (2, .int (0 : Int32)), (0, .ref (eB E + 295)), (1, .int p1)]) C dX4_driestMonth_46 rfl (by decide) rfl ?_
      refine gq_iconst (v := 1) C dX4_driestMonth_47 (by decide) ?_
      refine gq_istore (lv' := [(4, .int (1 : Int32)), (3, .int (0 : Int32)), (2, .int (0 : Int32)), (0, .ref (eB E + 295)), (1, .int p1)]) C dX4_driestMonth_48 (by decide) rfl ?_
      obtain ⟨⟨x46, m47⟩, eo45, z44⟩ := bind_ex z18
      dsimp only at z44
      refine gq_widen (k' := 0) (n' := 0) (Nat.le_of_ble_eq_true rfl) (Nat.le_of_ble_eq_true rfl) (gq_sub [3, 4, 2, 1, 0] rfl ?_)
      refine l_X4_driestMonth_50 hN C  qFuel _ _ _ _ _ _ eo45 ?_
      refine gq_aload_n C dX4_driestMonth_87 rfl 0 rfl ?_
      obtain ⟨m50, eo49, z48⟩ := bind_ex z44
      refine gq_V (As := []) (rest := []) (j := 5) C (c_X4_takesBack hN  eo49) (qn_m 295 (by decide) hN) (by decide) (by decide) rfl wk_8_128 wk_8_130 ws_X4_takesBack wk_1_9 wk_8_131 hd_X4_takesBack ⟨(Nat.le_of_ble_eq_true rfl), (Nat.le_of_ble_eq_true rfl)⟩ (Nat.le_of_ble_eq_true rfl) ⟨(Nat.le_of_ble_eq_true rfl), (Nat.le_of_ble_eq_true rfl)⟩ dX4_driestMonth_88 rfl rfl ?_
      refine gq_iload_n C dX4_driestMonth_91 rfl 1 rfl ?_
      cases z48
      exact gq_iret C hr dX4_driestMonth_92 (Nat.le_of_ble_eq_true rfl) (Nat.le_of_ble_eq_true rfl)
    · refine gq_if_le_f (tgt := 39) C dX4_driestMonth_34 (by decide) c16 ?_
      refine gq_iconst (v := 0) C dX4_driestMonth_37 (by decide) ?_
      cases z17
      exact gq_iret C hr dX4_driestMonth_38 (Nat.le_of_ble_eq_true rfl) (Nat.le_of_ble_eq_true rfl)
  · rcases ite_ex z5 with ⟨c7, z8⟩ | ⟨c7, z8⟩
    · refine gq_if_ne_f (tgt := 13) C dX4_driestMonth_6 (by decide) c7 ?_
      refine gq_iconst (v := 1) C dX4_driestMonth_9 (by decide) ?_
      refine gq_goto (tgt := 27) C dX4_driestMonth_10 (by decide) ?_
      cases z8
      exact gq_widen (Nat.le_of_ble_eq_true rfl) (Nat.le_of_ble_eq_true rfl) (gq_sub [0, 1] rfl J27)
    · refine gq_if_ne_t (tgt := 13) C dX4_driestMonth_6 (by decide) c7 ?_
      refine gq_aload_n C dX4_driestMonth_13 rfl 0 rfl ?_
      refine gq_get5 C (qn_m 295 (by decide) hN) (by decide) 1 (by decide) wk_6_163 rfl dX4_driestMonth_14 ?_
      refine gq_iconst (v := 0) C dX4_driestMonth_17 (by decide) ?_
      obtain ⟨x9, ex9, z10⟩ := bind_ex z8
      refine gq_ialoadI C (qn_m 296 (by decide) hN) (by decide) ex9 dX4_driestMonth_18 ?_
      rcases ite_ex z10 with ⟨c11, z12⟩ | ⟨c11, z12⟩
      · refine gq_if_ne_f (tgt := 26) C dX4_driestMonth_19 (by decide) c11 ?_
        refine gq_iconst (v := 2) C dX4_driestMonth_22 (by decide) ?_
        refine gq_goto (tgt := 27) C dX4_driestMonth_23 (by decide) ?_
        cases z12
        exact gq_widen (Nat.le_of_ble_eq_true rfl) (Nat.le_of_ble_eq_true rfl) (gq_sub [0, 1] rfl J27)
      · refine gq_if_ne_t (tgt := 26) C dX4_driestMonth_19 (by decide) c11 ?_
        refine gq_iconst (v := 0) C dX4_driestMonth_26 (by decide) ?_
        cases z12
        exact gq_widen (Nat.le_of_ble_eq_true rfl) (Nat.le_of_ble_eq_true rfl) (gq_sub [0, 1] rfl J27)
abbrev rm_X4_nextExercise : Room := { frames := 2, cells := 0, slots := 0, locals := 44 }
def F_X4_nextExercise_15 (u1 : Int32) (μ : Mm) : Nat → Int32 → Option ((Int32 × Mm) ⊕ Unit)
  | 0, _ => none
  | n + 1, v2 =>
  (aI μ 296 (4 : Int32)).bind fun x5 =>
  if x5 ≤ v2 then
  (some (.inr ()))
  else
  ((F_X4_isExercised v2 u1 μ).bind fun o10 =>
  if o10 = 0 then
  (F_X4_nextExercise_15 u1 μ n (v2 + 1))
  else
  (some (.inl (u1, μ))))
def F_X4_nextExercise_7  (μ : Mm) : Nat → Int32 → Option (Int32 × Mm)
  | 0, _ => none
  | n + 1, v1 =>
  if (60 : Int32) < v1 then
  (some ((-1 : Int32), μ))
  else
  ((F_X4_nextExercise_15 v1 μ qFuel (0 : Int32)).bind fun o15 => match o15 with
  | .inl r => some r
  | .inr _ =>
  (F_X4_nextExercise_7 μ n (v1 + 1)))
def F_X4_nextExercise  (μ : Mm) : Option (Int32 × Mm) :=
  (some (uI μ 295 0 (0 : Int32))).bind fun m1 =>
  F_X4_nextExercise_7 m1 qFuel (0 : Int32)
set_option maxHeartbeats 4000000 in
set_option maxRecDepth 100000 in
theorem l_X4_nextExercise_15 {l : Launch} {E : Ev} (hN : 311 ≤ eN E) {p : Program} {e : Env} {s : State} {m : MethodId} {args : Array Value} {below : List Frame} {meth : Method} {c : Code} (C : Cq E p s m args meth c cX4_nextExercise 3 RX4) (hr : meth.sig.returnType = (some .int)) {Q : State → Prop} {u1 : Int32} {μ : Mm} : ∀ (n : Nat) (v2 : Int32) (w : ((Int32 × Mm) ⊕ Unit)), F_X4_nextExercise_15 u1 μ n v2 = some w → (∀ r, w = .inl r → Q = (MQ below (qQ E (some (.int r.1)) r.2) args s rm_X4_nextExercise.cells rm_X4_nextExercise.slots (eA E))) → (∀ u, w = .inr u → Gq E p l e rm_X4_nextExercise s m args below meth c 0 0 3 Q 42 [(0, .ref (eB E + 295)), (1, .int u1)] [] μ) → Gq E p l e rm_X4_nextExercise s m args below meth c 0 0 3 Q 15 [(0, .ref (eB E + 295)), (1, .int u1), (2, .int v2)] [] μ := by
  intro n
  induction n with
  | zero =>
    intro v2 w z0 hq1 kk
    rw [F_X4_nextExercise_15] at z0
    cases z0
  | succ n ih =>
    intro v2 w z0 hq1 kk
    rw [F_X4_nextExercise_15] at z0
    refine gq_iload_n C dX4_nextExercise_15 rfl 2 rfl ?_
    refine gq_aload_n C dX4_nextExercise_16 rfl 0 rfl ?_
    refine gq_get5 C (qn_m 295 (by decide) hN) (by decide) 1 (by decide) wk_6_163 rfl dX4_nextExercise_17 ?_
    refine gq_iconst (v := 4) C dX4_nextExercise_20 (by decide) ?_
    obtain ⟨x5, ex5, z6⟩ := bind_ex z0
    refine gq_ialoadI C (qn_m 296 (by decide) hN) (by decide) ex5 dX4_nextExercise_21 ?_
    rcases ite_ex z6 with ⟨c7, z8⟩ | ⟨c7, z8⟩
    · refine gq_icmp_ge_t (tgt := 42) C dX4_nextExercise_22 (by decide) c7 ?_
      exact gq_widen (Nat.le_of_ble_eq_true rfl) (Nat.le_of_ble_eq_true rfl) (gq_sub [0, 1] rfl (kk _ (Option.some.inj z8).symm))
    · refine gq_icmp_ge_f (tgt := 42) C dX4_nextExercise_22 (by decide) c7 ?_
      refine gq_aload_n C dX4_nextExercise_25 rfl 0 rfl ?_
      refine gq_iload_n C dX4_nextExercise_26 rfl 2 rfl ?_
      refine gq_iload_n C dX4_nextExercise_27 rfl 1 rfl ?_
      obtain ⟨x11, eo10, z9⟩ := bind_ex z8
      refine gq_V (As := [.int v2, .int u1]) (rest := []) (j := 5) C (c_X4_isExercised hN  eo10) (qn_m 295 (by decide) hN) (by decide) (by decide) rfl wk_7_211 wk_7_213 ws_X4_isExercised wk_1_9 wk_7_214 hd_X4_isExercised ⟨(Nat.le_of_ble_eq_true rfl), (Nat.le_of_ble_eq_true rfl)⟩ (Nat.le_of_ble_eq_true rfl) ⟨(Nat.le_of_ble_eq_true rfl), (Nat.le_of_ble_eq_true rfl)⟩ dX4_nextExercise_28 rfl rfl ?_
      rcases ite_ex z9 with ⟨c12, z13⟩ | ⟨c12, z13⟩
      · refine gq_if_eq_t (tgt := 36) C dX4_nextExercise_31 (by decide) c12 ?_
        refine gq_iinc (v := (v2 + 1)) (lv' := [(2, .int (v2 + 1)), (0, .ref (eB E + 295)), (1, .int u1)]) (q := 2) C dX4_nextExercise_36 rfl rfl (by decide) rfl ?_
        refine gq_goto (tgt := 15) C dX4_nextExercise_39 (by decide) ?_
        refine gq_widen (k' := 0) (n' := 0) (Nat.le_of_ble_eq_true rfl) (Nat.le_of_ble_eq_true rfl) (gq_sub [1, 2, 0] rfl ?_)
        exact ih _ _ z13 hq1 kk
      · refine gq_if_eq_f (tgt := 36) C dX4_nextExercise_31 (by decide) c12 ?_
        refine gq_iload_n C dX4_nextExercise_34 rfl 1 rfl ?_
        have hQ := hq1 _ (Option.some.inj z13).symm
        rw [hQ]
        exact gq_iret C hr dX4_nextExercise_35 (Nat.le_of_ble_eq_true rfl) (Nat.le_of_ble_eq_true rfl)
set_option maxHeartbeats 4000000 in
set_option maxRecDepth 100000 in
theorem l_X4_nextExercise_7 {l : Launch} {E : Ev} (hN : 311 ≤ eN E) {p : Program} {e : Env} {s : State} {m : MethodId} {args : Array Value} {below : List Frame} {meth : Method} {c : Code} (C : Cq E p s m args meth c cX4_nextExercise 3 RX4) (hr : meth.sig.returnType = (some .int)) {μ : Mm} : ∀ (n : Nat) (v1 : Int32) (r : Int32) (μ' : Mm), F_X4_nextExercise_7 μ n v1 = some (r, μ') → Gq E p l e rm_X4_nextExercise s m args below meth c 0 0 3 (MQ below (qQ E (some (.int r)) μ') args s rm_X4_nextExercise.cells rm_X4_nextExercise.slots (eA E)) 7 [(0, .ref (eB E + 295)), (1, .int v1)] [] μ := by
  intro n
  induction n with
  | zero =>
    intro v1 r μ' z0
    rw [F_X4_nextExercise_7] at z0
    cases z0
  | succ n ih =>
    intro v1 r μ' z0
    rw [F_X4_nextExercise_7] at z0
    refine gq_iload_n C dX4_nextExercise_7 rfl 1 rfl ?_
    refine gq_bipush (v := 60) C dX4_nextExercise_8 (by decide) ?_
    rcases ite_ex z0 with ⟨c3, z4⟩ | ⟨c3, z4⟩
    · refine gq_icmp_gt_t (tgt := 48) C dX4_nextExercise_10 (by decide) c3 ?_
      refine gq_iconst (v := -1) C dX4_nextExercise_48 (by decide) ?_
      cases z4
      exact gq_iret C hr dX4_nextExercise_49 (Nat.le_of_ble_eq_true rfl) (Nat.le_of_ble_eq_true rfl)
    · refine gq_icmp_gt_f (tgt := 48) C dX4_nextExercise_10 (by decide) c3 ?_
      refine gq_iconst (v := 0) C dX4_nextExercise_13 (by decide) ?_
      refine gq_istore_n (lv' := [(2, .int (0 : Int32)), (0, .ref (eB E + 295)), (1, .int v1)]) C dX4_nextExercise_14 rfl (by decide) rfl ?_
      obtain ⟨o15, eo15, z14⟩ := bind_ex z4
      refine gq_widen (k' := 0) (n' := 0) (Nat.le_of_ble_eq_true rfl) (Nat.le_of_ble_eq_true rfl) (gq_sub [1, 2, 0] rfl ?_)
      refine l_X4_nextExercise_15 hN C hr  qFuel _ o15 eo15 (fun r9 h9 => ?_) (fun u9 h9 => ?_)
      · subst h9
        cases z14
        rfl
      · subst h9
        dsimp only at z14
        refine gq_iinc (v := (v1 + 1)) (lv' := [(1, .int (v1 + 1)), (0, .ref (eB E + 295))]) (q := 1) C dX4_nextExercise_42 rfl rfl (by decide) rfl ?_
        refine gq_goto (tgt := 7) C dX4_nextExercise_45 (by decide) ?_
        refine gq_widen (k' := 0) (n' := 0) (Nat.le_of_ble_eq_true rfl) (Nat.le_of_ble_eq_true rfl) (gq_sub [1, 0] rfl ?_)
        exact ih _ _ _ z14
set_option maxHeartbeats 4000000 in
set_option maxRecDepth 100000 in
theorem c_X4_nextExercise {l : Launch} {E : Ev} (hN : 311 ≤ eN E) {μ : Mm} {r : Int32} {μ' : Mm} (z0 : F_X4_nextExercise  μ = some (r, μ')) : Ct l E yX4_nextExercise (Cond.code yX4_nextExercise cX4_nextExercise 3 (some .int) :: GW) rm_X4_nextExercise [.ref (eB E + 295)] μ (some (.int r)) μ' := by
  refine ct_of (by decide) (Nat.le_of_ble_eq_true rfl) (fun p e s m args below meth c C hr => ?_)
  have C : Cq E p s m args meth c cX4_nextExercise 3 RX4 := C
  refine gq_lv (lv' := [(0, .ref (eB E + 295))]) rfl ?_
  unfold F_X4_nextExercise at z0
  refine gq_aload_n C dX4_nextExercise_0 rfl 0 rfl ?_
  refine gq_iconst (v := 0) C dX4_nextExercise_1 (by decide) ?_
  obtain ⟨m1, em1, z2⟩ := bind_ex z0
  refine gq_put5_0 C (qn_m 295 (by decide) hN) (by decide) wk_6_162 (Option.some.inj em1).symm dX4_nextExercise_2 ?_
  refine gq_iconst (v := 0) C dX4_nextExercise_5 (by decide) ?_
  refine gq_istore_n (lv' := [(1, .int (0 : Int32)), (0, .ref (eB E + 295))]) C dX4_nextExercise_6 rfl (by decide) rfl ?_
  refine gq_widen (k' := 0) (n' := 0) (Nat.le_of_ble_eq_true rfl) (Nat.le_of_ble_eq_true rfl) (gq_sub [1, 0] rfl ?_)
  exact l_X4_nextExercise_7 hN C hr  qFuel _ _ _ z2
abbrev rm_X4_free : Room := { frames := 2, cells := 0, slots := 0, locals := 43 }
def F_X4_free_26 (u1 : Int32) (μ : Mm) : Nat → Int32 → Int32 → Int32 → Option Int32
  | 0, _, _, _ => none
  | n + 1, v2, v3, v4 =>
  (aI μ 296 (0 : Int32)).bind fun x12 =>
  if x12 ≤ v4 then
  (some v3)
  else
  (if (μ.1 295 0) = 0 then
  ((F_X4_comingTo v4 μ).bind fun o19 =>
  (if v4 < u1 then
  (some v3)
  else
  ((aI μ 296 ((14 : Int32) + v4)).bind fun x26 =>
  (F_X4_lesser v3 ((v2 + o19) - x26) μ).bind fun o29 =>
  some o29)).bind fun o31 =>
  F_X4_free_26 u1 μ n (v2 + o19) o31 (v4 + 1))
  else
  (some v3))
def F_X4_free (p1 : Int32) (μ : Mm) : Option (Int32 × Mm) :=
  (F_X4_isReach p1 μ).bind fun o2 =>
  (if o2 = 0 then
  (some (1 : Int32))
  else
  (some (0 : Int32))).bind fun o9 =>
  (some (uI μ 295 0 o9)).bind fun m10 =>
  (F_X4_free_26 p1 m10 qFuel (0 : Int32) (999 : Int32) (0 : Int32)).bind fun o33 =>
  if 0 < (m10.1 295 0) then
  (some ((0 : Int32), m10))
  else
  (if 0 ≤ o33 then
  (some (o33, m10))
  else
  (some ((0 : Int32), m10)))
set_option maxHeartbeats 4000000 in
set_option maxRecDepth 100000 in
theorem l_X4_free_26 {l : Launch} {E : Ev} (hN : 311 ≤ eN E) {p : Program} {e : Env} {s : State} {m : MethodId} {args : Array Value} {below : List Frame} {meth : Method} {c : Code} (C : Cq E p s m args meth c cX4_free 5 RX4) {Q : State → Prop} {u1 : Int32} {μ : Mm} : ∀ (n : Nat) (v2 : Int32) (v3 : Int32) (v4 : Int32) (w3 : Int32), F_X4_free_26 u1 μ n v2 v3 v4 = some w3 → Gq E p l e rm_X4_free s m args below meth c 0 0 5 Q 86 [(0, .ref (eB E + 295)), (3, .int w3)] [] μ → Gq E p l e rm_X4_free s m args below meth c 0 0 5 Q 26 [(0, .ref (eB E + 295)), (1, .int u1), (2, .int v2), (3, .int v3), (4, .int v4)] [] μ := by
  intro n
  induction n with
  | zero =>
    intro v2 v3 v4 w3 z0 kk
    rw [F_X4_free_26] at z0
    cases z0
  | succ n ih =>
    intro v2 v3 v4 w3 z0 kk
    rw [F_X4_free_26] at z0
    refine gq_iload C dX4_free_26 4 rfl ?_
    refine gq_aload_n C dX4_free_28 rfl 0 rfl ?_
    refine gq_get5 C (qn_m 295 (by decide) hN) (by decide) 1 (by decide) wk_6_163 rfl dX4_free_29 ?_
    refine gq_iconst (v := 0) C dX4_free_32 (by decide) ?_
    obtain ⟨x12, ex12, z13⟩ := bind_ex z0
    refine gq_ialoadI C (qn_m 296 (by decide) hN) (by decide) ex12 dX4_free_33 ?_
    rcases ite_ex z13 with ⟨c14, z15⟩ | ⟨c14, z15⟩
    · refine gq_icmp_ge_t (tgt := 86) C dX4_free_34 (by decide) c14 ?_
      cases z15
      exact gq_widen (Nat.le_of_ble_eq_true rfl) (Nat.le_of_ble_eq_true rfl) (gq_sub [0, 3] rfl kk)
    · refine gq_icmp_ge_f (tgt := 86) C dX4_free_34 (by decide) c14 ?_
      refine gq_aload_n C dX4_free_37 rfl 0 rfl ?_
      refine gq_get5 C (qn_m 295 (by decide) hN) (by decide) 0 (by decide) wk_6_162 rfl dX4_free_38 ?_
      rcases ite_ex z15 with ⟨c16, z17⟩ | ⟨c16, z17⟩
      · refine gq_if_ne_f (tgt := 86) C dX4_free_41 (by decide) c16 ?_
        refine gq_iload_n C dX4_free_44 rfl 2 rfl ?_
        refine gq_aload_n C dX4_free_45 rfl 0 rfl ?_
        refine gq_iload C dX4_free_46 4 rfl ?_
        obtain ⟨x20, eo19, z18⟩ := bind_ex z17
        refine gq_V (As := [.int v4]) (rest := [.int v2]) (j := 5) C (c_X4_comingTo hN  eo19) (qn_m 295 (by decide) hN) (by decide) (by decide) rfl wk_7_155 wk_7_157 ws_X4_comingTo wk_1_9 wk_7_158 hd_X4_comingTo ⟨(Nat.le_of_ble_eq_true rfl), (Nat.le_of_ble_eq_true rfl)⟩ (Nat.le_of_ble_eq_true rfl) ⟨(Nat.le_of_ble_eq_true rfl), (Nat.le_of_ble_eq_true rfl)⟩ dX4_free_48 rfl rfl ?_
        refine gq_iadd C dX4_free_51 ?_
        refine gq_istore_n (lv' := [(2, .int (v2 + x20)), (0, .ref (eB E + 295)), (1, .int u1), (3, .int v3), (4, .int v4)]) C dX4_free_52 rfl (by decide) rfl ?_
        refine gq_iload C dX4_free_53 4 rfl ?_
        refine gq_iload_n C dX4_free_55 rfl 2 rfl ?_
        obtain ⟨x21, z22, z23⟩ := bind_ex z18
        refine gq_join (k' := 0) (n' := 0) (pc' := 79) (lv' := [(0, .ref (eB E + 295)), (1, .int u1), (2, .int (v2 + x20)), (4, .int v4)]) (st' := [.int x21]) (μ' := μ) ?_ (fun J79 => ?_)
        · refine gq_istore_n (lv' := [(3, .int x21), (0, .ref (eB E + 295)), (1, .int u1), (2, .int (v2 + x20)), (4, .int v4)]) C dX4_free_79 rfl (by decide) rfl ?_
          refine gq_iinc (v := (v4 + 1)) (lv' := [(4, .int (v4 + 1)), (3, .int x21), (0, .ref (eB E + 295)), (1, .int u1), (2, .int (v2 + x20))]) (q := 4) C dX4_free_80 rfl rfl (by decide) rfl ?_
          refine gq_goto (tgt := 26) C dX4_free_83 (by decide) ?_
          refine gq_widen (k' := 0) (n' := 0) (Nat.le_of_ble_eq_true rfl) (Nat.le_of_ble_eq_true rfl) (gq_sub [2, 3, 4, 1, 0] rfl ?_)
          exact ih _ _ _ _ z23 kk
        · rcases ite_ex z22 with ⟨c24, z25⟩ | ⟨c24, z25⟩
          · refine gq_icmp_lt_t (tgt := 78) C dX4_free_56 (by decide) c24 ?_
            refine gq_iload_n C dX4_free_78 rfl 3 rfl ?_
            cases z25
            exact gq_widen (Nat.le_of_ble_eq_true rfl) (Nat.le_of_ble_eq_true rfl) (gq_sub [1, 2, 0, 4] rfl J79)
          · refine gq_icmp_lt_f (tgt := 78) C dX4_free_56 (by decide) c24 ?_
            refine gq_iload_n C dX4_free_59 rfl 3 rfl ?_
            refine gq_iload_n C dX4_free_60 rfl 0 rfl ?_
            refine gq_aload_n C dX4_free_61 rfl 1 rfl ?_
            refine gq_get5 C (qn_m 295 (by decide) hN) (by decide) 1 (by decide) wk_6_163 rfl dX4_free_62 ?_
            refine gq_bipush (v := 14) C dX4_free_65 (by decide) ?_
            refine gq_iload C dX4_free_67 4 rfl ?_
            refine gq_iadd C dX4_free_69 ?_
            obtain ⟨x26, ex26, z27⟩ := bind_ex z25
            refine gq_ialoadI C (qn_m 296 (by decide) hN) (by decide) ex26 dX4_free_70 ?_
            refine gq_isub C dX4_free_71 ?_
            obtain ⟨x30, eo29, z28⟩ := bind_ex z27
            refine gq_S (As := [.int v3, .int ((v2 + x20) - x26)]) (rest := []) C (c_X4_lesser hN  eo29) wk_8_109 wk_8_110 wk_1_9 wk_8_111 hd_X4_lesser ⟨(Nat.le_of_ble_eq_true rfl), (Nat.le_of_ble_eq_true rfl)⟩ (Nat.le_of_ble_eq_true rfl) ⟨(Nat.le_of_ble_eq_true rfl), (Nat.le_of_ble_eq_true rfl)⟩ dX4_free_72 rfl rfl ?_
            refine gq_goto (tgt := 79) C dX4_free_75 (by decide) ?_
            cases z28
            exact gq_widen (Nat.le_of_ble_eq_true rfl) (Nat.le_of_ble_eq_true rfl) (gq_sub [1, 2, 0, 4] rfl J79)
      · refine gq_if_ne_t (tgt := 86) C dX4_free_41 (by decide) c16 ?_
        cases z17
        exact gq_widen (Nat.le_of_ble_eq_true rfl) (Nat.le_of_ble_eq_true rfl) (gq_sub [0, 3] rfl kk)
set_option maxHeartbeats 4000000 in
set_option maxRecDepth 100000 in
theorem c_X4_free {l : Launch} {E : Ev} (hN : 311 ≤ eN E) {p1 : Int32} {μ : Mm} {r : Int32} {μ' : Mm} (z0 : F_X4_free p1 μ = some (r, μ')) : Ct l E yX4_free (Cond.code yX4_free cX4_free 5 (some .int) :: GW) rm_X4_free [.ref (eB E + 295), .int p1] μ (some (.int r)) μ' := by
  refine ct_of (by decide) (Nat.le_of_ble_eq_true rfl) (fun p e s m args below meth c C hr => ?_)
  have C : Cq E p s m args meth c cX4_free 5 RX4 := C
  refine gq_lv (lv' := [(0, .ref (eB E + 295)), (1, .int p1)]) rfl ?_
  unfold F_X4_free at z0
  refine gq_aload_n C dX4_free_0 rfl 0 rfl ?_
  refine gq_aload_n C dX4_free_1 rfl 0 rfl ?_
  refine gq_iload_n C dX4_free_2 rfl 1 rfl ?_
  obtain ⟨x3, eo2, z1⟩ := bind_ex z0
  refine gq_V (As := [.int p1]) (rest := [.ref (eB E + 295)]) (j := 5) C (c_X4_isReach hN  eo2) (qn_m 295 (by decide) hN) (by decide) (by decide) rfl wk_7_147 wk_7_149 ws_X4_isReach wk_1_9 wk_7_150 hd_X4_isReach ⟨(Nat.le_of_ble_eq_true rfl), (Nat.le_of_ble_eq_true rfl)⟩ (Nat.le_of_ble_eq_true rfl) ⟨(Nat.le_of_ble_eq_true rfl), (Nat.le_of_ble_eq_true rfl)⟩ dX4_free_3 rfl rfl ?_
  obtain ⟨x4, z5, z6⟩ := bind_ex z1
  refine gq_join (k' := 0) (n' := 0) (pc' := 14) (lv' := [(0, .ref (eB E + 295)), (1, .int p1)]) (st' := [.int x4, .ref (eB E + 295)]) (μ' := μ) ?_ (fun J14 => ?_)
  · obtain ⟨m10, em10, z11⟩ := bind_ex z6
    refine gq_put5_0 C (qn_m 295 (by decide) hN) (by decide) wk_6_162 (Option.some.inj em10).symm dX4_free_14 ?_
    refine gq_iconst (v := 0) C dX4_free_17 (by decide) ?_
    refine gq_istore_n (lv' := [(2, .int (0 : Int32)), (0, .ref (eB E + 295)), (1, .int p1)]) C dX4_free_18 rfl (by decide) rfl ?_
    refine gq_sipush (v := 999) C dX4_free_19 (by decide) ?_
    refine gq_istore_n (lv' := [(3, .int (999 : Int32)), (2, .int (0 : Int32)), (0, .ref (eB E + 295)), (1, .int p1)]) C dX4_free_22 rfl (by decide) rfl ?_
    refine gq_iconst (v := 0) C dX4_free_23 (by decide) ?_
    refine gq_istore (lv' := [(4, .int (0 : Int32)), (3, .int (999 : Int32)), (2, .int (0 : Int32)), (0, .ref (eB E + 295)), (1, .int p1)]) C dX4_free_24 (by decide) rfl ?_
    obtain ⟨x34, eo33, z32⟩ := bind_ex z11
    refine gq_widen (k' := 0) (n' := 0) (Nat.le_of_ble_eq_true rfl) (Nat.le_of_ble_eq_true rfl) (gq_sub [3, 4, 2, 1, 0] rfl ?_)
    refine l_X4_free_26 hN C  qFuel _ _ _ _ eo33 ?_
    refine gq_aload_n C dX4_free_86 rfl 0 rfl ?_
    refine gq_get5 C (qn_m 295 (by decide) hN) (by decide) 0 (by decide) wk_6_162 rfl dX4_free_87 ?_
    rcases ite_ex z32 with ⟨c35, z36⟩ | ⟨c35, z36⟩
    · refine gq_if_gt_t (tgt := 97) C dX4_free_90 (by decide) c35 ?_
      refine gq_iconst (v := 0) C dX4_free_97 (by decide) ?_
      refine gq_goto (tgt := 102) C dX4_free_98 (by decide) ?_
      cases z36
      exact gq_iret C hr dX4_free_102 (Nat.le_of_ble_eq_true rfl) (Nat.le_of_ble_eq_true rfl)
    · refine gq_if_gt_f (tgt := 97) C dX4_free_90 (by decide) c35 ?_
      refine gq_iload_n C dX4_free_93 rfl 1 rfl ?_
      rcases ite_ex z36 with ⟨c37, z38⟩ | ⟨c37, z38⟩
      · refine gq_if_ge_t (tgt := 101) C dX4_free_94 (by decide) c37 ?_
        refine gq_iload_n C dX4_free_101 rfl 1 rfl ?_
        cases z38
        exact gq_iret C hr dX4_free_102 (Nat.le_of_ble_eq_true rfl) (Nat.le_of_ble_eq_true rfl)
      · refine gq_if_ge_f (tgt := 101) C dX4_free_94 (by decide) c37 ?_
        refine gq_iconst (v := 0) C dX4_free_97 (by decide) ?_
        refine gq_goto (tgt := 102) C dX4_free_98 (by decide) ?_
        cases z38
        exact gq_iret C hr dX4_free_102 (Nat.le_of_ble_eq_true rfl) (Nat.le_of_ble_eq_true rfl)
  · rcases ite_ex z5 with ⟨c7, z8⟩ | ⟨c7, z8⟩
    · refine gq_if_eq_t (tgt := 13) C dX4_free_6 (by decide) c7 ?_
      refine gq_iconst (v := 1) C dX4_free_13 (by decide) ?_
      cases z8
      exact gq_widen (Nat.le_of_ble_eq_true rfl) (Nat.le_of_ble_eq_true rfl) (gq_sub [0, 1] rfl J14)
    · refine gq_if_eq_f (tgt := 13) C dX4_free_6 (by decide) c7 ?_
      refine gq_iconst (v := 0) C dX4_free_9 (by decide) ?_
      refine gq_goto (tgt := 14) C dX4_free_10 (by decide) ?_
      cases z8
      exact gq_widen (Nat.le_of_ble_eq_true rfl) (Nat.le_of_ble_eq_true rfl) (gq_sub [0, 1] rfl J14)
abbrev rm_X4_bestReach : Room := { frames := 6, cells := 0, slots := 0, locals := 151 }
def F_X4_bestReach_44 (u1 : Int32) : Nat → Int32 → Int32 → Mm → Option (Int32 × Mm)
  | 0, _, _, _ => none
  | n + 1, v2, v3, μ =>
  (aI μ 296 (0 : Int32)).bind fun x21 =>
  if x21 ≤ (μ.1 295 23) then
  (some (v2, μ))
  else
  ((F_X4_rightOf u1 (7 : Int32) μ).bind fun o26 =>
  (F_X4_months (1 : Int32) μ).bind fun o29 =>
  (F_X4_rightOf u1 (7 : Int32) o29).bind fun o32 =>
  (F_X4_takesBack  o29).bind fun o35 =>
  (if (o32 - o26) ≤ v3 then
  (some v2)
  else
  (some (o35.1 295 23))).bind fun o42 =>
  (if (o32 - o26) ≤ v3 then
  (some v3)
  else
  (some (o32 - o26))).bind fun o48 =>
  (some (uI o35 295 23 ((o35.1 295 23) + (1 : Int32)))).bind fun m49 =>
  F_X4_bestReach_44 u1 n o42 o48 m49)
def F_X4_bestReach (p1 : Int32) (μ : Mm) : Option (Int32 × Mm) :=
  (F_X4_isRight p1 μ).bind fun o2 =>
  (if o2 = 0 then
  (some (1 : Int32))
  else
  (some (0 : Int32))).bind fun o9 =>
  (some (uI μ 295 0 o9)).bind fun m10 =>
  if (m10.1 295 0) ≤ 0 then
  ((F_X4_putsAside  m10).bind fun o15 =>
  (some (uI o15 295 22 p1)).bind fun m17 =>
  (some (uI m17 295 23 (0 : Int32))).bind fun m19 =>
  (F_X4_bestReach_44 p1 qFuel (0 : Int32) (-1 : Int32) m19).bind fun o52 =>
  (some (uI o52.2 295 22 (-1 : Int32))).bind fun m55 =>
  some (o52.1, m55))
  else
  (some ((0 : Int32), m10))
set_option maxHeartbeats 4000000 in
set_option maxRecDepth 100000 in
theorem l_X4_bestReach_44 {l : Launch} {E : Ev} (hN : 311 ≤ eN E) {p : Program} {e : Env} {s : State} {m : MethodId} {args : Array Value} {below : List Frame} {meth : Method} {c : Code} (C : Cq E p s m args meth c cX4_bestReach 6 RX4) {Q : State → Prop} {u1 : Int32} : ∀ (n : Nat) (v2 : Int32) (v3 : Int32) (μ : Mm) (w2 : Int32) (μx : Mm), F_X4_bestReach_44 u1 n v2 v3 μ = some (w2, μx) → Gq E p l e rm_X4_bestReach s m args below meth c 0 0 6 Q 128 [(0, .ref (eB E + 295)), (2, .int w2)] [] μx → Gq E p l e rm_X4_bestReach s m args below meth c 0 0 6 Q 44 [(0, .ref (eB E + 295)), (1, .int u1), (2, .int v2), (3, .int v3)] [] μ := by
  intro n
  induction n with
  | zero =>
    intro v2 v3 μ w2 μx z0 kk
    rw [F_X4_bestReach_44] at z0
    cases z0
  | succ n ih =>
    intro v2 v3 μ w2 μx z0 kk
    rw [F_X4_bestReach_44] at z0
    refine gq_aload_n C dX4_bestReach_44 rfl 0 rfl ?_
    refine gq_get5 C (qn_m 295 (by decide) hN) (by decide) 23 (by decide) wk_6_185 rfl dX4_bestReach_45 ?_
    refine gq_aload_n C dX4_bestReach_48 rfl 0 rfl ?_
    refine gq_get5 C (qn_m 295 (by decide) hN) (by decide) 1 (by decide) wk_6_163 rfl dX4_bestReach_49 ?_
    refine gq_iconst (v := 0) C dX4_bestReach_52 (by decide) ?_
    obtain ⟨x21, ex21, z22⟩ := bind_ex z0
    refine gq_ialoadI C (qn_m 296 (by decide) hN) (by decide) ex21 dX4_bestReach_53 ?_
    rcases ite_ex z22 with ⟨c23, z24⟩ | ⟨c23, z24⟩
    · refine gq_icmp_ge_t (tgt := 128) C dX4_bestReach_54 (by decide) c23 ?_
      cases z24
      exact gq_widen (Nat.le_of_ble_eq_true rfl) (Nat.le_of_ble_eq_true rfl) (gq_sub [0, 2] rfl kk)
    · refine gq_icmp_ge_f (tgt := 128) C dX4_bestReach_54 (by decide) c23 ?_
      refine gq_aload_n C dX4_bestReach_57 rfl 0 rfl ?_
      refine gq_iload_n C dX4_bestReach_58 rfl 1 rfl ?_
      refine gq_bipush (v := 7) C dX4_bestReach_59 (by decide) ?_
      obtain ⟨x27, eo26, z25⟩ := bind_ex z24
      refine gq_V (As := [.int u1, .int (7 : Int32)]) (rest := []) (j := 5) C (c_X4_rightOf hN  eo26) (qn_m 295 (by decide) hN) (by decide) (by decide) rfl wk_7_179 wk_7_181 ws_X4_rightOf wk_1_9 wk_7_182 hd_X4_rightOf ⟨(Nat.le_of_ble_eq_true rfl), (Nat.le_of_ble_eq_true rfl)⟩ (Nat.le_of_ble_eq_true rfl) ⟨(Nat.le_of_ble_eq_true rfl), (Nat.le_of_ble_eq_true rfl)⟩ dX4_bestReach_61 rfl rfl ?_
      refine gq_istore (lv' := [(4, .int x27), (0, .ref (eB E + 295)), (1, .int u1), (2, .int v2), (3, .int v3)]) C dX4_bestReach_64 (by decide) rfl ?_
      refine gq_aload_n C dX4_bestReach_66 rfl 1 rfl ?_
      refine gq_iconst (v := 1) C dX4_bestReach_67 (by decide) ?_
      obtain ⟨m30, eo29, z28⟩ := bind_ex z25
      refine gq_V (As := [.int (1 : Int32)]) (rest := []) (j := 5) C (c_X4_months hN  eo29) (qn_m 295 (by decide) hN) (by decide) (by decide) rfl wk_8_71 wk_8_73 ws_X4_months wk_1_9 wk_8_74 hd_X4_months ⟨(Nat.le_of_ble_eq_true rfl), (Nat.le_of_ble_eq_true rfl)⟩ (Nat.le_of_ble_eq_true rfl) ⟨(Nat.le_of_ble_eq_true rfl), (Nat.le_of_ble_eq_true rfl)⟩ dX4_bestReach_68 rfl rfl ?_
      refine gq_aload_n C dX4_bestReach_71 rfl 1 rfl ?_
      refine gq_iload_n C dX4_bestReach_72 rfl 2 rfl ?_
      refine gq_bipush (v := 7) C dX4_bestReach_73 (by decide) ?_
      obtain ⟨x33, eo32, z31⟩ := bind_ex z28
      refine gq_V (As := [.int u1, .int (7 : Int32)]) (rest := []) (j := 5) C (c_X4_rightOf hN  eo32) (qn_m 295 (by decide) hN) (by decide) (by decide) rfl wk_7_179 wk_7_181 ws_X4_rightOf wk_1_9 wk_7_182 hd_X4_rightOf ⟨(Nat.le_of_ble_eq_true rfl), (Nat.le_of_ble_eq_true rfl)⟩ (Nat.le_of_ble_eq_true rfl) ⟨(Nat.le_of_ble_eq_true rfl), (Nat.le_of_ble_eq_true rfl)⟩ dX4_bestReach_75 rfl rfl ?_
      refine gq_iload C dX4_bestReach_78 0 rfl ?_
      refine gq_isub C dX4_bestReach_80 ?_
      refine gq_istore (lv' := [(5, .int (x33 - x27)), (4, .int x27), (0, .ref (eB E + 295)), (1, .int u1), (2, .int v2), (3, .int v3)]) C dX4_bestReach_81 (by decide) rfl ?_
      refine gq_aload_n C dX4_bestReach_83 rfl 2 rfl ?_
      obtain ⟨m36, eo35, z34⟩ := bind_ex z31
      refine gq_V (As := []) (rest := []) (j := 5) C (c_X4_takesBack hN  eo35) (qn_m 295 (by decide) hN) (by decide) (by decide) rfl wk_8_128 wk_8_130 ws_X4_takesBack wk_1_9 wk_8_131 hd_X4_takesBack ⟨(Nat.le_of_ble_eq_true rfl), (Nat.le_of_ble_eq_true rfl)⟩ (Nat.le_of_ble_eq_true rfl) ⟨(Nat.le_of_ble_eq_true rfl), (Nat.le_of_ble_eq_true rfl)⟩ dX4_bestReach_84 rfl rfl ?_
      refine gq_iload C dX4_bestReach_87 0 rfl ?_
      refine gq_iload_n C dX4_bestReach_89 rfl 5 rfl ?_
      obtain ⟨x37, z38, z39⟩ := bind_ex z34
      refine gq_join (k' := 0) (n' := 0) (pc' := 101) (lv' := [(0, .ref (eB E + 295)), (1, .int u1), (3, .int v3), (5, .int (x33 - x27))]) (st' := [.int x37]) (μ' := m36) ?_ (fun J101 => ?_)
      · refine gq_istore_n (lv' := [(2, .int x37), (0, .ref (eB E + 295)), (1, .int u1), (3, .int v3), (5, .int (x33 - x27))]) C dX4_bestReach_101 rfl (by decide) rfl ?_
        refine gq_iload C dX4_bestReach_102 4 rfl ?_
        refine gq_iload_n C dX4_bestReach_104 rfl 3 rfl ?_
        obtain ⟨x43, z44, z45⟩ := bind_ex z39
        refine gq_join (k' := 0) (n' := 0) (pc' := 114) (lv' := [(0, .ref (eB E + 295)), (1, .int u1), (2, .int x37)]) (st' := [.int x43]) (μ' := m36) ?_ (fun J114 => ?_)
        · refine gq_istore_n (lv' := [(3, .int x43), (0, .ref (eB E + 295)), (1, .int u1), (2, .int x37)]) C dX4_bestReach_114 rfl (by decide) rfl ?_
          refine gq_aload_n C dX4_bestReach_115 rfl 1 rfl ?_
          refine gq_dupr C dX4_bestReach_116 ?_
          refine gq_get5 C (qn_m 295 (by decide) hN) (by decide) 23 (by decide) wk_6_185 rfl dX4_bestReach_117 ?_
          refine gq_iconst (v := 1) C dX4_bestReach_120 (by decide) ?_
          refine gq_iadd C dX4_bestReach_121 ?_
          obtain ⟨m49, em49, z50⟩ := bind_ex z45
          refine gq_put5_23 C (qn_m 295 (by decide) hN) (by decide) wk_6_185 (Option.some.inj em49).symm dX4_bestReach_122 ?_
          refine gq_goto (tgt := 44) C dX4_bestReach_125 (by decide) ?_
          refine gq_widen (k' := 0) (n' := 0) (Nat.le_of_ble_eq_true rfl) (Nat.le_of_ble_eq_true rfl) (gq_sub [1, 2, 3, 0] rfl ?_)
          exact ih _ _ _ _ _ z50 kk
        · rcases ite_ex z44 with ⟨c46, z47⟩ | ⟨c46, z47⟩
          · refine gq_icmp_le_t (tgt := 113) C dX4_bestReach_105 (by decide) c46 ?_
            refine gq_iload_n C dX4_bestReach_113 rfl 3 rfl ?_
            cases z47
            exact gq_widen (Nat.le_of_ble_eq_true rfl) (Nat.le_of_ble_eq_true rfl) (gq_sub [1, 2, 0] rfl J114)
          · refine gq_icmp_le_f (tgt := 113) C dX4_bestReach_105 (by decide) c46 ?_
            refine gq_iload C dX4_bestReach_108 4 rfl ?_
            refine gq_goto (tgt := 114) C dX4_bestReach_110 (by decide) ?_
            cases z47
            exact gq_widen (Nat.le_of_ble_eq_true rfl) (Nat.le_of_ble_eq_true rfl) (gq_sub [1, 2, 0] rfl J114)
      · rcases ite_ex z38 with ⟨c40, z41⟩ | ⟨c40, z41⟩
        · refine gq_icmp_le_t (tgt := 100) C dX4_bestReach_90 (by decide) c40 ?_
          refine gq_iload_n C dX4_bestReach_100 rfl 4 rfl ?_
          cases z41
          exact gq_widen (Nat.le_of_ble_eq_true rfl) (Nat.le_of_ble_eq_true rfl) (gq_sub [2, 3, 5, 0] rfl J101)
        · refine gq_icmp_le_f (tgt := 100) C dX4_bestReach_90 (by decide) c40 ?_
          refine gq_aload_n C dX4_bestReach_93 rfl 2 rfl ?_
          refine gq_get5 C (qn_m 295 (by decide) hN) (by decide) 23 (by decide) wk_6_185 rfl dX4_bestReach_94 ?_
          refine gq_goto (tgt := 101) C dX4_bestReach_97 (by decide) ?_
          cases z41
          exact gq_widen (Nat.le_of_ble_eq_true rfl) (Nat.le_of_ble_eq_true rfl) (gq_sub [2, 3, 5, 0] rfl J101)
set_option maxHeartbeats 4000000 in
set_option maxRecDepth 100000 in
theorem c_X4_bestReach {l : Launch} {E : Ev} (hN : 311 ≤ eN E) {p1 : Int32} {μ : Mm} {r : Int32} {μ' : Mm} (z0 : F_X4_bestReach p1 μ = some (r, μ')) : Ct l E yX4_bestReach (Cond.code yX4_bestReach cX4_bestReach 6 (some .int) :: GW) rm_X4_bestReach [.ref (eB E + 295), .int p1] μ (some (.int r)) μ' := by
  refine ct_of (by decide) (Nat.le_of_ble_eq_true rfl) (fun p e s m args below meth c C hr => ?_)
  have C : Cq E p s m args meth c cX4_bestReach 6 RX4 := C
  refine gq_lv (lv' := [(0, .ref (eB E + 295)), (1, .int p1)]) rfl ?_
  unfold F_X4_bestReach at z0
  refine gq_aload_n C dX4_bestReach_0 rfl 0 rfl ?_
  refine gq_aload_n C dX4_bestReach_1 rfl 0 rfl ?_
  refine gq_iload_n C dX4_bestReach_2 rfl 1 rfl ?_
  obtain ⟨x3, eo2, z1⟩ := bind_ex z0
  refine gq_V (As := [.int p1]) (rest := [.ref (eB E + 295)]) (j := 5) C (c_X4_isRight hN  eo2) (qn_m 295 (by decide) hN) (by decide) (by decide) rfl wk_7_175 wk_7_177 ws_X4_isRight wk_1_9 wk_7_178 hd_X4_isRight ⟨(Nat.le_of_ble_eq_true rfl), (Nat.le_of_ble_eq_true rfl)⟩ (Nat.le_of_ble_eq_true rfl) ⟨(Nat.le_of_ble_eq_true rfl), (Nat.le_of_ble_eq_true rfl)⟩ dX4_bestReach_3 rfl rfl ?_
  obtain ⟨x4, z5, z6⟩ := bind_ex z1
  refine gq_join (k' := 0) (n' := 0) (pc' := 14) (lv' := [(0, .ref (eB E + 295)), (1, .int p1)]) (st' := [.int x4, .ref (eB E + 295)]) (μ' := μ) ?_ (fun J14 => ?_)
  · obtain ⟨m10, em10, z11⟩ := bind_ex z6
    refine gq_put5_0 C (qn_m 295 (by decide) hN) (by decide) wk_6_162 (Option.some.inj em10).symm dX4_bestReach_14 ?_
    refine gq_aload_n C dX4_bestReach_17 rfl 0 rfl ?_
    refine gq_get5 C (qn_m 295 (by decide) hN) (by decide) 0 (by decide) wk_6_162 rfl dX4_bestReach_18 ?_
    rcases ite_ex z11 with ⟨c12, z13⟩ | ⟨c12, z13⟩
    · refine gq_if_le_t (tgt := 26) C dX4_bestReach_21 (by decide) c12 ?_
      refine gq_iconst (v := 0) C dX4_bestReach_26 (by decide) ?_
      refine gq_istore_n (lv' := [(2, .int (0 : Int32)), (0, .ref (eB E + 295)), (1, .int p1)]) C dX4_bestReach_27 rfl (by decide) rfl ?_
      refine gq_iconst (v := -1) C dX4_bestReach_28 (by decide) ?_
      refine gq_istore_n (lv' := [(3, .int (-1 : Int32)), (2, .int (0 : Int32)), (0, .ref (eB E + 295)), (1, .int p1)]) C dX4_bestReach_29 rfl (by decide) rfl ?_
      refine gq_aload_n C dX4_bestReach_30 rfl 2 rfl ?_
      obtain ⟨m16, eo15, z14⟩ := bind_ex z13
      refine gq_V (As := []) (rest := []) (j := 5) C (c_X4_putsAside hN  eo15) (qn_m 295 (by decide) hN) (by decide) (by decide) rfl wk_8_67 wk_8_69 ws_X4_putsAside wk_1_9 wk_8_70 hd_X4_putsAside ⟨(Nat.le_of_ble_eq_true rfl), (Nat.le_of_ble_eq_true rfl)⟩ (Nat.le_of_ble_eq_true rfl) ⟨(Nat.le_of_ble_eq_true rfl), (Nat.le_of_ble_eq_true rfl)⟩ dX4_bestReach_31 rfl rfl ?_
      refine gq_aload_n C dX4_bestReach_34 rfl 2 rfl ?_
      refine gq_iload_n C dX4_bestReach_35 rfl 3 rfl ?_
      obtain ⟨m17, em17, z18⟩ := bind_ex z14
      refine gq_put5_22 C (qn_m 295 (by decide) hN) (by decide) wk_6_184 (Option.some.inj em17).symm dX4_bestReach_36 ?_
      refine gq_aload_n C dX4_bestReach_39 rfl 2 rfl ?_
      refine gq_iconst (v := 0) C dX4_bestReach_40 (by decide) ?_
      obtain ⟨m19, em19, z20⟩ := bind_ex z18
      refine gq_put5_23 C (qn_m 295 (by decide) hN) (by decide) wk_6_185 (Option.some.inj em19).symm dX4_bestReach_41 ?_
      obtain ⟨⟨x53, m54⟩, eo52, z51⟩ := bind_ex z20
      dsimp only at z51
      refine gq_widen (k' := 0) (n' := 0) (Nat.le_of_ble_eq_true rfl) (Nat.le_of_ble_eq_true rfl) (gq_sub [2, 3, 1, 0] rfl ?_)
      refine l_X4_bestReach_44 hN C  qFuel _ _ _ _ _ eo52 ?_
      refine gq_aload_n C dX4_bestReach_128 rfl 0 rfl ?_
      refine gq_iconst (v := -1) C dX4_bestReach_129 (by decide) ?_
      obtain ⟨m55, em55, z56⟩ := bind_ex z51
      refine gq_put5_22 C (qn_m 295 (by decide) hN) (by decide) wk_6_184 (Option.some.inj em55).symm dX4_bestReach_130 ?_
      refine gq_iload_n C dX4_bestReach_133 rfl 1 rfl ?_
      cases z56
      exact gq_iret C hr dX4_bestReach_134 (Nat.le_of_ble_eq_true rfl) (Nat.le_of_ble_eq_true rfl)
    · refine gq_if_le_f (tgt := 26) C dX4_bestReach_21 (by decide) c12 ?_
      refine gq_iconst (v := 0) C dX4_bestReach_24 (by decide) ?_
      cases z13
      exact gq_iret C hr dX4_bestReach_25 (Nat.le_of_ble_eq_true rfl) (Nat.le_of_ble_eq_true rfl)
  · rcases ite_ex z5 with ⟨c7, z8⟩ | ⟨c7, z8⟩
    · refine gq_if_eq_t (tgt := 13) C dX4_bestReach_6 (by decide) c7 ?_
      refine gq_iconst (v := 1) C dX4_bestReach_13 (by decide) ?_
      cases z8
      exact gq_widen (Nat.le_of_ble_eq_true rfl) (Nat.le_of_ble_eq_true rfl) (gq_sub [0, 1] rfl J14)
    · refine gq_if_eq_f (tgt := 13) C dX4_bestReach_6 (by decide) c7 ?_
      refine gq_iconst (v := 0) C dX4_bestReach_9 (by decide) ?_
      refine gq_goto (tgt := 14) C dX4_bestReach_10 (by decide) ?_
      cases z8
      exact gq_widen (Nat.le_of_ble_eq_true rfl) (Nat.le_of_ble_eq_true rfl) (gq_sub [0, 1] rfl J14)
abbrev rm_X4_laysGains : Room := { frames := 6, cells := 0, slots := 0, locals := 151 }
def F_X4_laysGains_11 (u1 : Int32) : Nat → Int32 → Mm → Option Mm
  | 0, _, _ => none
  | n + 1, v2, μ =>
  (aI μ 296 (2 : Int32)).bind fun x7 =>
  if x7 ≤ v2 then
  (some μ)
  else
  ((F_X4_rightOf v2 (7 : Int32) μ).bind fun o12 =>
  (F_X4_rightAt v2 (7 : Int32) μ).bind fun o15 =>
  (aI μ 298 o15).bind fun x17 =>
  (if u1 = 0 then
  ((aI μ 309 v2).bind fun x24 =>
  some ((o12 - x17) - x24))
  else
  (some (o12 - x17))).bind fun o26 =>
  (sI μ 309 v2 o26).bind fun m27 =>
  F_X4_laysGains_11 u1 n (v2 + 1) m27)
def F_X4_laysGains (p1 : Int32) (μ : Mm) : Option Mm :=
  (F_X4_putsAside  μ).bind fun o2 =>
  (F_X4_months (1 : Int32) o2).bind fun o5 =>
  (F_X4_laysGains_11 p1 qFuel (0 : Int32) o5).bind fun o30 =>
  (F_X4_takesBack  o30).bind fun o33 =>
  some o33
set_option maxHeartbeats 4000000 in
set_option maxRecDepth 100000 in
theorem l_X4_laysGains_11 {l : Launch} {E : Ev} (hN : 311 ≤ eN E) {p : Program} {e : Env} {s : State} {m : MethodId} {args : Array Value} {below : List Frame} {meth : Method} {c : Code} (C : Cq E p s m args meth c cX4_laysGains 4 RX4) {Q : State → Prop} {u1 : Int32} : ∀ (n : Nat) (v2 : Int32) (μ : Mm) (μx : Mm), F_X4_laysGains_11 u1 n v2 μ = some μx → Gq E p l e rm_X4_laysGains s m args below meth c 0 0 4 Q 69 [(0, .ref (eB E + 295))] [] μx → Gq E p l e rm_X4_laysGains s m args below meth c 0 0 4 Q 11 [(0, .ref (eB E + 295)), (1, .int u1), (2, .int v2)] [] μ := by
  intro n
  induction n with
  | zero =>
    intro v2 μ μx z0 kk
    rw [F_X4_laysGains_11] at z0
    cases z0
  | succ n ih =>
    intro v2 μ μx z0 kk
    rw [F_X4_laysGains_11] at z0
    refine gq_iload_n C dX4_laysGains_11 rfl 2 rfl ?_
    refine gq_aload_n C dX4_laysGains_12 rfl 0 rfl ?_
    refine gq_get5 C (qn_m 295 (by decide) hN) (by decide) 1 (by decide) wk_6_163 rfl dX4_laysGains_13 ?_
    refine gq_iconst (v := 2) C dX4_laysGains_16 (by decide) ?_
    obtain ⟨x7, ex7, z8⟩ := bind_ex z0
    refine gq_ialoadI C (qn_m 296 (by decide) hN) (by decide) ex7 dX4_laysGains_17 ?_
    rcases ite_ex z8 with ⟨c9, z10⟩ | ⟨c9, z10⟩
    · refine gq_icmp_ge_t (tgt := 69) C dX4_laysGains_18 (by decide) c9 ?_
      cases z10
      exact gq_widen (Nat.le_of_ble_eq_true rfl) (Nat.le_of_ble_eq_true rfl) (gq_sub [0] rfl kk)
    · refine gq_icmp_ge_f (tgt := 69) C dX4_laysGains_18 (by decide) c9 ?_
      refine gq_aload_n C dX4_laysGains_21 rfl 0 rfl ?_
      refine gq_iload_n C dX4_laysGains_22 rfl 2 rfl ?_
      refine gq_bipush (v := 7) C dX4_laysGains_23 (by decide) ?_
      obtain ⟨x13, eo12, z11⟩ := bind_ex z10
      refine gq_V (As := [.int v2, .int (7 : Int32)]) (rest := []) (j := 5) C (c_X4_rightOf hN  eo12) (qn_m 295 (by decide) hN) (by decide) (by decide) rfl wk_7_179 wk_7_181 ws_X4_rightOf wk_1_9 wk_7_182 hd_X4_rightOf ⟨(Nat.le_of_ble_eq_true rfl), (Nat.le_of_ble_eq_true rfl)⟩ (Nat.le_of_ble_eq_true rfl) ⟨(Nat.le_of_ble_eq_true rfl), (Nat.le_of_ble_eq_true rfl)⟩ dX4_laysGains_25 rfl rfl ?_
      refine gq_aload_n C dX4_laysGains_28 rfl 0 rfl ?_
      refine gq_get5 C (qn_m 295 (by decide) hN) (by decide) 3 (by decide) wk_6_165 rfl dX4_laysGains_29 ?_
      refine gq_iload_n C dX4_laysGains_32 rfl 2 rfl ?_
      refine gq_bipush (v := 7) C dX4_laysGains_33 (by decide) ?_
      obtain ⟨x16, eo15, z14⟩ := bind_ex z11
      refine gq_S (As := [.int v2, .int (7 : Int32)]) (rest := [.ref (eB E + 298), .int x13]) C (c_X4_rightAt hN  eo15) wk_7_88 wk_7_89 wk_1_9 wk_7_90 hd_X4_rightAt ⟨(Nat.le_of_ble_eq_true rfl), (Nat.le_of_ble_eq_true rfl)⟩ (Nat.le_of_ble_eq_true rfl) ⟨(Nat.le_of_ble_eq_true rfl), (Nat.le_of_ble_eq_true rfl)⟩ dX4_laysGains_35 rfl rfl ?_
      obtain ⟨x17, ex17, z18⟩ := bind_ex z14
      refine gq_ialoadI C (qn_m 298 (by decide) hN) (by decide) ex17 dX4_laysGains_38 ?_
      refine gq_isub C dX4_laysGains_39 ?_
      refine gq_istore_n (lv' := [(3, .int (x13 - x17)), (0, .ref (eB E + 295)), (1, .int u1), (2, .int v2)]) C dX4_laysGains_40 rfl (by decide) rfl ?_
      refine gq_aload_n C dX4_laysGains_41 rfl 1 rfl ?_
      refine gq_get5 C (qn_m 295 (by decide) hN) (by decide) 27 (by decide) wk_6_189 rfl dX4_laysGains_42 ?_
      refine gq_iload_n C dX4_laysGains_45 rfl 3 rfl ?_
      refine gq_iload_n C dX4_laysGains_46 rfl 2 rfl ?_
      obtain ⟨x19, z20, z21⟩ := bind_ex z18
      refine gq_join (k' := 0) (n' := 0) (pc' := 62) (lv' := [(0, .ref (eB E + 295)), (1, .int u1), (2, .int v2)]) (st' := [.int x19, .int v2, .ref (eB E + 309)]) (μ' := μ) ?_ (fun J62 => ?_)
      · obtain ⟨m27, em27, z28⟩ := bind_ex z21
        refine gq_iastore C (qn_m 309 (by decide) hN) (by decide) em27 dX4_laysGains_62 ?_
        refine gq_iinc (v := (v2 + 1)) (lv' := [(2, .int (v2 + 1)), (0, .ref (eB E + 295)), (1, .int u1)]) (q := 2) C dX4_laysGains_63 rfl rfl (by decide) rfl ?_
        refine gq_goto (tgt := 11) C dX4_laysGains_66 (by decide) ?_
        refine gq_widen (k' := 0) (n' := 0) (Nat.le_of_ble_eq_true rfl) (Nat.le_of_ble_eq_true rfl) (gq_sub [1, 2, 0] rfl ?_)
        exact ih _ _ _ z28 kk
      · rcases ite_ex z20 with ⟨c22, z23⟩ | ⟨c22, z23⟩
        · refine gq_if_eq_t (tgt := 54) C dX4_laysGains_47 (by decide) c22 ?_
          refine gq_iload_n C dX4_laysGains_54 rfl 0 rfl ?_
          refine gq_aload_n C dX4_laysGains_55 rfl 1 rfl ?_
          refine gq_get5 C (qn_m 295 (by decide) hN) (by decide) 27 (by decide) wk_6_189 rfl dX4_laysGains_56 ?_
          refine gq_iload_n C dX4_laysGains_59 rfl 3 rfl ?_
          obtain ⟨x24, ex24, z25⟩ := bind_ex z23
          refine gq_ialoadI C (qn_m 309 (by decide) hN) (by decide) ex24 dX4_laysGains_60 ?_
          refine gq_isub C dX4_laysGains_61 ?_
          cases z25
          exact gq_widen (Nat.le_of_ble_eq_true rfl) (Nat.le_of_ble_eq_true rfl) (gq_sub [1, 2, 3] rfl J62)
        · refine gq_if_eq_f (tgt := 54) C dX4_laysGains_47 (by decide) c22 ?_
          refine gq_iload_n C dX4_laysGains_50 rfl 0 rfl ?_
          refine gq_goto (tgt := 62) C dX4_laysGains_51 (by decide) ?_
          cases z23
          exact gq_widen (Nat.le_of_ble_eq_true rfl) (Nat.le_of_ble_eq_true rfl) (gq_sub [1, 2, 3] rfl J62)
set_option maxHeartbeats 4000000 in
set_option maxRecDepth 100000 in
theorem c_X4_laysGains {l : Launch} {E : Ev} (hN : 311 ≤ eN E) {p1 : Int32} {μ : Mm} {μ' : Mm} (z0 : F_X4_laysGains p1 μ = some μ') : Ct l E yX4_laysGains (Cond.code yX4_laysGains cX4_laysGains 4 none :: GW) rm_X4_laysGains [.ref (eB E + 295), .int p1] μ none μ' := by
  refine ct_of (by decide) (Nat.le_of_ble_eq_true rfl) (fun p e s m args below meth c C hr => ?_)
  have C : Cq E p s m args meth c cX4_laysGains 4 RX4 := C
  refine gq_lv (lv' := [(0, .ref (eB E + 295)), (1, .int p1)]) rfl ?_
  unfold F_X4_laysGains at z0
  refine gq_aload_n C dX4_laysGains_0 rfl 0 rfl ?_
  obtain ⟨m3, eo2, z1⟩ := bind_ex z0
  refine gq_V (As := []) (rest := []) (j := 5) C (c_X4_putsAside hN  eo2) (qn_m 295 (by decide) hN) (by decide) (by decide) rfl wk_8_67 wk_8_69 ws_X4_putsAside wk_1_9 wk_8_70 hd_X4_putsAside ⟨(Nat.le_of_ble_eq_true rfl), (Nat.le_of_ble_eq_true rfl)⟩ (Nat.le_of_ble_eq_true rfl) ⟨(Nat.le_of_ble_eq_true rfl), (Nat.le_of_ble_eq_true rfl)⟩ dX4_laysGains_1 rfl rfl ?_
  refine gq_aload_n C dX4_laysGains_4 rfl 0 rfl ?_
  refine gq_iconst (v := 1) C dX4_laysGains_5 (by decide) ?_
  obtain ⟨m6, eo5, z4⟩ := bind_ex z1
  refine gq_V (As := [.int (1 : Int32)]) (rest := []) (j := 5) C (c_X4_months hN  eo5) (qn_m 295 (by decide) hN) (by decide) (by decide) rfl wk_8_71 wk_8_73 ws_X4_months wk_1_9 wk_8_74 hd_X4_months ⟨(Nat.le_of_ble_eq_true rfl), (Nat.le_of_ble_eq_true rfl)⟩ (Nat.le_of_ble_eq_true rfl) ⟨(Nat.le_of_ble_eq_true rfl), (Nat.le_of_ble_eq_true rfl)⟩ dX4_laysGains_6 rfl rfl ?_
  refine gq_iconst (v := 0) C dX4_laysGains_9 (by decide) ?_
  refine gq_istore_n (lv' := [(2, .int (0 : Int32)), (0, .ref (eB E + 295)), (1, .int p1)]) C dX4_laysGains_10 rfl (by decide) rfl ?_
  obtain ⟨m31, eo30, z29⟩ := bind_ex z4
  refine gq_widen (k' := 0) (n' := 0) (Nat.le_of_ble_eq_true rfl) (Nat.le_of_ble_eq_true rfl) (gq_sub [1, 2, 0] rfl ?_)
  refine l_X4_laysGains_11 hN C  qFuel _ _ _ eo30 ?_
  refine gq_aload_n C dX4_laysGains_69 rfl 0 rfl ?_
  obtain ⟨m34, eo33, z32⟩ := bind_ex z29
  refine gq_V (As := []) (rest := []) (j := 5) C (c_X4_takesBack hN  eo33) (qn_m 295 (by decide) hN) (by decide) (by decide) rfl wk_8_128 wk_8_130 ws_X4_takesBack wk_1_9 wk_8_131 hd_X4_takesBack ⟨(Nat.le_of_ble_eq_true rfl), (Nat.le_of_ble_eq_true rfl)⟩ (Nat.le_of_ble_eq_true rfl) ⟨(Nat.le_of_ble_eq_true rfl), (Nat.le_of_ble_eq_true rfl)⟩ dX4_laysGains_70 rfl rfl ?_
  cases z32
  exact gq_vret C hr dX4_laysGains_73 (Nat.le_of_ble_eq_true rfl) (Nat.le_of_ble_eq_true rfl)
abbrev rm_X4_parted : Room := { frames := 0, cells := 0, slots := 0, locals := 0 }
def F_X4_parted_5 (u1 : Int32) (u2 : Int32) (μ : Mm) : Nat → Int32 → Int32 → Option Int32
  | 0, _, _ => none
  | n + 1, v3, v4 =>
  (aI μ 296 (2 : Int32)).bind fun x1 =>
  if x1 ≤ v4 then
  (some v3)
  else
  ((if v4 = u1 then
  (some (0 : Int32))
  else
  ((aI μ 309 v4).bind fun x10 =>
  if (x10 * u2) ≤ 0 then
  (some (0 : Int32))
  else
  (some ((1 : Int32) <<< (v4 &&& 31))))).bind fun o14 =>
  F_X4_parted_5 u1 u2 μ n (v3 ||| o14) (v4 + 1))
def F_X4_parted (p1 : Int32) (p2 : Int32) (μ : Mm) : Option Int32 :=
  (F_X4_parted_5 p1 p2 μ qFuel (0 : Int32) (0 : Int32)).bind fun o16 =>
  some o16
set_option maxHeartbeats 4000000 in
set_option maxRecDepth 100000 in
theorem l_X4_parted_5 {l : Launch} {E : Ev} (hN : 311 ≤ eN E) {p : Program} {e : Env} {s : State} {m : MethodId} {args : Array Value} {below : List Frame} {meth : Method} {c : Code} (C : Cq E p s m args meth c cX4_parted 5 RX4) {Q : State → Prop} {u1 : Int32} {u2 : Int32} {μ : Mm} : ∀ (n : Nat) (v3 : Int32) (v4 : Int32) (w3 : Int32), F_X4_parted_5 u1 u2 μ n v3 v4 = some w3 → Gq E p l e rm_X4_parted s m args below meth c 0 0 5 Q 51 [(3, .int w3)] [] μ → Gq E p l e rm_X4_parted s m args below meth c 0 0 5 Q 5 [(0, .ref (eB E + 295)), (1, .int u1), (2, .int u2), (3, .int v3), (4, .int v4)] [] μ := by
  intro n
  induction n with
  | zero =>
    intro v3 v4 w3 z0 kk
    rw [F_X4_parted_5] at z0
    cases z0
  | succ n ih =>
    intro v3 v4 w3 z0 kk
    rw [F_X4_parted_5] at z0
    refine gq_iload C dX4_parted_5 4 rfl ?_
    refine gq_aload_n C dX4_parted_7 rfl 0 rfl ?_
    refine gq_get5 C (qn_m 295 (by decide) hN) (by decide) 1 (by decide) wk_6_163 rfl dX4_parted_8 ?_
    refine gq_iconst (v := 2) C dX4_parted_11 (by decide) ?_
    obtain ⟨x1, ex1, z2⟩ := bind_ex z0
    refine gq_ialoadI C (qn_m 296 (by decide) hN) (by decide) ex1 dX4_parted_12 ?_
    rcases ite_ex z2 with ⟨c3, z4⟩ | ⟨c3, z4⟩
    · refine gq_icmp_ge_t (tgt := 51) C dX4_parted_13 (by decide) c3 ?_
      cases z4
      exact gq_widen (Nat.le_of_ble_eq_true rfl) (Nat.le_of_ble_eq_true rfl) (gq_sub [3] rfl kk)
    · refine gq_icmp_ge_f (tgt := 51) C dX4_parted_13 (by decide) c3 ?_
      refine gq_iload_n C dX4_parted_16 rfl 3 rfl ?_
      refine gq_iload C dX4_parted_17 4 rfl ?_
      refine gq_iload_n C dX4_parted_19 rfl 1 rfl ?_
      obtain ⟨x5, z6, z7⟩ := bind_ex z4
      refine gq_join (k' := 0) (n' := 0) (pc' := 43) (lv' := [(0, .ref (eB E + 295)), (1, .int u1), (2, .int u2), (4, .int v4)]) (st' := [.int x5, .int v3]) (μ' := μ) ?_ (fun J43 => ?_)
      · refine gq_ior C dX4_parted_43 ?_
        refine gq_istore_n (lv' := [(3, .int (v3 ||| x5)), (0, .ref (eB E + 295)), (1, .int u1), (2, .int u2), (4, .int v4)]) C dX4_parted_44 rfl (by decide) rfl ?_
        refine gq_iinc (v := (v4 + 1)) (lv' := [(4, .int (v4 + 1)), (3, .int (v3 ||| x5)), (0, .ref (eB E + 295)), (1, .int u1), (2, .int u2)]) (q := 4) C dX4_parted_45 rfl rfl (by decide) rfl ?_
        refine gq_goto (tgt := 5) C dX4_parted_48 (by decide) ?_
        refine gq_widen (k' := 0) (n' := 0) (Nat.le_of_ble_eq_true rfl) (Nat.le_of_ble_eq_true rfl) (gq_sub [2, 3, 4, 1, 0] rfl ?_)
        exact ih _ _ _ z7 kk
      · rcases ite_ex z6 with ⟨c8, z9⟩ | ⟨c8, z9⟩
        · refine gq_icmp_eq_t (tgt := 42) C dX4_parted_20 (by decide) c8 ?_
          refine gq_iconst (v := 0) C dX4_parted_42 (by decide) ?_
          cases z9
          exact gq_widen (Nat.le_of_ble_eq_true rfl) (Nat.le_of_ble_eq_true rfl) (gq_sub [0, 1, 2, 4] rfl J43)
        · refine gq_icmp_eq_f (tgt := 42) C dX4_parted_20 (by decide) c8 ?_
          refine gq_aload_n C dX4_parted_23 rfl 0 rfl ?_
          refine gq_get5 C (qn_m 295 (by decide) hN) (by decide) 27 (by decide) wk_6_189 rfl dX4_parted_24 ?_
          refine gq_iload C dX4_parted_27 4 rfl ?_
          obtain ⟨x10, ex10, z11⟩ := bind_ex z9
          refine gq_ialoadI C (qn_m 309 (by decide) hN) (by decide) ex10 dX4_parted_29 ?_
          refine gq_iload_n C dX4_parted_30 rfl 2 rfl ?_
          refine gq_imul C dX4_parted_31 ?_
          rcases ite_ex z11 with ⟨c12, z13⟩ | ⟨c12, z13⟩
          · refine gq_if_le_t (tgt := 42) C dX4_parted_32 (by decide) c12 ?_
            refine gq_iconst (v := 0) C dX4_parted_42 (by decide) ?_
            cases z13
            exact gq_widen (Nat.le_of_ble_eq_true rfl) (Nat.le_of_ble_eq_true rfl) (gq_sub [0, 1, 2, 4] rfl J43)
          · refine gq_if_le_f (tgt := 42) C dX4_parted_32 (by decide) c12 ?_
            refine gq_iconst (v := 1) C dX4_parted_35 (by decide) ?_
            refine gq_iload C dX4_parted_36 4 rfl ?_
            refine gq_ishl C dX4_parted_38 ?_
            refine gq_goto (tgt := 43) C dX4_parted_39 (by decide) ?_
            cases z13
            exact gq_widen (Nat.le_of_ble_eq_true rfl) (Nat.le_of_ble_eq_true rfl) (gq_sub [0, 1, 2, 4] rfl J43)
set_option maxHeartbeats 4000000 in
set_option maxRecDepth 100000 in
theorem c_X4_parted {l : Launch} {E : Ev} (hN : 311 ≤ eN E) {p1 : Int32} {p2 : Int32} {μ : Mm} {r : Int32} (z0 : F_X4_parted p1 p2 μ = some r) : Ct l E yX4_parted (Cond.code yX4_parted cX4_parted 5 (some .int) :: GW) rm_X4_parted [.ref (eB E + 295), .int p1, .int p2] μ (some (.int r)) μ := by
  refine ct_of (by decide) (Nat.le_of_ble_eq_true rfl) (fun p e s m args below meth c C hr => ?_)
  have C : Cq E p s m args meth c cX4_parted 5 RX4 := C
  refine gq_lv (lv' := [(0, .ref (eB E + 295)), (1, .int p1), (2, .int p2)]) rfl ?_
  unfold F_X4_parted at z0
  refine gq_iconst (v := 0) C dX4_parted_0 (by decide) ?_
  refine gq_istore_n (lv' := [(3, .int (0 : Int32)), (0, .ref (eB E + 295)), (1, .int p1), (2, .int p2)]) C dX4_parted_1 rfl (by decide) rfl ?_
  refine gq_iconst (v := 0) C dX4_parted_2 (by decide) ?_
  refine gq_istore (lv' := [(4, .int (0 : Int32)), (3, .int (0 : Int32)), (0, .ref (eB E + 295)), (1, .int p1), (2, .int p2)]) C dX4_parted_3 (by decide) rfl ?_
  obtain ⟨x17, eo16, z15⟩ := bind_ex z0
  refine gq_widen (k' := 0) (n' := 0) (Nat.le_of_ble_eq_true rfl) (Nat.le_of_ble_eq_true rfl) (gq_sub [2, 3, 4, 1, 0] rfl ?_)
  refine l_X4_parted_5 hN C  qFuel _ _ _ eo16 ?_
  refine gq_iload_n C dX4_parted_51 rfl 0 rfl ?_
  cases z15
  exact gq_iret C hr dX4_parted_52 (Nat.le_of_ble_eq_true rfl) (Nat.le_of_ble_eq_true rfl)
abbrev rm_X4_injured : Room := { frames := 7, cells := 0, slots := 0, locals := 174 }
def F_X4_injured (p1 : Int32) (p2 : Int32) (p3 : Int32) (μ : Mm) : Option (Int32 × Mm) :=
  (F_X4_isRight p1 μ).bind fun o2 =>
  (if o2 = 0 then
  (some (1 : Int32))
  else
  ((F_X4_isReach p2 μ).bind fun o10 =>
  if o10 = 0 then
  (some (1 : Int32))
  else
  ((F_X4_inRange p3 (1 : Int32) (999 : Int32) μ).bind fun o15 =>
  if o15 = 0 then
  (some (2 : Int32))
  else
  (some (0 : Int32))))).bind fun o19 =>
  (some (uI μ 295 0 o19)).bind fun m20 =>
  if (m20.1 295 0) ≤ 0 then
  ((F_X4_laysGains (1 : Int32) m20).bind fun o25 =>
  (some (uI o25 295 24 p1)).bind fun m27 =>
  (some (uI m27 295 25 p3)).bind fun m29 =>
  (some (uI m29 295 23 p2)).bind fun m31 =>
  (F_X4_laysGains (0 : Int32) m31).bind fun o34 =>
  (some (uI o34 295 24 (-1 : Int32))).bind fun m36 =>
  (F_X4_parted p1 (-1 : Int32) m36).bind fun o39 =>
  some (o39, m36))
  else
  (some ((0 : Int32), m20))
set_option maxHeartbeats 4000000 in
set_option maxRecDepth 100000 in
theorem c_X4_injured {l : Launch} {E : Ev} (hN : 311 ≤ eN E) {p1 : Int32} {p2 : Int32} {p3 : Int32} {μ : Mm} {r : Int32} {μ' : Mm} (z0 : F_X4_injured p1 p2 p3 μ = some (r, μ')) : Ct l E yX4_injured (Cond.code yX4_injured cX4_injured 4 (some .int) :: GW) rm_X4_injured [.ref (eB E + 295), .int p1, .int p2, .int p3] μ (some (.int r)) μ' := by
  refine ct_of (by decide) (Nat.le_of_ble_eq_true rfl) (fun p e s m args below meth c C hr => ?_)
  have C : Cq E p s m args meth c cX4_injured 4 RX4 := C
  refine gq_lv (lv' := [(0, .ref (eB E + 295)), (1, .int p1), (2, .int p2), (3, .int p3)]) rfl ?_
  unfold F_X4_injured at z0
  refine gq_aload_n C dX4_injured_0 rfl 0 rfl ?_
  refine gq_aload_n C dX4_injured_1 rfl 0 rfl ?_
  refine gq_iload_n C dX4_injured_2 rfl 1 rfl ?_
  obtain ⟨x3, eo2, z1⟩ := bind_ex z0
  refine gq_V (As := [.int p1]) (rest := [.ref (eB E + 295)]) (j := 5) C (c_X4_isRight hN  eo2) (qn_m 295 (by decide) hN) (by decide) (by decide) rfl wk_7_175 wk_7_177 ws_X4_isRight wk_1_9 wk_7_178 hd_X4_isRight ⟨(Nat.le_of_ble_eq_true rfl), (Nat.le_of_ble_eq_true rfl)⟩ (Nat.le_of_ble_eq_true rfl) ⟨(Nat.le_of_ble_eq_true rfl), (Nat.le_of_ble_eq_true rfl)⟩ dX4_injured_3 rfl rfl ?_
  obtain ⟨x4, z5, z6⟩ := bind_ex z1
  refine gq_join (k' := 0) (n' := 0) (pc' := 37) (lv' := [(0, .ref (eB E + 295)), (1, .int p1), (2, .int p2), (3, .int p3)]) (st' := [.int x4, .ref (eB E + 295)]) (μ' := μ) ?_ (fun J37 => ?_)
  · obtain ⟨m20, em20, z21⟩ := bind_ex z6
    refine gq_put5_0 C (qn_m 295 (by decide) hN) (by decide) wk_6_162 (Option.some.inj em20).symm dX4_injured_37 ?_
    refine gq_aload_n C dX4_injured_40 rfl 0 rfl ?_
    refine gq_get5 C (qn_m 295 (by decide) hN) (by decide) 0 (by decide) wk_6_162 rfl dX4_injured_41 ?_
    rcases ite_ex z21 with ⟨c22, z23⟩ | ⟨c22, z23⟩
    · refine gq_if_le_t (tgt := 49) C dX4_injured_44 (by decide) c22 ?_
      refine gq_aload_n C dX4_injured_49 rfl 0 rfl ?_
      refine gq_iconst (v := 1) C dX4_injured_50 (by decide) ?_
      obtain ⟨m26, eo25, z24⟩ := bind_ex z23
      refine gq_V (As := [.int (1 : Int32)]) (rest := []) (j := 5) C (c_X4_laysGains hN  eo25) (qn_m 295 (by decide) hN) (by decide) (by decide) rfl wk_8_160 wk_8_162 ws_X4_laysGains wk_1_9 wk_8_163 hd_X4_laysGains ⟨(Nat.le_of_ble_eq_true rfl), (Nat.le_of_ble_eq_true rfl)⟩ (Nat.le_of_ble_eq_true rfl) ⟨(Nat.le_of_ble_eq_true rfl), (Nat.le_of_ble_eq_true rfl)⟩ dX4_injured_51 rfl rfl ?_
      refine gq_aload_n C dX4_injured_54 rfl 0 rfl ?_
      refine gq_iload_n C dX4_injured_55 rfl 1 rfl ?_
      obtain ⟨m27, em27, z28⟩ := bind_ex z24
      refine gq_put5_24 C (qn_m 295 (by decide) hN) (by decide) wk_6_186 (Option.some.inj em27).symm dX4_injured_56 ?_
      refine gq_aload_n C dX4_injured_59 rfl 0 rfl ?_
      refine gq_iload_n C dX4_injured_60 rfl 3 rfl ?_
      obtain ⟨m29, em29, z30⟩ := bind_ex z28
      refine gq_put5_25 C (qn_m 295 (by decide) hN) (by decide) wk_6_187 (Option.some.inj em29).symm dX4_injured_61 ?_
      refine gq_aload_n C dX4_injured_64 rfl 0 rfl ?_
      refine gq_iload_n C dX4_injured_65 rfl 2 rfl ?_
      obtain ⟨m31, em31, z32⟩ := bind_ex z30
      refine gq_put5_23 C (qn_m 295 (by decide) hN) (by decide) wk_6_185 (Option.some.inj em31).symm dX4_injured_66 ?_
      refine gq_aload_n C dX4_injured_69 rfl 0 rfl ?_
      refine gq_iconst (v := 0) C dX4_injured_70 (by decide) ?_
      obtain ⟨m35, eo34, z33⟩ := bind_ex z32
      refine gq_V (As := [.int (0 : Int32)]) (rest := []) (j := 5) C (c_X4_laysGains hN  eo34) (qn_m 295 (by decide) hN) (by decide) (by decide) rfl wk_8_160 wk_8_162 ws_X4_laysGains wk_1_9 wk_8_163 hd_X4_laysGains ⟨(Nat.le_of_ble_eq_true rfl), (Nat.le_of_ble_eq_true rfl)⟩ (Nat.le_of_ble_eq_true rfl) ⟨(Nat.le_of_ble_eq_true rfl), (Nat.le_of_ble_eq_true rfl)⟩ dX4_injured_71 rfl rfl ?_
      refine gq_aload_n C dX4_injured_74 rfl 0 rfl ?_
      refine gq_iconst (v := -1) C dX4_injured_75 (by decide) ?_
      obtain ⟨m36, em36, z37⟩ := bind_ex z33
      refine gq_put5_24 C (qn_m 295 (by decide) hN) (by decide) wk_6_186 (Option.some.inj em36).symm dX4_injured_76 ?_
      refine gq_aload_n C dX4_injured_79 rfl 0 rfl ?_
      refine gq_iload_n C dX4_injured_80 rfl 1 rfl ?_
      refine gq_iconst (v := -1) C dX4_injured_81 (by decide) ?_
      obtain ⟨x40, eo39, z38⟩ := bind_ex z37
      refine gq_V (As := [.int p1, .int (-1 : Int32)]) (rest := []) (j := 5) C (c_X4_parted hN  eo39) (qn_m 295 (by decide) hN) (by decide) (by decide) rfl wk_8_164 wk_8_166 ws_X4_parted wk_1_9 wk_8_167 hd_X4_parted ⟨(Nat.le_of_ble_eq_true rfl), (Nat.le_of_ble_eq_true rfl)⟩ (Nat.le_of_ble_eq_true rfl) ⟨(Nat.le_of_ble_eq_true rfl), (Nat.le_of_ble_eq_true rfl)⟩ dX4_injured_82 rfl rfl ?_
      cases z38
      exact gq_iret C hr dX4_injured_85 (Nat.le_of_ble_eq_true rfl) (Nat.le_of_ble_eq_true rfl)
    · refine gq_if_le_f (tgt := 49) C dX4_injured_44 (by decide) c22 ?_
      refine gq_iconst (v := 0) C dX4_injured_47 (by decide) ?_
      cases z23
      exact gq_iret C hr dX4_injured_48 (Nat.le_of_ble_eq_true rfl) (Nat.le_of_ble_eq_true rfl)
  · rcases ite_ex z5 with ⟨c7, z8⟩ | ⟨c7, z8⟩
    · refine gq_if_eq_t (tgt := 17) C dX4_injured_6 (by decide) c7 ?_
      refine gq_iconst (v := 1) C dX4_injured_17 (by decide) ?_
      refine gq_goto (tgt := 37) C dX4_injured_18 (by decide) ?_
      cases z8
      exact gq_widen (Nat.le_of_ble_eq_true rfl) (Nat.le_of_ble_eq_true rfl) (gq_sub [0, 1, 2, 3] rfl J37)
    · refine gq_if_eq_f (tgt := 17) C dX4_injured_6 (by decide) c7 ?_
      refine gq_aload_n C dX4_injured_9 rfl 0 rfl ?_
      refine gq_iload_n C dX4_injured_10 rfl 2 rfl ?_
      obtain ⟨x11, eo10, z9⟩ := bind_ex z8
      refine gq_V (As := [.int p2]) (rest := [.ref (eB E + 295)]) (j := 5) C (c_X4_isReach hN  eo10) (qn_m 295 (by decide) hN) (by decide) (by decide) rfl wk_7_147 wk_7_149 ws_X4_isReach wk_1_9 wk_7_150 hd_X4_isReach ⟨(Nat.le_of_ble_eq_true rfl), (Nat.le_of_ble_eq_true rfl)⟩ (Nat.le_of_ble_eq_true rfl) ⟨(Nat.le_of_ble_eq_true rfl), (Nat.le_of_ble_eq_true rfl)⟩ dX4_injured_11 rfl rfl ?_
      rcases ite_ex z9 with ⟨c12, z13⟩ | ⟨c12, z13⟩
      · refine gq_if_ne_f (tgt := 21) C dX4_injured_14 (by decide) c12 ?_
        refine gq_iconst (v := 1) C dX4_injured_17 (by decide) ?_
        refine gq_goto (tgt := 37) C dX4_injured_18 (by decide) ?_
        cases z13
        exact gq_widen (Nat.le_of_ble_eq_true rfl) (Nat.le_of_ble_eq_true rfl) (gq_sub [0, 1, 2, 3] rfl J37)
      · refine gq_if_ne_t (tgt := 21) C dX4_injured_14 (by decide) c12 ?_
        refine gq_iload_n C dX4_injured_21 rfl 3 rfl ?_
        refine gq_iconst (v := 1) C dX4_injured_22 (by decide) ?_
        refine gq_sipush (v := 999) C dX4_injured_23 (by decide) ?_
        obtain ⟨x16, eo15, z14⟩ := bind_ex z13
        refine gq_S (As := [.int p3, .int (1 : Int32), .int (999 : Int32)]) (rest := [.ref (eB E + 295)]) C (c_X4_inRange hN  eo15) wk_7_50 wk_7_51 wk_1_9 wk_7_52 hd_X4_inRange ⟨(Nat.le_of_ble_eq_true rfl), (Nat.le_of_ble_eq_true rfl)⟩ (Nat.le_of_ble_eq_true rfl) ⟨(Nat.le_of_ble_eq_true rfl), (Nat.le_of_ble_eq_true rfl)⟩ dX4_injured_26 rfl rfl ?_
        rcases ite_ex z14 with ⟨c17, z18⟩ | ⟨c17, z18⟩
        · refine gq_if_ne_f (tgt := 36) C dX4_injured_29 (by decide) c17 ?_
          refine gq_iconst (v := 2) C dX4_injured_32 (by decide) ?_
          refine gq_goto (tgt := 37) C dX4_injured_33 (by decide) ?_
          cases z18
          exact gq_widen (Nat.le_of_ble_eq_true rfl) (Nat.le_of_ble_eq_true rfl) (gq_sub [0, 1, 2, 3] rfl J37)
        · refine gq_if_ne_t (tgt := 36) C dX4_injured_29 (by decide) c17 ?_
          refine gq_iconst (v := 0) C dX4_injured_36 (by decide) ?_
          cases z18
          exact gq_widen (Nat.le_of_ble_eq_true rfl) (Nat.le_of_ble_eq_true rfl) (gq_sub [0, 1, 2, 3] rfl J37)
abbrev rm_X4_blocked : Room := { frames := 7, cells := 0, slots := 0, locals := 174 }
def F_X4_blocked (p1 : Int32) (μ : Mm) : Option (Int32 × Mm) :=
  (F_X4_isRight p1 μ).bind fun o2 =>
  (if o2 = 0 then
  (some (1 : Int32))
  else
  (some (0 : Int32))).bind fun o9 =>
  (some (uI μ 295 0 o9)).bind fun m10 =>
  if (m10.1 295 0) ≤ 0 then
  ((F_X4_laysGains (1 : Int32) m10).bind fun o15 =>
  (some (uI o15 295 26 p1)).bind fun m17 =>
  (F_X4_laysGains (0 : Int32) m17).bind fun o20 =>
  (some (uI o20 295 26 (-1 : Int32))).bind fun m22 =>
  (F_X4_parted p1 (1 : Int32) m22).bind fun o25 =>
  some (o25, m22))
  else
  (some ((0 : Int32), m10))
set_option maxHeartbeats 4000000 in
set_option maxRecDepth 100000 in
theorem c_X4_blocked {l : Launch} {E : Ev} (hN : 311 ≤ eN E) {p1 : Int32} {μ : Mm} {r : Int32} {μ' : Mm} (z0 : F_X4_blocked p1 μ = some (r, μ')) : Ct l E yX4_blocked (Cond.code yX4_blocked cX4_blocked 2 (some .int) :: GW) rm_X4_blocked [.ref (eB E + 295), .int p1] μ (some (.int r)) μ' := by
  refine ct_of (by decide) (Nat.le_of_ble_eq_true rfl) (fun p e s m args below meth c C hr => ?_)
  have C : Cq E p s m args meth c cX4_blocked 2 RX4 := C
  refine gq_lv (lv' := [(0, .ref (eB E + 295)), (1, .int p1)]) rfl ?_
  unfold F_X4_blocked at z0
  refine gq_aload_n C dX4_blocked_0 rfl 0 rfl ?_
  refine gq_aload_n C dX4_blocked_1 rfl 0 rfl ?_
  refine gq_iload_n C dX4_blocked_2 rfl 1 rfl ?_
  obtain ⟨x3, eo2, z1⟩ := bind_ex z0
  refine gq_V (As := [.int p1]) (rest := [.ref (eB E + 295)]) (j := 5) C (c_X4_isRight hN  eo2) (qn_m 295 (by decide) hN) (by decide) (by decide) rfl wk_7_175 wk_7_177 ws_X4_isRight wk_1_9 wk_7_178 hd_X4_isRight ⟨(Nat.le_of_ble_eq_true rfl), (Nat.le_of_ble_eq_true rfl)⟩ (Nat.le_of_ble_eq_true rfl) ⟨(Nat.le_of_ble_eq_true rfl), (Nat.le_of_ble_eq_true rfl)⟩ dX4_blocked_3 rfl rfl ?_
  obtain ⟨x4, z5, z6⟩ := bind_ex z1
  refine gq_join (k' := 0) (n' := 0) (pc' := 14) (lv' := [(0, .ref (eB E + 295)), (1, .int p1)]) (st' := [.int x4, .ref (eB E + 295)]) (μ' := μ) ?_ (fun J14 => ?_)
  · obtain ⟨m10, em10, z11⟩ := bind_ex z6
    refine gq_put5_0 C (qn_m 295 (by decide) hN) (by decide) wk_6_162 (Option.some.inj em10).symm dX4_blocked_14 ?_
    refine gq_aload_n C dX4_blocked_17 rfl 0 rfl ?_
    refine gq_get5 C (qn_m 295 (by decide) hN) (by decide) 0 (by decide) wk_6_162 rfl dX4_blocked_18 ?_
    rcases ite_ex z11 with ⟨c12, z13⟩ | ⟨c12, z13⟩
    · refine gq_if_le_t (tgt := 26) C dX4_blocked_21 (by decide) c12 ?_
      refine gq_aload_n C dX4_blocked_26 rfl 0 rfl ?_
      refine gq_iconst (v := 1) C dX4_blocked_27 (by decide) ?_
      obtain ⟨m16, eo15, z14⟩ := bind_ex z13
      refine gq_V (As := [.int (1 : Int32)]) (rest := []) (j := 5) C (c_X4_laysGains hN  eo15) (qn_m 295 (by decide) hN) (by decide) (by decide) rfl wk_8_160 wk_8_162 ws_X4_laysGains wk_1_9 wk_8_163 hd_X4_laysGains ⟨(Nat.le_of_ble_eq_true rfl), (Nat.le_of_ble_eq_true rfl)⟩ (Nat.le_of_ble_eq_true rfl) ⟨(Nat.le_of_ble_eq_true rfl), (Nat.le_of_ble_eq_true rfl)⟩ dX4_blocked_28 rfl rfl ?_
      refine gq_aload_n C dX4_blocked_31 rfl 0 rfl ?_
      refine gq_iload_n C dX4_blocked_32 rfl 1 rfl ?_
      obtain ⟨m17, em17, z18⟩ := bind_ex z14
      refine gq_put5_26 C (qn_m 295 (by decide) hN) (by decide) wk_6_188 (Option.some.inj em17).symm dX4_blocked_33 ?_
      refine gq_aload_n C dX4_blocked_36 rfl 0 rfl ?_
      refine gq_iconst (v := 0) C dX4_blocked_37 (by decide) ?_
      obtain ⟨m21, eo20, z19⟩ := bind_ex z18
      refine gq_V (As := [.int (0 : Int32)]) (rest := []) (j := 5) C (c_X4_laysGains hN  eo20) (qn_m 295 (by decide) hN) (by decide) (by decide) rfl wk_8_160 wk_8_162 ws_X4_laysGains wk_1_9 wk_8_163 hd_X4_laysGains ⟨(Nat.le_of_ble_eq_true rfl), (Nat.le_of_ble_eq_true rfl)⟩ (Nat.le_of_ble_eq_true rfl) ⟨(Nat.le_of_ble_eq_true rfl), (Nat.le_of_ble_eq_true rfl)⟩ dX4_blocked_38 rfl rfl ?_
      refine gq_aload_n C dX4_blocked_41 rfl 0 rfl ?_
      refine gq_iconst (v := -1) C dX4_blocked_42 (by decide) ?_
      obtain ⟨m22, em22, z23⟩ := bind_ex z19
      refine gq_put5_26 C (qn_m 295 (by decide) hN) (by decide) wk_6_188 (Option.some.inj em22).symm dX4_blocked_43 ?_
      refine gq_aload_n C dX4_blocked_46 rfl 0 rfl ?_
      refine gq_iload_n C dX4_blocked_47 rfl 1 rfl ?_
      refine gq_iconst (v := 1) C dX4_blocked_48 (by decide) ?_
      obtain ⟨x26, eo25, z24⟩ := bind_ex z23
      refine gq_V (As := [.int p1, .int (1 : Int32)]) (rest := []) (j := 5) C (c_X4_parted hN  eo25) (qn_m 295 (by decide) hN) (by decide) (by decide) rfl wk_8_164 wk_8_166 ws_X4_parted wk_1_9 wk_8_167 hd_X4_parted ⟨(Nat.le_of_ble_eq_true rfl), (Nat.le_of_ble_eq_true rfl)⟩ (Nat.le_of_ble_eq_true rfl) ⟨(Nat.le_of_ble_eq_true rfl), (Nat.le_of_ble_eq_true rfl)⟩ dX4_blocked_49 rfl rfl ?_
      cases z24
      exact gq_iret C hr dX4_blocked_52 (Nat.le_of_ble_eq_true rfl) (Nat.le_of_ble_eq_true rfl)
    · refine gq_if_le_f (tgt := 26) C dX4_blocked_21 (by decide) c12 ?_
      refine gq_iconst (v := 0) C dX4_blocked_24 (by decide) ?_
      cases z13
      exact gq_iret C hr dX4_blocked_25 (Nat.le_of_ble_eq_true rfl) (Nat.le_of_ble_eq_true rfl)
  · rcases ite_ex z5 with ⟨c7, z8⟩ | ⟨c7, z8⟩
    · refine gq_if_eq_t (tgt := 13) C dX4_blocked_6 (by decide) c7 ?_
      refine gq_iconst (v := 1) C dX4_blocked_13 (by decide) ?_
      cases z8
      exact gq_widen (Nat.le_of_ble_eq_true rfl) (Nat.le_of_ble_eq_true rfl) (gq_sub [0, 1] rfl J14)
    · refine gq_if_eq_f (tgt := 13) C dX4_blocked_6 (by decide) c7 ?_
      refine gq_iconst (v := 0) C dX4_blocked_9 (by decide) ?_
      refine gq_goto (tgt := 14) C dX4_blocked_10 (by decide) ?_
      cases z8
      exact gq_widen (Nat.le_of_ble_eq_true rfl) (Nat.le_of_ble_eq_true rfl) (gq_sub [0, 1] rfl J14)
abbrev rm_X4_record : Room := { frames := 0, cells := 0, slots := 0, locals := 0 }
def F_X4_record_13  : Nat → Int32 → Mm → Option Mm
  | 0, _, _ => none
  | n + 1, v1, μ =>
  if (4168 : Int32) ≤ v1 then
  (some μ)
  else
  ((aI μ 299 v1).bind fun x8 =>
  (sI μ 299 (v1 - (521 : Int32)) x8).bind fun m10 =>
  F_X4_record_13 n (v1 + 1) m10)
def F_X4_record_45  : Nat → Int32 → Mm → Option Mm
  | 0, _, _ => none
  | n + 1, v1, μ =>
  if (120 : Int32) ≤ v1 then
  (some μ)
  else
  ((aL μ 302 v1).bind fun x17 =>
  (sL μ 302 (v1 - (15 : Int32)) x17).bind fun m19 =>
  F_X4_record_45 n (v1 + 1) m19)
def F_X4_record_84  : Nat → Int32 → Mm → Option Mm
  | 0, _, _ => none
  | n + 1, v1, μ =>
  if (521 : Int32) ≤ v1 then
  (some μ)
  else
  ((aI μ 296 v1).bind fun x29 =>
  (sI μ 299 (((521 : Int32) * (μ.1 295 8)) + v1) x29).bind fun m31 =>
  F_X4_record_84 n (v1 + 1) m31)
def F_X4_record_120  : Nat → Int32 → Mm → Option Mm
  | 0, _, _ => none
  | n + 1, v1, μ =>
  if (15 : Int32) ≤ v1 then
  (some μ)
  else
  ((aL μ 300 v1).bind fun x38 =>
  (sL μ 302 (((15 : Int32) * (μ.1 295 8)) + v1) x38).bind fun m40 =>
  F_X4_record_120 n (v1 + 1) m40)
def F_X4_record  (μ : Mm) : Option Mm :=
  (if (μ.1 295 8) = (8 : Int32) then
  ((F_X4_record_13 qFuel (521 : Int32) μ).bind fun o13 =>
  (F_X4_record_45 qFuel (15 : Int32) o13).bind fun o22 =>
  (some (uI o22 295 8 ((o22.1 295 8) - (1 : Int32)))).bind fun m24 =>
  some m24)
  else
  (some μ)).bind fun o26 =>
  (F_X4_record_84 qFuel (0 : Int32) o26).bind fun o34 =>
  (F_X4_record_120 qFuel (0 : Int32) o34).bind fun o43 =>
  (some (uI o43 295 8 ((o43.1 295 8) + (1 : Int32)))).bind fun m45 =>
  some m45
set_option maxHeartbeats 4000000 in
set_option maxRecDepth 100000 in
theorem l_X4_record_13 {l : Launch} {E : Ev} (hN : 311 ≤ eN E) {p : Program} {e : Env} {s : State} {m : MethodId} {args : Array Value} {below : List Frame} {meth : Method} {c : Code} (C : Cq E p s m args meth c cX4_record 2 RX4) {Q : State → Prop} : ∀ (n : Nat) (v1 : Int32) (μ : Mm) (μx : Mm), F_X4_record_13 n v1 μ = some μx → Gq E p l e rm_X4_record s m args below meth c 0 0 2 Q 42 [(0, .ref (eB E + 295))] [] μx → Gq E p l e rm_X4_record s m args below meth c 0 0 2 Q 13 [(0, .ref (eB E + 295)), (1, .int v1)] [] μ := by
  intro n
  induction n with
  | zero =>
    intro v1 μ μx z0 kk
    rw [F_X4_record_13] at z0
    cases z0
  | succ n ih =>
    intro v1 μ μx z0 kk
    rw [F_X4_record_13] at z0
    refine gq_iload_n C dX4_record_13 rfl 1 rfl ?_
    refine gq_sipush (v := 4168) C dX4_record_14 (by decide) ?_
    rcases ite_ex z0 with ⟨c6, z7⟩ | ⟨c6, z7⟩
    · refine gq_icmp_ge_t (tgt := 42) C dX4_record_17 (by decide) c6 ?_
      cases z7
      exact gq_widen (Nat.le_of_ble_eq_true rfl) (Nat.le_of_ble_eq_true rfl) (gq_sub [0] rfl kk)
    · refine gq_icmp_ge_f (tgt := 42) C dX4_record_17 (by decide) c6 ?_
      refine gq_aload_n C dX4_record_20 rfl 0 rfl ?_
      refine gq_get5 C (qn_m 295 (by decide) hN) (by decide) 4 (by decide) wk_6_166 rfl dX4_record_21 ?_
      refine gq_iload_n C dX4_record_24 rfl 1 rfl ?_
      refine gq_sipush (v := 521) C dX4_record_25 (by decide) ?_
      refine gq_isub C dX4_record_28 ?_
      refine gq_aload_n C dX4_record_29 rfl 0 rfl ?_
      refine gq_get5 C (qn_m 295 (by decide) hN) (by decide) 4 (by decide) wk_6_166 rfl dX4_record_30 ?_
      refine gq_iload_n C dX4_record_33 rfl 1 rfl ?_
      obtain ⟨x8, ex8, z9⟩ := bind_ex z7
      refine gq_ialoadI C (qn_m 299 (by decide) hN) (by decide) ex8 dX4_record_34 ?_
      obtain ⟨m10, em10, z11⟩ := bind_ex z9
      refine gq_iastore C (qn_m 299 (by decide) hN) (by decide) em10 dX4_record_35 ?_
      refine gq_iinc (v := (v1 + 1)) (lv' := [(1, .int (v1 + 1)), (0, .ref (eB E + 295))]) (q := 1) C dX4_record_36 rfl rfl (by decide) rfl ?_
      refine gq_goto (tgt := 13) C dX4_record_39 (by decide) ?_
      refine gq_widen (k' := 0) (n' := 0) (Nat.le_of_ble_eq_true rfl) (Nat.le_of_ble_eq_true rfl) (gq_sub [1, 0] rfl ?_)
      exact ih _ _ _ z11 kk
set_option maxHeartbeats 4000000 in
set_option maxRecDepth 100000 in
theorem l_X4_record_45 {l : Launch} {E : Ev} (hN : 311 ≤ eN E) {p : Program} {e : Env} {s : State} {m : MethodId} {args : Array Value} {below : List Frame} {meth : Method} {c : Code} (C : Cq E p s m args meth c cX4_record 2 RX4) {Q : State → Prop} : ∀ (n : Nat) (v1 : Int32) (μ : Mm) (μx : Mm), F_X4_record_45 n v1 μ = some μx → Gq E p l e rm_X4_record s m args below meth c 0 0 2 Q 72 [(0, .ref (eB E + 295))] [] μx → Gq E p l e rm_X4_record s m args below meth c 0 0 2 Q 45 [(0, .ref (eB E + 295)), (1, .int v1)] [] μ := by
  intro n
  induction n with
  | zero =>
    intro v1 μ μx z0 kk
    rw [F_X4_record_45] at z0
    cases z0
  | succ n ih =>
    intro v1 μ μx z0 kk
    rw [F_X4_record_45] at z0
    refine gq_iload_n C dX4_record_45 rfl 1 rfl ?_
    refine gq_bipush (v := 120) C dX4_record_46 (by decide) ?_
    rcases ite_ex z0 with ⟨c15, z16⟩ | ⟨c15, z16⟩
    · refine gq_icmp_ge_t (tgt := 72) C dX4_record_48 (by decide) c15 ?_
      cases z16
      exact gq_widen (Nat.le_of_ble_eq_true rfl) (Nat.le_of_ble_eq_true rfl) (gq_sub [0] rfl kk)
    · refine gq_icmp_ge_f (tgt := 72) C dX4_record_48 (by decide) c15 ?_
      refine gq_aload_n C dX4_record_51 rfl 0 rfl ?_
      refine gq_get5 C (qn_m 295 (by decide) hN) (by decide) 7 (by decide) wk_6_169 rfl dX4_record_52 ?_
      refine gq_iload_n C dX4_record_55 rfl 1 rfl ?_
      refine gq_bipush (v := 15) C dX4_record_56 (by decide) ?_
      refine gq_isub C dX4_record_58 ?_
      refine gq_aload_n C dX4_record_59 rfl 0 rfl ?_
      refine gq_get5 C (qn_m 295 (by decide) hN) (by decide) 7 (by decide) wk_6_169 rfl dX4_record_60 ?_
      refine gq_iload_n C dX4_record_63 rfl 1 rfl ?_
      obtain ⟨x17, ex17, z18⟩ := bind_ex z16
      refine gq_laloadL C (qn_m 302 (by decide) hN) (by decide) ex17 dX4_record_64 ?_
      obtain ⟨m19, em19, z20⟩ := bind_ex z18
      refine gq_lastore C (qn_m 302 (by decide) hN) (by decide) em19 dX4_record_65 ?_
      refine gq_iinc (v := (v1 + 1)) (lv' := [(1, .int (v1 + 1)), (0, .ref (eB E + 295))]) (q := 1) C dX4_record_66 rfl rfl (by decide) rfl ?_
      refine gq_goto (tgt := 45) C dX4_record_69 (by decide) ?_
      refine gq_widen (k' := 0) (n' := 0) (Nat.le_of_ble_eq_true rfl) (Nat.le_of_ble_eq_true rfl) (gq_sub [1, 0] rfl ?_)
      exact ih _ _ _ z20 kk
set_option maxHeartbeats 4000000 in
set_option maxRecDepth 100000 in
theorem l_X4_record_84 {l : Launch} {E : Ev} (hN : 311 ≤ eN E) {p : Program} {e : Env} {s : State} {m : MethodId} {args : Array Value} {below : List Frame} {meth : Method} {c : Code} (C : Cq E p s m args meth c cX4_record 2 RX4) {Q : State → Prop} : ∀ (n : Nat) (v1 : Int32) (μ : Mm) (μx : Mm), F_X4_record_84 n v1 μ = some μx → Gq E p l e rm_X4_record s m args below meth c 0 0 2 Q 118 [(0, .ref (eB E + 295))] [] μx → Gq E p l e rm_X4_record s m args below meth c 0 0 2 Q 84 [(0, .ref (eB E + 295)), (1, .int v1)] [] μ := by
  intro n
  induction n with
  | zero =>
    intro v1 μ μx z0 kk
    rw [F_X4_record_84] at z0
    cases z0
  | succ n ih =>
    intro v1 μ μx z0 kk
    rw [F_X4_record_84] at z0
    refine gq_iload_n C dX4_record_84 rfl 1 rfl ?_
    refine gq_sipush (v := 521) C dX4_record_85 (by decide) ?_
    rcases ite_ex z0 with ⟨c27, z28⟩ | ⟨c27, z28⟩
    · refine gq_icmp_ge_t (tgt := 118) C dX4_record_88 (by decide) c27 ?_
      cases z28
      exact gq_widen (Nat.le_of_ble_eq_true rfl) (Nat.le_of_ble_eq_true rfl) (gq_sub [0] rfl kk)
    · refine gq_icmp_ge_f (tgt := 118) C dX4_record_88 (by decide) c27 ?_
      refine gq_aload_n C dX4_record_91 rfl 0 rfl ?_
      refine gq_get5 C (qn_m 295 (by decide) hN) (by decide) 4 (by decide) wk_6_166 rfl dX4_record_92 ?_
      refine gq_sipush (v := 521) C dX4_record_95 (by decide) ?_
      refine gq_aload_n C dX4_record_98 rfl 0 rfl ?_
      refine gq_get5 C (qn_m 295 (by decide) hN) (by decide) 8 (by decide) wk_6_170 rfl dX4_record_99 ?_
      refine gq_imul C dX4_record_102 ?_
      refine gq_iload_n C dX4_record_103 rfl 1 rfl ?_
      refine gq_iadd C dX4_record_104 ?_
      refine gq_aload_n C dX4_record_105 rfl 0 rfl ?_
      refine gq_get5 C (qn_m 295 (by decide) hN) (by decide) 1 (by decide) wk_6_163 rfl dX4_record_106 ?_
      refine gq_iload_n C dX4_record_109 rfl 1 rfl ?_
      obtain ⟨x29, ex29, z30⟩ := bind_ex z28
      refine gq_ialoadI C (qn_m 296 (by decide) hN) (by decide) ex29 dX4_record_110 ?_
      obtain ⟨m31, em31, z32⟩ := bind_ex z30
      refine gq_iastore C (qn_m 299 (by decide) hN) (by decide) em31 dX4_record_111 ?_
      refine gq_iinc (v := (v1 + 1)) (lv' := [(1, .int (v1 + 1)), (0, .ref (eB E + 295))]) (q := 1) C dX4_record_112 rfl rfl (by decide) rfl ?_
      refine gq_goto (tgt := 84) C dX4_record_115 (by decide) ?_
      refine gq_widen (k' := 0) (n' := 0) (Nat.le_of_ble_eq_true rfl) (Nat.le_of_ble_eq_true rfl) (gq_sub [1, 0] rfl ?_)
      exact ih _ _ _ z32 kk
set_option maxHeartbeats 4000000 in
set_option maxRecDepth 100000 in
theorem l_X4_record_120 {l : Launch} {E : Ev} (hN : 311 ≤ eN E) {p : Program} {e : Env} {s : State} {m : MethodId} {args : Array Value} {below : List Frame} {meth : Method} {c : Code} (C : Cq E p s m args meth c cX4_record 2 RX4) {Q : State → Prop} : ∀ (n : Nat) (v1 : Int32) (μ : Mm) (μx : Mm), F_X4_record_120 n v1 μ = some μx → Gq E p l e rm_X4_record s m args below meth c 0 0 2 Q 152 [(0, .ref (eB E + 295))] [] μx → Gq E p l e rm_X4_record s m args below meth c 0 0 2 Q 120 [(0, .ref (eB E + 295)), (1, .int v1)] [] μ := by
  intro n
  induction n with
  | zero =>
    intro v1 μ μx z0 kk
    rw [F_X4_record_120] at z0
    cases z0
  | succ n ih =>
    intro v1 μ μx z0 kk
    rw [F_X4_record_120] at z0
    refine gq_iload_n C dX4_record_120 rfl 1 rfl ?_
    refine gq_bipush (v := 15) C dX4_record_121 (by decide) ?_
    rcases ite_ex z0 with ⟨c36, z37⟩ | ⟨c36, z37⟩
    · refine gq_icmp_ge_t (tgt := 152) C dX4_record_123 (by decide) c36 ?_
      cases z37
      exact gq_widen (Nat.le_of_ble_eq_true rfl) (Nat.le_of_ble_eq_true rfl) (gq_sub [0] rfl kk)
    · refine gq_icmp_ge_f (tgt := 152) C dX4_record_123 (by decide) c36 ?_
      refine gq_aload_n C dX4_record_126 rfl 0 rfl ?_
      refine gq_get5 C (qn_m 295 (by decide) hN) (by decide) 7 (by decide) wk_6_169 rfl dX4_record_127 ?_
      refine gq_bipush (v := 15) C dX4_record_130 (by decide) ?_
      refine gq_aload_n C dX4_record_132 rfl 0 rfl ?_
      refine gq_get5 C (qn_m 295 (by decide) hN) (by decide) 8 (by decide) wk_6_170 rfl dX4_record_133 ?_
      refine gq_imul C dX4_record_136 ?_
      refine gq_iload_n C dX4_record_137 rfl 1 rfl ?_
      refine gq_iadd C dX4_record_138 ?_
      refine gq_aload_n C dX4_record_139 rfl 0 rfl ?_
      refine gq_get5 C (qn_m 295 (by decide) hN) (by decide) 5 (by decide) wk_6_167 rfl dX4_record_140 ?_
      refine gq_iload_n C dX4_record_143 rfl 1 rfl ?_
      obtain ⟨x38, ex38, z39⟩ := bind_ex z37
      refine gq_laloadL C (qn_m 300 (by decide) hN) (by decide) ex38 dX4_record_144 ?_
      obtain ⟨m40, em40, z41⟩ := bind_ex z39
      refine gq_lastore C (qn_m 302 (by decide) hN) (by decide) em40 dX4_record_145 ?_
      refine gq_iinc (v := (v1 + 1)) (lv' := [(1, .int (v1 + 1)), (0, .ref (eB E + 295))]) (q := 1) C dX4_record_146 rfl rfl (by decide) rfl ?_
      refine gq_goto (tgt := 120) C dX4_record_149 (by decide) ?_
      refine gq_widen (k' := 0) (n' := 0) (Nat.le_of_ble_eq_true rfl) (Nat.le_of_ble_eq_true rfl) (gq_sub [1, 0] rfl ?_)
      exact ih _ _ _ z41 kk
set_option maxHeartbeats 4000000 in
set_option maxRecDepth 100000 in
theorem c_X4_record {l : Launch} {E : Ev} (hN : 311 ≤ eN E) {μ : Mm} {μ' : Mm} (z0 : F_X4_record  μ = some μ') : Ct l E yX4_record (Cond.code yX4_record cX4_record 2 none :: GW) rm_X4_record [.ref (eB E + 295)] μ none μ' := by
  refine ct_of (by decide) (Nat.le_of_ble_eq_true rfl) (fun p e s m args below meth c C hr => ?_)
  have C : Cq E p s m args meth c cX4_record 2 RX4 := C
  refine gq_lv (lv' := [(0, .ref (eB E + 295))]) rfl ?_
  unfold F_X4_record at z0
  refine gq_aload_n C dX4_record_0 rfl 0 rfl ?_
  refine gq_get5 C (qn_m 295 (by decide) hN) (by decide) 8 (by decide) wk_6_170 rfl dX4_record_1 ?_
  refine gq_bipush (v := 8) C dX4_record_4 (by decide) ?_
  obtain ⟨m1, z2, z3⟩ := bind_ex z0
  refine gq_join (k' := 0) (n' := 0) (pc' := 82) (lv' := [(0, .ref (eB E + 295))]) (st' := []) (μ' := m1) ?_ (fun J82 => ?_)
  · refine gq_iconst (v := 0) C dX4_record_82 (by decide) ?_
    refine gq_istore_n (lv' := [(1, .int (0 : Int32)), (0, .ref (eB E + 295))]) C dX4_record_83 rfl (by decide) rfl ?_
    obtain ⟨m35, eo34, z33⟩ := bind_ex z3
    refine gq_widen (k' := 0) (n' := 0) (Nat.le_of_ble_eq_true rfl) (Nat.le_of_ble_eq_true rfl) (gq_sub [1, 0] rfl ?_)
    refine l_X4_record_84 hN C  qFuel _ _ _ eo34 ?_
    refine gq_iconst (v := 0) C dX4_record_118 (by decide) ?_
    refine gq_istore_n (lv' := [(1, .int (0 : Int32)), (0, .ref (eB E + 295))]) C dX4_record_119 rfl (by decide) rfl ?_
    obtain ⟨m44, eo43, z42⟩ := bind_ex z33
    refine gq_widen (k' := 0) (n' := 0) (Nat.le_of_ble_eq_true rfl) (Nat.le_of_ble_eq_true rfl) (gq_sub [1, 0] rfl ?_)
    refine l_X4_record_120 hN C  qFuel _ _ _ eo43 ?_
    refine gq_aload_n C dX4_record_152 rfl 0 rfl ?_
    refine gq_dupr C dX4_record_153 ?_
    refine gq_get5 C (qn_m 295 (by decide) hN) (by decide) 8 (by decide) wk_6_170 rfl dX4_record_154 ?_
    refine gq_iconst (v := 1) C dX4_record_157 (by decide) ?_
    refine gq_iadd C dX4_record_158 ?_
    obtain ⟨m45, em45, z46⟩ := bind_ex z42
    refine gq_put5_8 C (qn_m 295 (by decide) hN) (by decide) wk_6_170 (Option.some.inj em45).symm dX4_record_159 ?_
    cases z46
    exact gq_vret C hr dX4_record_162 (Nat.le_of_ble_eq_true rfl) (Nat.le_of_ble_eq_true rfl)
  · rcases ite_ex z2 with ⟨c4, z5⟩ | ⟨c4, z5⟩
    · refine gq_icmp_ne_f (tgt := 82) C dX4_record_6 (by decide) c4 ?_
      refine gq_sipush (v := 521) C dX4_record_9 (by decide) ?_
      refine gq_istore_n (lv' := [(1, .int (521 : Int32)), (0, .ref (eB E + 295))]) C dX4_record_12 rfl (by decide) rfl ?_
      obtain ⟨m14, eo13, z12⟩ := bind_ex z5
      refine gq_widen (k' := 0) (n' := 0) (Nat.le_of_ble_eq_true rfl) (Nat.le_of_ble_eq_true rfl) (gq_sub [1, 0] rfl ?_)
      refine l_X4_record_13 hN C  qFuel _ _ _ eo13 ?_
      refine gq_bipush (v := 15) C dX4_record_42 (by decide) ?_
      refine gq_istore_n (lv' := [(1, .int (15 : Int32)), (0, .ref (eB E + 295))]) C dX4_record_44 rfl (by decide) rfl ?_
      obtain ⟨m23, eo22, z21⟩ := bind_ex z12
      refine gq_widen (k' := 0) (n' := 0) (Nat.le_of_ble_eq_true rfl) (Nat.le_of_ble_eq_true rfl) (gq_sub [1, 0] rfl ?_)
      refine l_X4_record_45 hN C  qFuel _ _ _ eo22 ?_
      refine gq_aload_n C dX4_record_72 rfl 0 rfl ?_
      refine gq_dupr C dX4_record_73 ?_
      refine gq_get5 C (qn_m 295 (by decide) hN) (by decide) 8 (by decide) wk_6_170 rfl dX4_record_74 ?_
      refine gq_iconst (v := 1) C dX4_record_77 (by decide) ?_
      refine gq_isub C dX4_record_78 ?_
      obtain ⟨m24, em24, z25⟩ := bind_ex z21
      refine gq_put5_8 C (qn_m 295 (by decide) hN) (by decide) wk_6_170 (Option.some.inj em24).symm dX4_record_79 ?_
      cases z25
      exact gq_widen (Nat.le_of_ble_eq_true rfl) (Nat.le_of_ble_eq_true rfl) (gq_sub [0] rfl J82)
    · refine gq_icmp_ne_t (tgt := 82) C dX4_record_6 (by decide) c4 ?_
      cases z5
      exact gq_widen (Nat.le_of_ble_eq_true rfl) (Nat.le_of_ble_eq_true rfl) (gq_sub [0] rfl J82)
abbrev rm_X4_run : Room := { frames := 5, cells := 0, slots := 0, locals := 128 }
def F_X4_run_47 (u1 : Int32) : Nat → Int32 → Int32 → Mm → Option (Int32 × Mm)
  | 0, _, _, _ => none
  | n + 1, v2, v3, μ =>
  if u1 ≤ v3 then
  (some (v2, μ))
  else
  ((F_X4_month  μ).bind fun o24 =>
  F_X4_run_47 u1 n (v2 + o24.1) (v3 + 1) o24.2)
def F_X4_run (p1 : Int32) (μ : Mm) : Option (Int32 × Mm) :=
  (F_X4_isMonths p1 μ).bind fun o2 =>
  (if o2 = 0 then
  (some (1 : Int32))
  else
  ((aI μ 296 (0 : Int32)).bind fun x9 =>
  if x9 = 0 then
  (some (2 : Int32))
  else
  (some (0 : Int32)))).bind fun o13 =>
  (some (uI μ 295 0 o13)).bind fun m14 =>
  if (m14.1 295 0) ≤ 0 then
  ((F_X4_record  m14).bind fun o19 =>
  (F_X4_run_47 p1 qFuel (0 : Int32) (0 : Int32) o19).bind fun o28 =>
  some (o28.1, o28.2))
  else
  (some ((0 : Int32), m14))
set_option maxHeartbeats 4000000 in
set_option maxRecDepth 100000 in
theorem l_X4_run_47 {l : Launch} {E : Ev} (hN : 311 ≤ eN E) {p : Program} {e : Env} {s : State} {m : MethodId} {args : Array Value} {below : List Frame} {meth : Method} {c : Code} (C : Cq E p s m args meth c cX4_run 4 RX4) {Q : State → Prop} {u1 : Int32} : ∀ (n : Nat) (v2 : Int32) (v3 : Int32) (μ : Mm) (w2 : Int32) (μx : Mm), F_X4_run_47 u1 n v2 v3 μ = some (w2, μx) → Gq E p l e rm_X4_run s m args below meth c 0 0 4 Q 65 [(2, .int w2)] [] μx → Gq E p l e rm_X4_run s m args below meth c 0 0 4 Q 47 [(0, .ref (eB E + 295)), (1, .int u1), (2, .int v2), (3, .int v3)] [] μ := by
  intro n
  induction n with
  | zero =>
    intro v2 v3 μ w2 μx z0 kk
    rw [F_X4_run_47] at z0
    cases z0
  | succ n ih =>
    intro v2 v3 μ w2 μx z0 kk
    rw [F_X4_run_47] at z0
    refine gq_iload_n C dX4_run_47 rfl 3 rfl ?_
    refine gq_iload_n C dX4_run_48 rfl 1 rfl ?_
    rcases ite_ex z0 with ⟨c21, z22⟩ | ⟨c21, z22⟩
    · refine gq_icmp_ge_t (tgt := 65) C dX4_run_49 (by decide) c21 ?_
      cases z22
      exact gq_widen (Nat.le_of_ble_eq_true rfl) (Nat.le_of_ble_eq_true rfl) (gq_sub [2] rfl kk)
    · refine gq_icmp_ge_f (tgt := 65) C dX4_run_49 (by decide) c21 ?_
      refine gq_iload_n C dX4_run_52 rfl 2 rfl ?_
      refine gq_aload_n C dX4_run_53 rfl 0 rfl ?_
      obtain ⟨⟨x25, m26⟩, eo24, z23⟩ := bind_ex z22
      dsimp only at z23
      refine gq_V (As := []) (rest := [.int v2]) (j := 5) C (c_X4_month hN  eo24) (qn_m 295 (by decide) hN) (by decide) (by decide) rfl wk_8_75 wk_8_77 ws_X4_month wk_1_9 wk_8_78 hd_X4_month ⟨(Nat.le_of_ble_eq_true rfl), (Nat.le_of_ble_eq_true rfl)⟩ (Nat.le_of_ble_eq_true rfl) ⟨(Nat.le_of_ble_eq_true rfl), (Nat.le_of_ble_eq_true rfl)⟩ dX4_run_54 rfl rfl ?_
      refine gq_iadd C dX4_run_57 ?_
      refine gq_istore_n (lv' := [(2, .int (v2 + x25)), (0, .ref (eB E + 295)), (1, .int u1), (3, .int v3)]) C dX4_run_58 rfl (by decide) rfl ?_
      refine gq_iinc (v := (v3 + 1)) (lv' := [(3, .int (v3 + 1)), (2, .int (v2 + x25)), (0, .ref (eB E + 295)), (1, .int u1)]) (q := 3) C dX4_run_59 rfl rfl (by decide) rfl ?_
      refine gq_goto (tgt := 47) C dX4_run_62 (by decide) ?_
      refine gq_widen (k' := 0) (n' := 0) (Nat.le_of_ble_eq_true rfl) (Nat.le_of_ble_eq_true rfl) (gq_sub [2, 3, 1, 0] rfl ?_)
      exact ih _ _ _ _ _ z23 kk
set_option maxHeartbeats 4000000 in
set_option maxRecDepth 100000 in
theorem c_X4_run {l : Launch} {E : Ev} (hN : 311 ≤ eN E) {p1 : Int32} {μ : Mm} {r : Int32} {μ' : Mm} (z0 : F_X4_run p1 μ = some (r, μ')) : Ct l E yX4_run (Cond.code yX4_run cX4_run 4 (some .int) :: GW) rm_X4_run [.ref (eB E + 295), .int p1] μ (some (.int r)) μ' := by
  refine ct_of (by decide) (Nat.le_of_ble_eq_true rfl) (fun p e s m args below meth c C hr => ?_)
  have C : Cq E p s m args meth c cX4_run 4 RX4 := C
  refine gq_lv (lv' := [(0, .ref (eB E + 295)), (1, .int p1)]) rfl ?_
  unfold F_X4_run at z0
  refine gq_aload_n C dX4_run_0 rfl 0 rfl ?_
  refine gq_aload_n C dX4_run_1 rfl 0 rfl ?_
  refine gq_iload_n C dX4_run_2 rfl 1 rfl ?_
  obtain ⟨x3, eo2, z1⟩ := bind_ex z0
  refine gq_V (As := [.int p1]) (rest := [.ref (eB E + 295)]) (j := 5) C (c_X4_isMonths hN  eo2) (qn_m 295 (by decide) hN) (by decide) (by decide) rfl wk_8_59 wk_8_61 ws_X4_isMonths wk_1_9 wk_8_62 hd_X4_isMonths ⟨(Nat.le_of_ble_eq_true rfl), (Nat.le_of_ble_eq_true rfl)⟩ (Nat.le_of_ble_eq_true rfl) ⟨(Nat.le_of_ble_eq_true rfl), (Nat.le_of_ble_eq_true rfl)⟩ dX4_run_3 rfl rfl ?_
  obtain ⟨x4, z5, z6⟩ := bind_ex z1
  refine gq_join (k' := 0) (n' := 0) (pc' := 27) (lv' := [(0, .ref (eB E + 295)), (1, .int p1)]) (st' := [.int x4, .ref (eB E + 295)]) (μ' := μ) ?_ (fun J27 => ?_)
  · obtain ⟨m14, em14, z15⟩ := bind_ex z6
    refine gq_put5_0 C (qn_m 295 (by decide) hN) (by decide) wk_6_162 (Option.some.inj em14).symm dX4_run_27 ?_
    refine gq_aload_n C dX4_run_30 rfl 0 rfl ?_
    refine gq_get5 C (qn_m 295 (by decide) hN) (by decide) 0 (by decide) wk_6_162 rfl dX4_run_31 ?_
    rcases ite_ex z15 with ⟨c16, z17⟩ | ⟨c16, z17⟩
    · refine gq_if_le_t (tgt := 39) C dX4_run_34 (by decide) c16 ?_
      refine gq_aload_n C dX4_run_39 rfl 0 rfl ?_
      obtain ⟨m20, eo19, z18⟩ := bind_ex z17
      refine gq_V (As := []) (rest := []) (j := 5) C (c_X4_record hN  eo19) (qn_m 295 (by decide) hN) (by decide) (by decide) rfl wk_8_176 wk_8_178 ws_X4_record wk_1_9 wk_8_179 hd_X4_record ⟨(Nat.le_of_ble_eq_true rfl), (Nat.le_of_ble_eq_true rfl)⟩ (Nat.le_of_ble_eq_true rfl) ⟨(Nat.le_of_ble_eq_true rfl), (Nat.le_of_ble_eq_true rfl)⟩ dX4_run_40 rfl rfl ?_
      refine gq_iconst (v := 0) C dX4_run_43 (by decide) ?_
      refine gq_istore_n (lv' := [(2, .int (0 : Int32)), (0, .ref (eB E + 295)), (1, .int p1)]) C dX4_run_44 rfl (by decide) rfl ?_
      refine gq_iconst (v := 0) C dX4_run_45 (by decide) ?_
      refine gq_istore_n (lv' := [(3, .int (0 : Int32)), (2, .int (0 : Int32)), (0, .ref (eB E + 295)), (1, .int p1)]) C dX4_run_46 rfl (by decide) rfl ?_
      obtain ⟨⟨x29, m30⟩, eo28, z27⟩ := bind_ex z18
      dsimp only at z27
      refine gq_widen (k' := 0) (n' := 0) (Nat.le_of_ble_eq_true rfl) (Nat.le_of_ble_eq_true rfl) (gq_sub [2, 3, 1, 0] rfl ?_)
      refine l_X4_run_47 hN C  qFuel _ _ _ _ _ eo28 ?_
      refine gq_iload_n C dX4_run_65 rfl 0 rfl ?_
      cases z27
      exact gq_iret C hr dX4_run_66 (Nat.le_of_ble_eq_true rfl) (Nat.le_of_ble_eq_true rfl)
    · refine gq_if_le_f (tgt := 39) C dX4_run_34 (by decide) c16 ?_
      refine gq_iconst (v := 0) C dX4_run_37 (by decide) ?_
      cases z17
      exact gq_iret C hr dX4_run_38 (Nat.le_of_ble_eq_true rfl) (Nat.le_of_ble_eq_true rfl)
  · rcases ite_ex z5 with ⟨c7, z8⟩ | ⟨c7, z8⟩
    · refine gq_if_ne_f (tgt := 13) C dX4_run_6 (by decide) c7 ?_
      refine gq_iconst (v := 1) C dX4_run_9 (by decide) ?_
      refine gq_goto (tgt := 27) C dX4_run_10 (by decide) ?_
      cases z8
      exact gq_widen (Nat.le_of_ble_eq_true rfl) (Nat.le_of_ble_eq_true rfl) (gq_sub [0, 1] rfl J27)
    · refine gq_if_ne_t (tgt := 13) C dX4_run_6 (by decide) c7 ?_
      refine gq_aload_n C dX4_run_13 rfl 0 rfl ?_
      refine gq_get5 C (qn_m 295 (by decide) hN) (by decide) 1 (by decide) wk_6_163 rfl dX4_run_14 ?_
      refine gq_iconst (v := 0) C dX4_run_17 (by decide) ?_
      obtain ⟨x9, ex9, z10⟩ := bind_ex z8
      refine gq_ialoadI C (qn_m 296 (by decide) hN) (by decide) ex9 dX4_run_18 ?_
      rcases ite_ex z10 with ⟨c11, z12⟩ | ⟨c11, z12⟩
      · refine gq_if_ne_f (tgt := 26) C dX4_run_19 (by decide) c11 ?_
        refine gq_iconst (v := 2) C dX4_run_22 (by decide) ?_
        refine gq_goto (tgt := 27) C dX4_run_23 (by decide) ?_
        cases z12
        exact gq_widen (Nat.le_of_ble_eq_true rfl) (Nat.le_of_ble_eq_true rfl) (gq_sub [0, 1] rfl J27)
      · refine gq_if_ne_t (tgt := 26) C dX4_run_19 (by decide) c11 ?_
        refine gq_iconst (v := 0) C dX4_run_26 (by decide) ?_
        cases z12
        exact gq_widen (Nat.le_of_ble_eq_true rfl) (Nat.le_of_ble_eq_true rfl) (gq_sub [0, 1] rfl J27)
abbrev rm_X4_lease : Room := { frames := 2, cells := 0, slots := 0, locals := 43 }
def F_X4_lease (p1 : Int32) (p2 : Int32) (p3 : Int32) (p4 : Int32) (p5 : Int32) (p6 : Int32) (μ : Mm) : Option (Int32 × Mm) :=
  (F_X4_inRange p4 (1 : Int32) (999 : Int32) μ).bind fun o2 =>
  (if o2 = 0 then
  (some (0 : Int32))
  else
  ((F_X4_inRange p5 (0 : Int32) (99 : Int32) μ).bind fun o10 =>
  if o10 = 0 then
  (some (0 : Int32))
  else
  ((F_X4_isMonths p6 μ).bind fun o15 =>
  if o15 = 0 then
  (some (0 : Int32))
  else
  (some (1 : Int32))))).bind fun o19 =>
  (F_X4_isRight p1 μ).bind fun o21 =>
  (if o21 = 0 then
  (some (1 : Int32))
  else
  ((F_X4_isAccount p2 μ).bind fun o29 =>
  if o29 = 0 then
  (some (1 : Int32))
  else
  ((F_X4_isReach p3 μ).bind fun o34 =>
  if o34 = 0 then
  (some (1 : Int32))
  else
  (if o19 = 0 then
  (some (2 : Int32))
  else
  ((aI μ 296 (3 : Int32)).bind fun x40 =>
  if x40 = (8 : Int32) then
  (some (3 : Int32))
  else
  (some (0 : Int32))))))).bind fun o44 =>
  (some (uI μ 295 0 o44)).bind fun m45 =>
  if (m45.1 295 0) ≤ 0 then
  ((F_X4_record  m45).bind fun o50 =>
  (aI o50 296 (3 : Int32)).bind fun x52 =>
  (sI o50 296 (((158 : Int32) + ((6 : Int32) * x52)) + (0 : Int32)) p1).bind fun m54 =>
  (sI m54 296 (((158 : Int32) + ((6 : Int32) * x52)) + (1 : Int32)) p2).bind fun m56 =>
  (sI m56 296 (((158 : Int32) + ((6 : Int32) * x52)) + (2 : Int32)) p3).bind fun m58 =>
  (sI m58 296 (((158 : Int32) + ((6 : Int32) * x52)) + (3 : Int32)) p4).bind fun m60 =>
  (sI m60 296 (((158 : Int32) + ((6 : Int32) * x52)) + (4 : Int32)) p5).bind fun m62 =>
  (sI m62 296 (((158 : Int32) + ((6 : Int32) * x52)) + (5 : Int32)) p6).bind fun m64 =>
  (aI m64 296 (3 : Int32)).bind fun x66 =>
  (sI m64 296 (3 : Int32) (x66 + (1 : Int32))).bind fun m68 =>
  (aI m68 296 (3 : Int32)).bind fun x70 =>
  some ((x70 - (1 : Int32)), m68))
  else
  (some ((0 : Int32), m45))
set_option maxHeartbeats 4000000 in
set_option maxRecDepth 100000 in
theorem c_X4_lease {l : Launch} {E : Ev} (hN : 311 ≤ eN E) {p1 : Int32} {p2 : Int32} {p3 : Int32} {p4 : Int32} {p5 : Int32} {p6 : Int32} {μ : Mm} {r : Int32} {μ' : Mm} (z0 : F_X4_lease p1 p2 p3 p4 p5 p6 μ = some (r, μ')) : Ct l E yX4_lease (Cond.code yX4_lease cX4_lease 9 (some .int) :: GW) rm_X4_lease [.ref (eB E + 295), .int p1, .int p2, .int p3, .int p4, .int p5, .int p6] μ (some (.int r)) μ' := by
  refine ct_of (by decide) (Nat.le_of_ble_eq_true rfl) (fun p e s m args below meth c C hr => ?_)
  have C : Cq E p s m args meth c cX4_lease 9 RX4 := C
  refine gq_lv (lv' := [(0, .ref (eB E + 295)), (1, .int p1), (2, .int p2), (3, .int p3), (4, .int p4), (5, .int p5), (6, .int p6)]) rfl ?_
  unfold F_X4_lease at z0
  refine gq_iload C dX4_lease_0 4 rfl ?_
  refine gq_iconst (v := 1) C dX4_lease_2 (by decide) ?_
  refine gq_sipush (v := 999) C dX4_lease_3 (by decide) ?_
  obtain ⟨x3, eo2, z1⟩ := bind_ex z0
  refine gq_S (As := [.int p4, .int (1 : Int32), .int (999 : Int32)]) (rest := []) C (c_X4_inRange hN  eo2) wk_7_50 wk_7_51 wk_1_9 wk_7_52 hd_X4_inRange ⟨(Nat.le_of_ble_eq_true rfl), (Nat.le_of_ble_eq_true rfl)⟩ (Nat.le_of_ble_eq_true rfl) ⟨(Nat.le_of_ble_eq_true rfl), (Nat.le_of_ble_eq_true rfl)⟩ dX4_lease_6 rfl rfl ?_
  obtain ⟨x4, z5, z6⟩ := bind_ex z1
  refine gq_join (k' := 0) (n' := 0) (pc' := 37) (lv' := [(0, .ref (eB E + 295)), (1, .int p1), (2, .int p2), (3, .int p3), (4, .int p4), (5, .int p5), (6, .int p6)]) (st' := [.int x4]) (μ' := μ) ?_ (fun J37 => ?_)
  · refine gq_istore (lv' := [(7, .int x4), (0, .ref (eB E + 295)), (1, .int p1), (2, .int p2), (3, .int p3), (4, .int p4), (5, .int p5), (6, .int p6)]) C dX4_lease_37 (by decide) rfl ?_
    refine gq_aload_n C dX4_lease_39 rfl 1 rfl ?_
    refine gq_aload_n C dX4_lease_40 rfl 1 rfl ?_
    refine gq_iload_n C dX4_lease_41 rfl 2 rfl ?_
    obtain ⟨x22, eo21, z20⟩ := bind_ex z6
    refine gq_V (As := [.int p1]) (rest := [.ref (eB E + 295)]) (j := 5) C (c_X4_isRight hN  eo21) (qn_m 295 (by decide) hN) (by decide) (by decide) rfl wk_7_175 wk_7_177 ws_X4_isRight wk_1_9 wk_7_178 hd_X4_isRight ⟨(Nat.le_of_ble_eq_true rfl), (Nat.le_of_ble_eq_true rfl)⟩ (Nat.le_of_ble_eq_true rfl) ⟨(Nat.le_of_ble_eq_true rfl), (Nat.le_of_ble_eq_true rfl)⟩ dX4_lease_42 rfl rfl ?_
    obtain ⟨x23, z24, z25⟩ := bind_ex z20
    refine gq_join (k' := 0) (n' := 0) (pc' := 93) (lv' := [(0, .ref (eB E + 295)), (1, .int p1), (2, .int p2), (3, .int p3), (4, .int p4), (5, .int p5), (6, .int p6)]) (st' := [.int x23, .ref (eB E + 295)]) (μ' := μ) ?_ (fun J93 => ?_)
    · obtain ⟨m45, em45, z46⟩ := bind_ex z25
      refine gq_put5_0 C (qn_m 295 (by decide) hN) (by decide) wk_6_162 (Option.some.inj em45).symm dX4_lease_93 ?_
      refine gq_aload_n C dX4_lease_96 rfl 0 rfl ?_
      refine gq_get5 C (qn_m 295 (by decide) hN) (by decide) 0 (by decide) wk_6_162 rfl dX4_lease_97 ?_
      rcases ite_ex z46 with ⟨c47, z48⟩ | ⟨c47, z48⟩
      · refine gq_if_le_t (tgt := 105) C dX4_lease_100 (by decide) c47 ?_
        refine gq_aload_n C dX4_lease_105 rfl 0 rfl ?_
        obtain ⟨m51, eo50, z49⟩ := bind_ex z48
        refine gq_V (As := []) (rest := []) (j := 5) C (c_X4_record hN  eo50) (qn_m 295 (by decide) hN) (by decide) (by decide) rfl wk_8_176 wk_8_178 ws_X4_record wk_1_9 wk_8_179 hd_X4_record ⟨(Nat.le_of_ble_eq_true rfl), (Nat.le_of_ble_eq_true rfl)⟩ (Nat.le_of_ble_eq_true rfl) ⟨(Nat.le_of_ble_eq_true rfl), (Nat.le_of_ble_eq_true rfl)⟩ dX4_lease_106 rfl rfl ?_
        refine gq_sipush (v := 158) C dX4_lease_109 (by decide) ?_
        refine gq_bipush (v := 6) C dX4_lease_112 (by decide) ?_
        refine gq_aload_n C dX4_lease_114 rfl 0 rfl ?_
        refine gq_get5 C (qn_m 295 (by decide) hN) (by decide) 1 (by decide) wk_6_163 rfl dX4_lease_115 ?_
        refine gq_iconst (v := 3) C dX4_lease_118 (by decide) ?_
        obtain ⟨x52, ex52, z53⟩ := bind_ex z49
        refine gq_ialoadI C (qn_m 296 (by decide) hN) (by decide) ex52 dX4_lease_119 ?_
        refine gq_imul C dX4_lease_120 ?_
        refine gq_iadd C dX4_lease_121 ?_
        refine gq_istore (lv' := [(8, .int ((158 : Int32) + ((6 : Int32) * x52))), (0, .ref (eB E + 295)), (1, .int p1), (2, .int p2), (3, .int p3), (4, .int p4), (5, .int p5), (6, .int p6)]) C dX4_lease_122 (by decide) rfl ?_
        refine gq_aload_n C dX4_lease_124 rfl 1 rfl ?_
        refine gq_get5 C (qn_m 295 (by decide) hN) (by decide) 1 (by decide) wk_6_163 rfl dX4_lease_125 ?_
        refine gq_iload C dX4_lease_128 0 rfl ?_
        refine gq_iconst (v := 0) C dX4_lease_130 (by decide) ?_
        refine gq_iadd C dX4_lease_131 ?_
        refine gq_iload_n C dX4_lease_132 rfl 2 rfl ?_
        obtain ⟨m54, em54, z55⟩ := bind_ex z53
        refine gq_iastore C (qn_m 296 (by decide) hN) (by decide) em54 dX4_lease_133 ?_
        refine gq_aload_n C dX4_lease_134 rfl 1 rfl ?_
        refine gq_get5 C (qn_m 295 (by decide) hN) (by decide) 1 (by decide) wk_6_163 rfl dX4_lease_135 ?_
        refine gq_iload C dX4_lease_138 0 rfl ?_
        refine gq_iconst (v := 1) C dX4_lease_140 (by decide) ?_
        refine gq_iadd C dX4_lease_141 ?_
        refine gq_iload_n C dX4_lease_142 rfl 3 rfl ?_
        obtain ⟨m56, em56, z57⟩ := bind_ex z55
        refine gq_iastore C (qn_m 296 (by decide) hN) (by decide) em56 dX4_lease_143 ?_
        refine gq_aload_n C dX4_lease_144 rfl 1 rfl ?_
        refine gq_get5 C (qn_m 295 (by decide) hN) (by decide) 1 (by decide) wk_6_163 rfl dX4_lease_145 ?_
        refine gq_iload C dX4_lease_148 0 rfl ?_
        refine gq_iconst (v := 2) C dX4_lease_150 (by decide) ?_
        refine gq_iadd C dX4_lease_151 ?_
        refine gq_iload_n C dX4_lease_152 rfl 4 rfl ?_
        obtain ⟨m58, em58, z59⟩ := bind_ex z57
        refine gq_iastore C (qn_m 296 (by decide) hN) (by decide) em58 dX4_lease_153 ?_
        refine gq_aload_n C dX4_lease_154 rfl 1 rfl ?_
        refine gq_get5 C (qn_m 295 (by decide) hN) (by decide) 1 (by decide) wk_6_163 rfl dX4_lease_155 ?_
        refine gq_iload C dX4_lease_158 0 rfl ?_
        refine gq_iconst (v := 3) C dX4_lease_160 (by decide) ?_
        refine gq_iadd C dX4_lease_161 ?_
        refine gq_iload C dX4_lease_162 5 rfl ?_
        obtain ⟨m60, em60, z61⟩ := bind_ex z59
        refine gq_iastore C (qn_m 296 (by decide) hN) (by decide) em60 dX4_lease_164 ?_
        refine gq_aload_n C dX4_lease_165 rfl 1 rfl ?_
        refine gq_get5 C (qn_m 295 (by decide) hN) (by decide) 1 (by decide) wk_6_163 rfl dX4_lease_166 ?_
        refine gq_iload C dX4_lease_169 0 rfl ?_
        refine gq_iconst (v := 4) C dX4_lease_171 (by decide) ?_
        refine gq_iadd C dX4_lease_172 ?_
        refine gq_iload C dX4_lease_173 6 rfl ?_
        obtain ⟨m62, em62, z63⟩ := bind_ex z61
        refine gq_iastore C (qn_m 296 (by decide) hN) (by decide) em62 dX4_lease_175 ?_
        refine gq_aload_n C dX4_lease_176 rfl 1 rfl ?_
        refine gq_get5 C (qn_m 295 (by decide) hN) (by decide) 1 (by decide) wk_6_163 rfl dX4_lease_177 ?_
        refine gq_iload C dX4_lease_180 0 rfl ?_
        refine gq_iconst (v := 5) C dX4_lease_182 (by decide) ?_
        refine gq_iadd C dX4_lease_183 ?_
        refine gq_iload C dX4_lease_184 7 rfl ?_
        obtain ⟨m64, em64, z65⟩ := bind_ex z63
        refine gq_iastore C (qn_m 296 (by decide) hN) (by decide) em64 dX4_lease_186 ?_
        refine gq_aload_n C dX4_lease_187 rfl 1 rfl ?_
        refine gq_get5 C (qn_m 295 (by decide) hN) (by decide) 1 (by decide) wk_6_163 rfl dX4_lease_188 ?_
        refine gq_iconst (v := 3) C dX4_lease_191 (by decide) ?_
        refine gq_dup2 C dX4_lease_192 ?_
        obtain ⟨x66, ex66, z67⟩ := bind_ex z65
        refine gq_ialoadI C (qn_m 296 (by decide) hN) (by decide) ex66 dX4_lease_193 ?_
        refine gq_iconst (v := 1) C dX4_lease_194 (by decide) ?_
        refine gq_iadd C dX4_lease_195 ?_
        obtain ⟨m68, em68, z69⟩ := bind_ex z67
        refine gq_iastore C (qn_m 296 (by decide) hN) (by decide) em68 dX4_lease_196 ?_
        refine gq_aload_n C dX4_lease_197 rfl 1 rfl ?_
        refine gq_get5 C (qn_m 295 (by decide) hN) (by decide) 1 (by decide) wk_6_163 rfl dX4_lease_198 ?_
        refine gq_iconst (v := 3) C dX4_lease_201 (by decide) ?_
        obtain ⟨x70, ex70, z71⟩ := bind_ex z69
        refine gq_ialoadI C (qn_m 296 (by decide) hN) (by decide) ex70 dX4_lease_202 ?_
        refine gq_iconst (v := 1) C dX4_lease_203 (by decide) ?_
        refine gq_isub C dX4_lease_204 ?_
        cases z71
        exact gq_iret C hr dX4_lease_205 (Nat.le_of_ble_eq_true rfl) (Nat.le_of_ble_eq_true rfl)
      · refine gq_if_le_f (tgt := 105) C dX4_lease_100 (by decide) c47 ?_
        refine gq_iconst (v := 0) C dX4_lease_103 (by decide) ?_
        cases z48
        exact gq_iret C hr dX4_lease_104 (Nat.le_of_ble_eq_true rfl) (Nat.le_of_ble_eq_true rfl)
    · rcases ite_ex z24 with ⟨c26, z27⟩ | ⟨c26, z27⟩
      · refine gq_if_eq_t (tgt := 64) C dX4_lease_45 (by decide) c26 ?_
        refine gq_iconst (v := 1) C dX4_lease_64 (by decide) ?_
        refine gq_goto (tgt := 93) C dX4_lease_65 (by decide) ?_
        cases z27
        exact gq_widen (Nat.le_of_ble_eq_true rfl) (Nat.le_of_ble_eq_true rfl) (gq_sub [1, 2, 3, 4, 5, 6, 7] rfl J93)
      · refine gq_if_eq_f (tgt := 64) C dX4_lease_45 (by decide) c26 ?_
        refine gq_aload_n C dX4_lease_48 rfl 1 rfl ?_
        refine gq_iload_n C dX4_lease_49 rfl 3 rfl ?_
        obtain ⟨x30, eo29, z28⟩ := bind_ex z27
        refine gq_V (As := [.int p2]) (rest := [.ref (eB E + 295)]) (j := 5) C (c_X4_isAccount hN  eo29) (qn_m 295 (by decide) hN) (by decide) (by decide) rfl wk_7_163 wk_7_165 ws_X4_isAccount wk_1_9 wk_7_166 hd_X4_isAccount ⟨(Nat.le_of_ble_eq_true rfl), (Nat.le_of_ble_eq_true rfl)⟩ (Nat.le_of_ble_eq_true rfl) ⟨(Nat.le_of_ble_eq_true rfl), (Nat.le_of_ble_eq_true rfl)⟩ dX4_lease_50 rfl rfl ?_
        rcases ite_ex z28 with ⟨c31, z32⟩ | ⟨c31, z32⟩
        · refine gq_if_eq_t (tgt := 64) C dX4_lease_53 (by decide) c31 ?_
          refine gq_iconst (v := 1) C dX4_lease_64 (by decide) ?_
          refine gq_goto (tgt := 93) C dX4_lease_65 (by decide) ?_
          cases z32
          exact gq_widen (Nat.le_of_ble_eq_true rfl) (Nat.le_of_ble_eq_true rfl) (gq_sub [1, 2, 3, 4, 5, 6, 7] rfl J93)
        · refine gq_if_eq_f (tgt := 64) C dX4_lease_53 (by decide) c31 ?_
          refine gq_aload_n C dX4_lease_56 rfl 1 rfl ?_
          refine gq_iload_n C dX4_lease_57 rfl 4 rfl ?_
          obtain ⟨x35, eo34, z33⟩ := bind_ex z32
          refine gq_V (As := [.int p3]) (rest := [.ref (eB E + 295)]) (j := 5) C (c_X4_isReach hN  eo34) (qn_m 295 (by decide) hN) (by decide) (by decide) rfl wk_7_147 wk_7_149 ws_X4_isReach wk_1_9 wk_7_150 hd_X4_isReach ⟨(Nat.le_of_ble_eq_true rfl), (Nat.le_of_ble_eq_true rfl)⟩ (Nat.le_of_ble_eq_true rfl) ⟨(Nat.le_of_ble_eq_true rfl), (Nat.le_of_ble_eq_true rfl)⟩ dX4_lease_58 rfl rfl ?_
          rcases ite_ex z33 with ⟨c36, z37⟩ | ⟨c36, z37⟩
          · refine gq_if_ne_f (tgt := 68) C dX4_lease_61 (by decide) c36 ?_
            refine gq_iconst (v := 1) C dX4_lease_64 (by decide) ?_
            refine gq_goto (tgt := 93) C dX4_lease_65 (by decide) ?_
            cases z37
            exact gq_widen (Nat.le_of_ble_eq_true rfl) (Nat.le_of_ble_eq_true rfl) (gq_sub [1, 2, 3, 4, 5, 6, 7] rfl J93)
          · refine gq_if_ne_t (tgt := 68) C dX4_lease_61 (by decide) c36 ?_
            refine gq_iload C dX4_lease_68 0 rfl ?_
            rcases ite_ex z37 with ⟨c38, z39⟩ | ⟨c38, z39⟩
            · refine gq_if_ne_f (tgt := 77) C dX4_lease_70 (by decide) c38 ?_
              refine gq_iconst (v := 2) C dX4_lease_73 (by decide) ?_
              refine gq_goto (tgt := 93) C dX4_lease_74 (by decide) ?_
              cases z39
              exact gq_widen (Nat.le_of_ble_eq_true rfl) (Nat.le_of_ble_eq_true rfl) (gq_sub [1, 2, 3, 4, 5, 6, 7] rfl J93)
            · refine gq_if_ne_t (tgt := 77) C dX4_lease_70 (by decide) c38 ?_
              refine gq_aload_n C dX4_lease_77 rfl 1 rfl ?_
              refine gq_get5 C (qn_m 295 (by decide) hN) (by decide) 1 (by decide) wk_6_163 rfl dX4_lease_78 ?_
              refine gq_iconst (v := 3) C dX4_lease_81 (by decide) ?_
              obtain ⟨x40, ex40, z41⟩ := bind_ex z39
              refine gq_ialoadI C (qn_m 296 (by decide) hN) (by decide) ex40 dX4_lease_82 ?_
              refine gq_bipush (v := 8) C dX4_lease_83 (by decide) ?_
              rcases ite_ex z41 with ⟨c42, z43⟩ | ⟨c42, z43⟩
              · refine gq_icmp_ne_f (tgt := 92) C dX4_lease_85 (by decide) c42 ?_
                refine gq_iconst (v := 3) C dX4_lease_88 (by decide) ?_
                refine gq_goto (tgt := 93) C dX4_lease_89 (by decide) ?_
                cases z43
                exact gq_widen (Nat.le_of_ble_eq_true rfl) (Nat.le_of_ble_eq_true rfl) (gq_sub [1, 2, 3, 4, 5, 6, 7] rfl J93)
              · refine gq_icmp_ne_t (tgt := 92) C dX4_lease_85 (by decide) c42 ?_
                refine gq_iconst (v := 0) C dX4_lease_92 (by decide) ?_
                cases z43
                exact gq_widen (Nat.le_of_ble_eq_true rfl) (Nat.le_of_ble_eq_true rfl) (gq_sub [1, 2, 3, 4, 5, 6, 7] rfl J93)
  · rcases ite_ex z5 with ⟨c7, z8⟩ | ⟨c7, z8⟩
    · refine gq_if_eq_t (tgt := 36) C dX4_lease_9 (by decide) c7 ?_
      refine gq_iconst (v := 0) C dX4_lease_36 (by decide) ?_
      cases z8
      exact gq_widen (Nat.le_of_ble_eq_true rfl) (Nat.le_of_ble_eq_true rfl) (gq_sub [0, 1, 2, 3, 4, 5, 6] rfl J37)
    · refine gq_if_eq_f (tgt := 36) C dX4_lease_9 (by decide) c7 ?_
      refine gq_iload C dX4_lease_12 5 rfl ?_
      refine gq_iconst (v := 0) C dX4_lease_14 (by decide) ?_
      refine gq_bipush (v := 99) C dX4_lease_15 (by decide) ?_
      obtain ⟨x11, eo10, z9⟩ := bind_ex z8
      refine gq_S (As := [.int p5, .int (0 : Int32), .int (99 : Int32)]) (rest := []) C (c_X4_inRange hN  eo10) wk_7_50 wk_7_51 wk_1_9 wk_7_52 hd_X4_inRange ⟨(Nat.le_of_ble_eq_true rfl), (Nat.le_of_ble_eq_true rfl)⟩ (Nat.le_of_ble_eq_true rfl) ⟨(Nat.le_of_ble_eq_true rfl), (Nat.le_of_ble_eq_true rfl)⟩ dX4_lease_17 rfl rfl ?_
      rcases ite_ex z9 with ⟨c12, z13⟩ | ⟨c12, z13⟩
      · refine gq_if_eq_t (tgt := 36) C dX4_lease_20 (by decide) c12 ?_
        refine gq_iconst (v := 0) C dX4_lease_36 (by decide) ?_
        cases z13
        exact gq_widen (Nat.le_of_ble_eq_true rfl) (Nat.le_of_ble_eq_true rfl) (gq_sub [0, 1, 2, 3, 4, 5, 6] rfl J37)
      · refine gq_if_eq_f (tgt := 36) C dX4_lease_20 (by decide) c12 ?_
        refine gq_aload_n C dX4_lease_23 rfl 0 rfl ?_
        refine gq_iload C dX4_lease_24 6 rfl ?_
        obtain ⟨x16, eo15, z14⟩ := bind_ex z13
        refine gq_V (As := [.int p6]) (rest := []) (j := 5) C (c_X4_isMonths hN  eo15) (qn_m 295 (by decide) hN) (by decide) (by decide) rfl wk_8_59 wk_8_61 ws_X4_isMonths wk_1_9 wk_8_62 hd_X4_isMonths ⟨(Nat.le_of_ble_eq_true rfl), (Nat.le_of_ble_eq_true rfl)⟩ (Nat.le_of_ble_eq_true rfl) ⟨(Nat.le_of_ble_eq_true rfl), (Nat.le_of_ble_eq_true rfl)⟩ dX4_lease_26 rfl rfl ?_
        rcases ite_ex z14 with ⟨c17, z18⟩ | ⟨c17, z18⟩
        · refine gq_if_eq_t (tgt := 36) C dX4_lease_29 (by decide) c17 ?_
          refine gq_iconst (v := 0) C dX4_lease_36 (by decide) ?_
          cases z18
          exact gq_widen (Nat.le_of_ble_eq_true rfl) (Nat.le_of_ble_eq_true rfl) (gq_sub [0, 1, 2, 3, 4, 5, 6] rfl J37)
        · refine gq_if_eq_f (tgt := 36) C dX4_lease_29 (by decide) c17 ?_
          refine gq_iconst (v := 1) C dX4_lease_32 (by decide) ?_
          refine gq_goto (tgt := 37) C dX4_lease_33 (by decide) ?_
          cases z18
          exact gq_widen (Nat.le_of_ble_eq_true rfl) (Nat.le_of_ble_eq_true rfl) (gq_sub [0, 1, 2, 3, 4, 5, 6] rfl J37)
