abbrev rm_X4_leaseLine : Room := { frames := 5, cells := 0, slots := 0, locals := 108 }
def F_X4_leaseLine (p1 : Int32) (μ : Mm) : Option Mm :=
  (F_X4_isRoom (3 : Int32) (8 : Int32) p1 μ).bind fun o2 =>
  if o2.1 = 0 then
  (some o2.2)
  else
  ((some (uI o2.2 295 19 (1 : Int32))).bind fun m7 =>
  (aI m7 297 (3 : Int32)).bind fun x9 =>
  (F_X4_tradeFields ((158 : Int32) + ((6 : Int32) * x9)) (1 : Int32) m7).bind fun o12 =>
  (aI o12 297 (3 : Int32)).bind fun x14 =>
  (sI o12 297 (3 : Int32) (x14 + (1 : Int32))).bind fun m16 =>
  some m16)
set_option maxHeartbeats 4000000 in
set_option maxRecDepth 100000 in
theorem c_X4_leaseLine {l : Launch} {E : Ev} (hN : 311 ≤ eN E) {p1 : Int32} {μ : Mm} {μ' : Mm} (z0 : F_X4_leaseLine p1 μ = some μ') : Ct l E yX4_leaseLine (Cond.code yX4_leaseLine cX4_leaseLine 2 none :: GW) rm_X4_leaseLine [.ref (eB E + 295), .int p1] μ none μ' := by
  refine ct_of (by decide) (Nat.le_of_ble_eq_true rfl) (fun p e s m args below meth c C hr => ?_)
  have C : Cq E p s m args meth c cX4_leaseLine 2 RX4 := C
  refine gq_lv (lv' := [(0, .ref (eB E + 295)), (1, .int p1)]) rfl ?_
  unfold F_X4_leaseLine at z0
  refine gq_aload_n C dX4_leaseLine_0 rfl 0 rfl ?_
  refine gq_iconst (v := 3) C dX4_leaseLine_1 (by decide) ?_
  refine gq_bipush (v := 8) C dX4_leaseLine_2 (by decide) ?_
  refine gq_iload_n C dX4_leaseLine_4 rfl 1 rfl ?_
  obtain ⟨⟨x3, m4⟩, eo2, z1⟩ := bind_ex z0
  dsimp only at z1
  refine gq_V (As := [.int (3 : Int32), .int (8 : Int32), .int p1]) (rest := []) (j := 5) C (c_X4_isRoom hN  eo2) (qn_m 295 (by decide) hN) (by decide) (by decide) rfl wk_7_59 wk_7_61 ws_X4_isRoom wk_1_9 wk_7_62 hd_X4_isRoom ⟨(Nat.le_of_ble_eq_true rfl), (Nat.le_of_ble_eq_true rfl)⟩ (Nat.le_of_ble_eq_true rfl) ⟨(Nat.le_of_ble_eq_true rfl), (Nat.le_of_ble_eq_true rfl)⟩ dX4_leaseLine_5 rfl rfl ?_
  rcases ite_ex z1 with ⟨c5, z6⟩ | ⟨c5, z6⟩
  · refine gq_if_eq_t (tgt := 44) C dX4_leaseLine_8 (by decide) c5 ?_
    cases z6
    exact gq_vret C hr dX4_leaseLine_44 (Nat.le_of_ble_eq_true rfl) (Nat.le_of_ble_eq_true rfl)
  · refine gq_if_eq_f (tgt := 44) C dX4_leaseLine_8 (by decide) c5 ?_
    refine gq_aload_n C dX4_leaseLine_11 rfl 0 rfl ?_
    refine gq_iconst (v := 1) C dX4_leaseLine_12 (by decide) ?_
    obtain ⟨m7, em7, z8⟩ := bind_ex z6
    refine gq_put5_19 C (qn_m 295 (by decide) hN) (by decide) wk_6_181 rfl rfl (Option.some.inj em7).symm dX4_leaseLine_13 ?_
    refine gq_aload_n C dX4_leaseLine_16 rfl 0 rfl ?_
    refine gq_sipush (v := 158) C dX4_leaseLine_17 (by decide) ?_
    refine gq_bipush (v := 6) C dX4_leaseLine_20 (by decide) ?_
    refine gq_aload_n C dX4_leaseLine_22 rfl 0 rfl ?_
    refine gq_get5 C (qn_m 295 (by decide) hN) (by decide) 2 (by decide) wk_6_164 rfl dX4_leaseLine_23 ?_
    refine gq_iconst (v := 3) C dX4_leaseLine_26 (by decide) ?_
    obtain ⟨x9, ex9, z10⟩ := bind_ex z8
    refine gq_ialoadI C (qn_m 297 (by decide) hN) (by decide) ex9 dX4_leaseLine_27 ?_
    refine gq_imul C dX4_leaseLine_28 ?_
    refine gq_iadd C dX4_leaseLine_29 ?_
    refine gq_iconst (v := 1) C dX4_leaseLine_30 (by decide) ?_
    obtain ⟨m13, eo12, z11⟩ := bind_ex z10
    refine gq_V (As := [.int ((158 : Int32) + ((6 : Int32) * x9)), .int (1 : Int32)]) (rest := []) (j := 5) C (c_X4_tradeFields hN  eo12) (qn_m 295 (by decide) hN) (by decide) (by decide) rfl wk_7_110 wk_7_112 ws_X4_tradeFields wk_1_9 wk_7_113 hd_X4_tradeFields ⟨(Nat.le_of_ble_eq_true rfl), (Nat.le_of_ble_eq_true rfl)⟩ (Nat.le_of_ble_eq_true rfl) ⟨(Nat.le_of_ble_eq_true rfl), (Nat.le_of_ble_eq_true rfl)⟩ dX4_leaseLine_31 rfl rfl ?_
    refine gq_aload_n C dX4_leaseLine_34 rfl 0 rfl ?_
    refine gq_get5 C (qn_m 295 (by decide) hN) (by decide) 2 (by decide) wk_6_164 rfl dX4_leaseLine_35 ?_
    refine gq_iconst (v := 3) C dX4_leaseLine_38 (by decide) ?_
    refine gq_dup2 C dX4_leaseLine_39 ?_
    obtain ⟨x14, ex14, z15⟩ := bind_ex z11
    refine gq_ialoadI C (qn_m 297 (by decide) hN) (by decide) ex14 dX4_leaseLine_40 ?_
    refine gq_iconst (v := 1) C dX4_leaseLine_41 (by decide) ?_
    refine gq_iadd C dX4_leaseLine_42 ?_
    obtain ⟨m16, em16, z17⟩ := bind_ex z15
    refine gq_iastore C (qn_m 297 (by decide) hN) (by decide) em16 dX4_leaseLine_43 ?_
    cases z17
    exact gq_vret C hr dX4_leaseLine_44 (Nat.le_of_ble_eq_true rfl) (Nat.le_of_ble_eq_true rfl)
abbrev rm_X4_optionLine : Room := { frames := 5, cells := 0, slots := 0, locals := 108 }
def F_X4_optionLine (p1 : Int32) (μ : Mm) : Option Mm :=
  (F_X4_isRoom (4 : Int32) (6 : Int32) p1 μ).bind fun o2 =>
  if o2.1 = 0 then
  (some o2.2)
  else
  ((some (uI o2.2 295 19 (1 : Int32))).bind fun m7 =>
  (aI m7 297 (4 : Int32)).bind fun x9 =>
  (F_X4_tradeFields ((206 : Int32) + ((6 : Int32) * x9)) (0 : Int32) m7).bind fun o12 =>
  (aI o12 297 (4 : Int32)).bind fun x14 =>
  (sI o12 297 (4 : Int32) (x14 + (1 : Int32))).bind fun m16 =>
  some m16)
set_option maxHeartbeats 4000000 in
set_option maxRecDepth 100000 in
theorem c_X4_optionLine {l : Launch} {E : Ev} (hN : 311 ≤ eN E) {p1 : Int32} {μ : Mm} {μ' : Mm} (z0 : F_X4_optionLine p1 μ = some μ') : Ct l E yX4_optionLine (Cond.code yX4_optionLine cX4_optionLine 2 none :: GW) rm_X4_optionLine [.ref (eB E + 295), .int p1] μ none μ' := by
  refine ct_of (by decide) (Nat.le_of_ble_eq_true rfl) (fun p e s m args below meth c C hr => ?_)
  have C : Cq E p s m args meth c cX4_optionLine 2 RX4 := C
  refine gq_lv (lv' := [(0, .ref (eB E + 295)), (1, .int p1)]) rfl ?_
  unfold F_X4_optionLine at z0
  refine gq_aload_n C dX4_optionLine_0 rfl 0 rfl ?_
  refine gq_iconst (v := 4) C dX4_optionLine_1 (by decide) ?_
  refine gq_bipush (v := 6) C dX4_optionLine_2 (by decide) ?_
  refine gq_iload_n C dX4_optionLine_4 rfl 1 rfl ?_
  obtain ⟨⟨x3, m4⟩, eo2, z1⟩ := bind_ex z0
  dsimp only at z1
  refine gq_V (As := [.int (4 : Int32), .int (6 : Int32), .int p1]) (rest := []) (j := 5) C (c_X4_isRoom hN  eo2) (qn_m 295 (by decide) hN) (by decide) (by decide) rfl wk_7_59 wk_7_61 ws_X4_isRoom wk_1_9 wk_7_62 hd_X4_isRoom ⟨(Nat.le_of_ble_eq_true rfl), (Nat.le_of_ble_eq_true rfl)⟩ (Nat.le_of_ble_eq_true rfl) ⟨(Nat.le_of_ble_eq_true rfl), (Nat.le_of_ble_eq_true rfl)⟩ dX4_optionLine_5 rfl rfl ?_
  rcases ite_ex z1 with ⟨c5, z6⟩ | ⟨c5, z6⟩
  · refine gq_if_eq_t (tgt := 44) C dX4_optionLine_8 (by decide) c5 ?_
    cases z6
    exact gq_vret C hr dX4_optionLine_44 (Nat.le_of_ble_eq_true rfl) (Nat.le_of_ble_eq_true rfl)
  · refine gq_if_eq_f (tgt := 44) C dX4_optionLine_8 (by decide) c5 ?_
    refine gq_aload_n C dX4_optionLine_11 rfl 0 rfl ?_
    refine gq_iconst (v := 1) C dX4_optionLine_12 (by decide) ?_
    obtain ⟨m7, em7, z8⟩ := bind_ex z6
    refine gq_put5_19 C (qn_m 295 (by decide) hN) (by decide) wk_6_181 rfl rfl (Option.some.inj em7).symm dX4_optionLine_13 ?_
    refine gq_aload_n C dX4_optionLine_16 rfl 0 rfl ?_
    refine gq_sipush (v := 206) C dX4_optionLine_17 (by decide) ?_
    refine gq_bipush (v := 6) C dX4_optionLine_20 (by decide) ?_
    refine gq_aload_n C dX4_optionLine_22 rfl 0 rfl ?_
    refine gq_get5 C (qn_m 295 (by decide) hN) (by decide) 2 (by decide) wk_6_164 rfl dX4_optionLine_23 ?_
    refine gq_iconst (v := 4) C dX4_optionLine_26 (by decide) ?_
    obtain ⟨x9, ex9, z10⟩ := bind_ex z8
    refine gq_ialoadI C (qn_m 297 (by decide) hN) (by decide) ex9 dX4_optionLine_27 ?_
    refine gq_imul C dX4_optionLine_28 ?_
    refine gq_iadd C dX4_optionLine_29 ?_
    refine gq_iconst (v := 0) C dX4_optionLine_30 (by decide) ?_
    obtain ⟨m13, eo12, z11⟩ := bind_ex z10
    refine gq_V (As := [.int ((206 : Int32) + ((6 : Int32) * x9)), .int (0 : Int32)]) (rest := []) (j := 5) C (c_X4_tradeFields hN  eo12) (qn_m 295 (by decide) hN) (by decide) (by decide) rfl wk_7_110 wk_7_112 ws_X4_tradeFields wk_1_9 wk_7_113 hd_X4_tradeFields ⟨(Nat.le_of_ble_eq_true rfl), (Nat.le_of_ble_eq_true rfl)⟩ (Nat.le_of_ble_eq_true rfl) ⟨(Nat.le_of_ble_eq_true rfl), (Nat.le_of_ble_eq_true rfl)⟩ dX4_optionLine_31 rfl rfl ?_
    refine gq_aload_n C dX4_optionLine_34 rfl 0 rfl ?_
    refine gq_get5 C (qn_m 295 (by decide) hN) (by decide) 2 (by decide) wk_6_164 rfl dX4_optionLine_35 ?_
    refine gq_iconst (v := 4) C dX4_optionLine_38 (by decide) ?_
    refine gq_dup2 C dX4_optionLine_39 ?_
    obtain ⟨x14, ex14, z15⟩ := bind_ex z11
    refine gq_ialoadI C (qn_m 297 (by decide) hN) (by decide) ex14 dX4_optionLine_40 ?_
    refine gq_iconst (v := 1) C dX4_optionLine_41 (by decide) ?_
    refine gq_iadd C dX4_optionLine_42 ?_
    obtain ⟨m16, em16, z17⟩ := bind_ex z15
    refine gq_iastore C (qn_m 297 (by decide) hN) (by decide) em16 dX4_optionLine_43 ?_
    cases z17
    exact gq_vret C hr dX4_optionLine_44 (Nat.le_of_ble_eq_true rfl) (Nat.le_of_ble_eq_true rfl)
abbrev rm_X4_reachLine : Room := { frames := 3, cells := 0, slots := 0, locals := 64 }
def F_X4_reachLine (p1 : Int32) (μ : Mm) : Option Mm :=
  (F_X4_isRoom (0 : Int32) (6 : Int32) p1 μ).bind fun o2 =>
  if o2.1 = 0 then
  (some o2.2)
  else
  ((aI o2.2 297 (0 : Int32)).bind fun x7 =>
  (F_X4_number (0 : Int32) (999 : Int32) o2.2).bind fun o10 =>
  (sI o10.2 297 ((8 : Int32) + x7) o10.1).bind fun m13 =>
  (F_X4_number (0 : Int32) (999 : Int32) m13).bind fun o16 =>
  (sI o16.2 297 ((14 : Int32) + x7) o16.1).bind fun m19 =>
  (aI m19 297 (0 : Int32)).bind fun x21 =>
  (sI m19 297 (0 : Int32) (x21 + (1 : Int32))).bind fun m23 =>
  some m23)
set_option maxHeartbeats 4000000 in
set_option maxRecDepth 100000 in
theorem c_X4_reachLine {l : Launch} {E : Ev} (hN : 311 ≤ eN E) {p1 : Int32} {μ : Mm} {μ' : Mm} (z0 : F_X4_reachLine p1 μ = some μ') : Ct l E yX4_reachLine (Cond.code yX4_reachLine cX4_reachLine 3 none :: GW) rm_X4_reachLine [.ref (eB E + 295), .int p1] μ none μ' := by
  refine ct_of (by decide) (Nat.le_of_ble_eq_true rfl) (fun p e s m args below meth c C hr => ?_)
  have C : Cq E p s m args meth c cX4_reachLine 3 RX4 := C
  refine gq_lv (lv' := [(0, .ref (eB E + 295)), (1, .int p1)]) rfl ?_
  unfold F_X4_reachLine at z0
  refine gq_aload_n C dX4_reachLine_0 rfl 0 rfl ?_
  refine gq_iconst (v := 0) C dX4_reachLine_1 (by decide) ?_
  refine gq_bipush (v := 6) C dX4_reachLine_2 (by decide) ?_
  refine gq_iload_n C dX4_reachLine_4 rfl 1 rfl ?_
  obtain ⟨⟨x3, m4⟩, eo2, z1⟩ := bind_ex z0
  dsimp only at z1
  refine gq_V (As := [.int (0 : Int32), .int (6 : Int32), .int p1]) (rest := []) (j := 5) C (c_X4_isRoom hN  eo2) (qn_m 295 (by decide) hN) (by decide) (by decide) rfl wk_7_59 wk_7_61 ws_X4_isRoom wk_1_9 wk_7_62 hd_X4_isRoom ⟨(Nat.le_of_ble_eq_true rfl), (Nat.le_of_ble_eq_true rfl)⟩ (Nat.le_of_ble_eq_true rfl) ⟨(Nat.le_of_ble_eq_true rfl), (Nat.le_of_ble_eq_true rfl)⟩ dX4_reachLine_5 rfl rfl ?_
  rcases ite_ex z1 with ⟨c5, z6⟩ | ⟨c5, z6⟩
  · refine gq_if_eq_t (tgt := 62) C dX4_reachLine_8 (by decide) c5 ?_
    cases z6
    exact gq_vret C hr dX4_reachLine_62 (Nat.le_of_ble_eq_true rfl) (Nat.le_of_ble_eq_true rfl)
  · refine gq_if_eq_f (tgt := 62) C dX4_reachLine_8 (by decide) c5 ?_
    refine gq_aload_n C dX4_reachLine_11 rfl 0 rfl ?_
    refine gq_get5 C (qn_m 295 (by decide) hN) (by decide) 2 (by decide) wk_6_164 rfl dX4_reachLine_12 ?_
    refine gq_iconst (v := 0) C dX4_reachLine_15 (by decide) ?_
    obtain ⟨x7, ex7, z8⟩ := bind_ex z6
    refine gq_ialoadI C (qn_m 297 (by decide) hN) (by decide) ex7 dX4_reachLine_16 ?_
    refine gq_istore_n (lv' := [(2, .int x7), (0, .ref (eB E + 295)), (1, .int p1)]) C dX4_reachLine_17 rfl (by decide) rfl ?_
    refine gq_aload_n C dX4_reachLine_18 rfl 1 rfl ?_
    refine gq_get5 C (qn_m 295 (by decide) hN) (by decide) 2 (by decide) wk_6_164 rfl dX4_reachLine_19 ?_
    refine gq_bipush (v := 8) C dX4_reachLine_22 (by decide) ?_
    refine gq_iload_n C dX4_reachLine_24 rfl 0 rfl ?_
    refine gq_iadd C dX4_reachLine_25 ?_
    refine gq_aload_n C dX4_reachLine_26 rfl 1 rfl ?_
    refine gq_iconst (v := 0) C dX4_reachLine_27 (by decide) ?_
    refine gq_sipush (v := 999) C dX4_reachLine_28 (by decide) ?_
    obtain ⟨⟨x11, m12⟩, eo10, z9⟩ := bind_ex z8
    dsimp only at z9
    refine gq_V (As := [.int (0 : Int32), .int (999 : Int32)]) (rest := [.int ((8 : Int32) + x7), .ref (eB E + 297)]) (j := 5) C (c_X4_number hN  eo10) (qn_m 295 (by decide) hN) (by decide) (by decide) rfl wk_7_67 wk_7_69 ws_X4_number wk_1_9 wk_7_70 hd_X4_number ⟨(Nat.le_of_ble_eq_true rfl), (Nat.le_of_ble_eq_true rfl)⟩ (Nat.le_of_ble_eq_true rfl) ⟨(Nat.le_of_ble_eq_true rfl), (Nat.le_of_ble_eq_true rfl)⟩ dX4_reachLine_31 rfl rfl ?_
    obtain ⟨m13, em13, z14⟩ := bind_ex z9
    refine gq_iastore C (qn_m 297 (by decide) hN) (by decide) em13 dX4_reachLine_34 ?_
    refine gq_aload_n C dX4_reachLine_35 rfl 1 rfl ?_
    refine gq_get5 C (qn_m 295 (by decide) hN) (by decide) 2 (by decide) wk_6_164 rfl dX4_reachLine_36 ?_
    refine gq_bipush (v := 14) C dX4_reachLine_39 (by decide) ?_
    refine gq_iload_n C dX4_reachLine_41 rfl 0 rfl ?_
    refine gq_iadd C dX4_reachLine_42 ?_
    refine gq_aload_n C dX4_reachLine_43 rfl 1 rfl ?_
    refine gq_iconst (v := 0) C dX4_reachLine_44 (by decide) ?_
    refine gq_sipush (v := 999) C dX4_reachLine_45 (by decide) ?_
    obtain ⟨⟨x17, m18⟩, eo16, z15⟩ := bind_ex z14
    dsimp only at z15
    refine gq_V (As := [.int (0 : Int32), .int (999 : Int32)]) (rest := [.int ((14 : Int32) + x7), .ref (eB E + 297)]) (j := 5) C (c_X4_number hN  eo16) (qn_m 295 (by decide) hN) (by decide) (by decide) rfl wk_7_67 wk_7_69 ws_X4_number wk_1_9 wk_7_70 hd_X4_number ⟨(Nat.le_of_ble_eq_true rfl), (Nat.le_of_ble_eq_true rfl)⟩ (Nat.le_of_ble_eq_true rfl) ⟨(Nat.le_of_ble_eq_true rfl), (Nat.le_of_ble_eq_true rfl)⟩ dX4_reachLine_48 rfl rfl ?_
    obtain ⟨m19, em19, z20⟩ := bind_ex z15
    refine gq_iastore C (qn_m 297 (by decide) hN) (by decide) em19 dX4_reachLine_51 ?_
    refine gq_aload_n C dX4_reachLine_52 rfl 1 rfl ?_
    refine gq_get5 C (qn_m 295 (by decide) hN) (by decide) 2 (by decide) wk_6_164 rfl dX4_reachLine_53 ?_
    refine gq_iconst (v := 0) C dX4_reachLine_56 (by decide) ?_
    refine gq_dup2 C dX4_reachLine_57 ?_
    obtain ⟨x21, ex21, z22⟩ := bind_ex z20
    refine gq_ialoadI C (qn_m 297 (by decide) hN) (by decide) ex21 dX4_reachLine_58 ?_
    refine gq_iconst (v := 1) C dX4_reachLine_59 (by decide) ?_
    refine gq_iadd C dX4_reachLine_60 ?_
    obtain ⟨m23, em23, z24⟩ := bind_ex z22
    refine gq_iastore C (qn_m 297 (by decide) hN) (by decide) em23 dX4_reachLine_61 ?_
    cases z24
    exact gq_vret C hr dX4_reachLine_62 (Nat.le_of_ble_eq_true rfl) (Nat.le_of_ble_eq_true rfl)
abbrev rm_X4_line : Room := { frames := 8, cells := 0, slots := 0, locals := 255 }
def F_X4_line  (μ : Mm) : Option Mm :=
  (F_X4_peek  μ).bind fun o2 =>
  (F_X4_accept 0 o2.2).bind fun o6 =>
  if o6.1 = 0 then
  ((F_X4_accept 1 o6.2).bind fun o12 =>
  if o12.1 = 0 then
  ((F_X4_accept 2 o12.2).bind fun o18 =>
  if o18.1 = 0 then
  ((F_X4_accept 3 o18.2).bind fun o24 =>
  if o24.1 = 0 then
  (if (o24.2.1 295 19) = 0 then
  ((F_X4_accept 4 o24.2).bind fun o32 =>
  if o32.1 = 0 then
  ((F_X4_accept 5 o32.2).bind fun o38 =>
  if o38.1 = 0 then
  ((F_X4_accept 8 o38.2).bind fun o44 =>
  if o44.1 = 0 then
  ((F_X4_accept 9 o44.2).bind fun o50 =>
  if o50.1 = 0 then
  ((F_X4_fail (1 : Int32) (o2.2.1 295 15) o50.2).bind fun o56 =>
  some o56)
  else
  ((F_X4_optionLine (o2.2.1 295 15) o50.2).bind fun o59 =>
  some o59))
  else
  ((F_X4_leaseLine (o2.2.1 295 15) o44.2).bind fun o62 =>
  some o62))
  else
  ((F_X4_rightLine (o2.2.1 295 15) o38.2).bind fun o65 =>
  some o65))
  else
  ((F_X4_number (1 : Int32) (5 : Int32) o32.2).bind fun o68 =>
  (sI o68.2 297 (1 : Int32) o68.1).bind fun m71 =>
  some m71))
  else
  ((F_X4_accept 5 o24.2).bind fun o74 =>
  if o74.1 = 0 then
  ((F_X4_accept 8 o74.2).bind fun o80 =>
  if o80.1 = 0 then
  ((F_X4_accept 9 o80.2).bind fun o86 =>
  if o86.1 = 0 then
  ((F_X4_fail (1 : Int32) (o2.2.1 295 15) o86.2).bind fun o92 =>
  some o92)
  else
  ((F_X4_optionLine (o2.2.1 295 15) o86.2).bind fun o95 =>
  some o95))
  else
  ((F_X4_leaseLine (o2.2.1 295 15) o80.2).bind fun o98 =>
  some o98))
  else
  ((F_X4_rightLine (o2.2.1 295 15) o74.2).bind fun o101 =>
  some o101)))
  else
  ((F_X4_number (0 : Int32) (50 : Int32) o24.2).bind fun o104 =>
  (sI o104.2 297 (6 : Int32) o104.1).bind fun m107 =>
  some m107))
  else
  ((F_X4_numbers (48 : Int32) (5 : Int32) o18.2).bind fun o110 =>
  (sI o110.2 297 (7 : Int32) o110.1).bind fun m113 =>
  some m113))
  else
  ((F_X4_numbers (36 : Int32) (12 : Int32) o12.2).bind fun o116 =>
  some o116.2))
  else
  ((F_X4_reachLine (o2.2.1 295 15) o6.2).bind fun o120 =>
  some o120)
set_option maxHeartbeats 4000000 in
set_option maxRecDepth 100000 in
theorem c_X4_line {l : Launch} {E : Ev} (hN : 311 ≤ eN E) {μ : Mm} {μ' : Mm} (z0 : F_X4_line  μ = some μ') : Ct l E yX4_line (Cond.code yX4_line cX4_line 3 none :: GW) rm_X4_line [.ref (eB E + 295)] μ none μ' := by
  refine ct_of (by decide) (Nat.le_of_ble_eq_true rfl) (fun p e s m args below meth c C hr => ?_)
  have C : Cq E p s m args meth c cX4_line 3 RX4 := C
  refine gq_lv (lv' := [(0, .ref (eB E + 295))]) rfl ?_
  unfold F_X4_line at z0
  refine gq_aload_n C dX4_line_0 rfl 0 rfl ?_
  obtain ⟨⟨x3, m4⟩, eo2, z1⟩ := bind_ex z0
  dsimp only at z1
  refine gq_V (As := []) (rest := []) (j := 5) C (c_X4_peek hN  eo2) (qn_m 295 (by decide) hN) (by decide) (by decide) rfl wk_7_33 wk_7_35 ws_X4_peek wk_1_9 wk_7_36 hd_X4_peek ⟨(Nat.le_of_ble_eq_true rfl), (Nat.le_of_ble_eq_true rfl)⟩ (Nat.le_of_ble_eq_true rfl) ⟨(Nat.le_of_ble_eq_true rfl), (Nat.le_of_ble_eq_true rfl)⟩ dX4_line_1 rfl rfl ?_
  refine gq_popi C dX4_line_4 ?_
  refine gq_aload_n C dX4_line_5 rfl 0 rfl ?_
  refine gq_get5 C (qn_m 295 (by decide) hN) (by decide) 15 (by decide) wk_6_177 rfl dX4_line_6 ?_
  refine gq_istore_n (lv' := [(1, .int (m4.1 295 15)), (0, .ref (eB E + 295))]) C dX4_line_9 rfl (by decide) rfl ?_
  refine gq_aload_n C dX4_line_10 rfl 1 rfl ?_
  refine gq_ldcS (j := 0) (tx := "reach") C (by decide +kernel) dX4_line_11 ?_
  obtain ⟨⟨x7, m8⟩, eo6, z5⟩ := bind_ex z1
  dsimp only at z5
  refine gq_V (As := [.ref (eK E 0)]) (rest := []) (j := 5) C (c_X4_accept hN (by decide) eo6) (qn_m 295 (by decide) hN) (by decide) (by decide) rfl wk_7_46 wk_7_48 ws_X4_accept wk_1_9 wk_7_49 hd_X4_accept ⟨(Nat.le_of_ble_eq_true rfl), (Nat.le_of_ble_eq_true rfl)⟩ (Nat.le_of_ble_eq_true rfl) ⟨(Nat.le_of_ble_eq_true rfl), (Nat.le_of_ble_eq_true rfl)⟩ dX4_line_13 rfl rfl ?_
  rcases ite_ex z5 with ⟨c9, z10⟩ | ⟨c9, z10⟩
  · refine gq_if_eq_t (tgt := 27) C dX4_line_16 (by decide) c9 ?_
    refine gq_aload_n C dX4_line_27 rfl 1 rfl ?_
    refine gq_ldcS (j := 1) (tx := "season") C (by decide +kernel) dX4_line_28 ?_
    obtain ⟨⟨x13, m14⟩, eo12, z11⟩ := bind_ex z10
    dsimp only at z11
    refine gq_V (As := [.ref (eK E 1)]) (rest := []) (j := 5) C (c_X4_accept hN (by decide) eo12) (qn_m 295 (by decide) hN) (by decide) (by decide) rfl wk_7_46 wk_7_48 ws_X4_accept wk_1_9 wk_7_49 hd_X4_accept ⟨(Nat.le_of_ble_eq_true rfl), (Nat.le_of_ble_eq_true rfl)⟩ (Nat.le_of_ble_eq_true rfl) ⟨(Nat.le_of_ble_eq_true rfl), (Nat.le_of_ble_eq_true rfl)⟩ dX4_line_30 rfl rfl ?_
    rcases ite_ex z11 with ⟨c15, z16⟩ | ⟨c15, z16⟩
    · refine gq_if_eq_t (tgt := 48) C dX4_line_33 (by decide) c15 ?_
      refine gq_aload_n C dX4_line_48 rfl 1 rfl ?_
      refine gq_ldcS (j := 2) (tx := "years") C (by decide +kernel) dX4_line_49 ?_
      obtain ⟨⟨x19, m20⟩, eo18, z17⟩ := bind_ex z16
      dsimp only at z17
      refine gq_V (As := [.ref (eK E 2)]) (rest := []) (j := 5) C (c_X4_accept hN (by decide) eo18) (qn_m 295 (by decide) hN) (by decide) (by decide) rfl wk_7_46 wk_7_48 ws_X4_accept wk_1_9 wk_7_49 hd_X4_accept ⟨(Nat.le_of_ble_eq_true rfl), (Nat.le_of_ble_eq_true rfl)⟩ (Nat.le_of_ble_eq_true rfl) ⟨(Nat.le_of_ble_eq_true rfl), (Nat.le_of_ble_eq_true rfl)⟩ dX4_line_51 rfl rfl ?_
      rcases ite_ex z17 with ⟨c21, z22⟩ | ⟨c21, z22⟩
      · refine gq_if_eq_t (tgt := 74) C dX4_line_54 (by decide) c21 ?_
        refine gq_aload_n C dX4_line_74 rfl 1 rfl ?_
        refine gq_ldcS (j := 3) (tx := "loss") C (by decide +kernel) dX4_line_75 ?_
        obtain ⟨⟨x25, m26⟩, eo24, z23⟩ := bind_ex z22
        dsimp only at z23
        refine gq_V (As := [.ref (eK E 3)]) (rest := []) (j := 5) C (c_X4_accept hN (by decide) eo24) (qn_m 295 (by decide) hN) (by decide) (by decide) rfl wk_7_46 wk_7_48 ws_X4_accept wk_1_9 wk_7_49 hd_X4_accept ⟨(Nat.le_of_ble_eq_true rfl), (Nat.le_of_ble_eq_true rfl)⟩ (Nat.le_of_ble_eq_true rfl) ⟨(Nat.le_of_ble_eq_true rfl), (Nat.le_of_ble_eq_true rfl)⟩ dX4_line_77 rfl rfl ?_
        rcases ite_ex z23 with ⟨c27, z28⟩ | ⟨c27, z28⟩
        · refine gq_if_eq_t (tgt := 100) C dX4_line_80 (by decide) c27 ?_
          refine gq_aload_n C dX4_line_100 rfl 1 rfl ?_
          refine gq_get5 C (qn_m 295 (by decide) hN) (by decide) 19 (by decide) wk_6_181 rfl dX4_line_101 ?_
          rcases ite_ex z28 with ⟨c29, z30⟩ | ⟨c29, z30⟩
          · refine gq_if_ne_f (tgt := 131) C dX4_line_104 (by decide) c29 ?_
            refine gq_aload_n C dX4_line_107 rfl 1 rfl ?_
            refine gq_ldcS (j := 4) (tx := "accounts") C (by decide +kernel) dX4_line_108 ?_
            obtain ⟨⟨x33, m34⟩, eo32, z31⟩ := bind_ex z30
            dsimp only at z31
            refine gq_V (As := [.ref (eK E 4)]) (rest := []) (j := 5) C (c_X4_accept hN (by decide) eo32) (qn_m 295 (by decide) hN) (by decide) (by decide) rfl wk_7_46 wk_7_48 ws_X4_accept wk_1_9 wk_7_49 hd_X4_accept ⟨(Nat.le_of_ble_eq_true rfl), (Nat.le_of_ble_eq_true rfl)⟩ (Nat.le_of_ble_eq_true rfl) ⟨(Nat.le_of_ble_eq_true rfl), (Nat.le_of_ble_eq_true rfl)⟩ dX4_line_110 rfl rfl ?_
            rcases ite_ex z31 with ⟨c35, z36⟩ | ⟨c35, z36⟩
            · refine gq_if_eq_t (tgt := 131) C dX4_line_113 (by decide) c35 ?_
              refine gq_aload_n C dX4_line_131 rfl 1 rfl ?_
              refine gq_ldcS (j := 5) (tx := "right") C (by decide +kernel) dX4_line_132 ?_
              obtain ⟨⟨x39, m40⟩, eo38, z37⟩ := bind_ex z36
              dsimp only at z37
              refine gq_V (As := [.ref (eK E 5)]) (rest := []) (j := 5) C (c_X4_accept hN (by decide) eo38) (qn_m 295 (by decide) hN) (by decide) (by decide) rfl wk_7_46 wk_7_48 ws_X4_accept wk_1_9 wk_7_49 hd_X4_accept ⟨(Nat.le_of_ble_eq_true rfl), (Nat.le_of_ble_eq_true rfl)⟩ (Nat.le_of_ble_eq_true rfl) ⟨(Nat.le_of_ble_eq_true rfl), (Nat.le_of_ble_eq_true rfl)⟩ dX4_line_134 rfl rfl ?_
              rcases ite_ex z37 with ⟨c41, z42⟩ | ⟨c41, z42⟩
              · refine gq_if_eq_t (tgt := 148) C dX4_line_137 (by decide) c41 ?_
                refine gq_aload_n C dX4_line_148 rfl 1 rfl ?_
                refine gq_ldcS (j := 8) (tx := "lease") C (by decide +kernel) dX4_line_149 ?_
                obtain ⟨⟨x45, m46⟩, eo44, z43⟩ := bind_ex z42
                dsimp only at z43
                refine gq_V (As := [.ref (eK E 8)]) (rest := []) (j := 5) C (c_X4_accept hN (by decide) eo44) (qn_m 295 (by decide) hN) (by decide) (by decide) rfl wk_7_46 wk_7_48 ws_X4_accept wk_1_9 wk_7_49 hd_X4_accept ⟨(Nat.le_of_ble_eq_true rfl), (Nat.le_of_ble_eq_true rfl)⟩ (Nat.le_of_ble_eq_true rfl) ⟨(Nat.le_of_ble_eq_true rfl), (Nat.le_of_ble_eq_true rfl)⟩ dX4_line_151 rfl rfl ?_
                rcases ite_ex z43 with ⟨c47, z48⟩ | ⟨c47, z48⟩
                · refine gq_if_eq_t (tgt := 165) C dX4_line_154 (by decide) c47 ?_
                  refine gq_aload_n C dX4_line_165 rfl 1 rfl ?_
                  refine gq_ldcS (j := 9) (tx := "option") C (by decide +kernel) dX4_line_166 ?_
                  obtain ⟨⟨x51, m52⟩, eo50, z49⟩ := bind_ex z48
                  dsimp only at z49
                  refine gq_V (As := [.ref (eK E 9)]) (rest := []) (j := 5) C (c_X4_accept hN (by decide) eo50) (qn_m 295 (by decide) hN) (by decide) (by decide) rfl wk_7_46 wk_7_48 ws_X4_accept wk_1_9 wk_7_49 hd_X4_accept ⟨(Nat.le_of_ble_eq_true rfl), (Nat.le_of_ble_eq_true rfl)⟩ (Nat.le_of_ble_eq_true rfl) ⟨(Nat.le_of_ble_eq_true rfl), (Nat.le_of_ble_eq_true rfl)⟩ dX4_line_168 rfl rfl ?_
                  rcases ite_ex z49 with ⟨c53, z54⟩ | ⟨c53, z54⟩
                  · refine gq_if_eq_t (tgt := 182) C dX4_line_171 (by decide) c53 ?_
                    refine gq_aload_n C dX4_line_182 rfl 1 rfl ?_
                    refine gq_iconst (v := 1) C dX4_line_183 (by decide) ?_
                    refine gq_iload_n C dX4_line_184 rfl 0 rfl ?_
                    obtain ⟨m57, eo56, z55⟩ := bind_ex z54
                    refine gq_V (As := [.int (1 : Int32), .int (m4.1 295 15)]) (rest := []) (j := 5) C (c_X4_fail hN  eo56) (qn_m 295 (by decide) hN) (by decide) (by decide) rfl wk_7_63 wk_7_65 ws_X4_fail wk_1_9 wk_7_66 hd_X4_fail ⟨(Nat.le_of_ble_eq_true rfl), (Nat.le_of_ble_eq_true rfl)⟩ (Nat.le_of_ble_eq_true rfl) ⟨(Nat.le_of_ble_eq_true rfl), (Nat.le_of_ble_eq_true rfl)⟩ dX4_line_185 rfl rfl ?_
                    cases z55
                    exact gq_vret C hr dX4_line_188 (Nat.le_of_ble_eq_true rfl) (Nat.le_of_ble_eq_true rfl)
                  · refine gq_if_eq_f (tgt := 182) C dX4_line_171 (by decide) c53 ?_
                    refine gq_aload_n C dX4_line_174 rfl 1 rfl ?_
                    refine gq_iload_n C dX4_line_175 rfl 0 rfl ?_
                    obtain ⟨m60, eo59, z58⟩ := bind_ex z54
                    refine gq_V (As := [.int (m4.1 295 15)]) (rest := []) (j := 5) C (c_X4_optionLine hN  eo59) (qn_m 295 (by decide) hN) (by decide) (by decide) rfl wk_7_115 wk_7_117 ws_X4_optionLine wk_1_9 wk_7_118 hd_X4_optionLine ⟨(Nat.le_of_ble_eq_true rfl), (Nat.le_of_ble_eq_true rfl)⟩ (Nat.le_of_ble_eq_true rfl) ⟨(Nat.le_of_ble_eq_true rfl), (Nat.le_of_ble_eq_true rfl)⟩ dX4_line_176 rfl rfl ?_
                    refine gq_goto (tgt := 188) C dX4_line_179 (by decide) ?_
                    cases z58
                    exact gq_vret C hr dX4_line_188 (Nat.le_of_ble_eq_true rfl) (Nat.le_of_ble_eq_true rfl)
                · refine gq_if_eq_f (tgt := 165) C dX4_line_154 (by decide) c47 ?_
                  refine gq_aload_n C dX4_line_157 rfl 1 rfl ?_
                  refine gq_iload_n C dX4_line_158 rfl 0 rfl ?_
                  obtain ⟨m63, eo62, z61⟩ := bind_ex z48
                  refine gq_V (As := [.int (m4.1 295 15)]) (rest := []) (j := 5) C (c_X4_leaseLine hN  eo62) (qn_m 295 (by decide) hN) (by decide) (by decide) rfl wk_7_106 wk_7_108 ws_X4_leaseLine wk_1_9 wk_7_109 hd_X4_leaseLine ⟨(Nat.le_of_ble_eq_true rfl), (Nat.le_of_ble_eq_true rfl)⟩ (Nat.le_of_ble_eq_true rfl) ⟨(Nat.le_of_ble_eq_true rfl), (Nat.le_of_ble_eq_true rfl)⟩ dX4_line_159 rfl rfl ?_
                  refine gq_goto (tgt := 188) C dX4_line_162 (by decide) ?_
                  cases z61
                  exact gq_vret C hr dX4_line_188 (Nat.le_of_ble_eq_true rfl) (Nat.le_of_ble_eq_true rfl)
              · refine gq_if_eq_f (tgt := 148) C dX4_line_137 (by decide) c41 ?_
                refine gq_aload_n C dX4_line_140 rfl 1 rfl ?_
                refine gq_iload_n C dX4_line_141 rfl 0 rfl ?_
                obtain ⟨m66, eo65, z64⟩ := bind_ex z42
                refine gq_V (As := [.int (m4.1 295 15)]) (rest := []) (j := 5) C (c_X4_rightLine hN  eo65) (qn_m 295 (by decide) hN) (by decide) (by decide) rfl wk_7_84 wk_7_86 ws_X4_rightLine wk_1_9 wk_7_87 hd_X4_rightLine ⟨(Nat.le_of_ble_eq_true rfl), (Nat.le_of_ble_eq_true rfl)⟩ (Nat.le_of_ble_eq_true rfl) ⟨(Nat.le_of_ble_eq_true rfl), (Nat.le_of_ble_eq_true rfl)⟩ dX4_line_142 rfl rfl ?_
                refine gq_goto (tgt := 188) C dX4_line_145 (by decide) ?_
                cases z64
                exact gq_vret C hr dX4_line_188 (Nat.le_of_ble_eq_true rfl) (Nat.le_of_ble_eq_true rfl)
            · refine gq_if_eq_f (tgt := 131) C dX4_line_113 (by decide) c35 ?_
              refine gq_aload_n C dX4_line_116 rfl 1 rfl ?_
              refine gq_get5 C (qn_m 295 (by decide) hN) (by decide) 2 (by decide) wk_6_164 rfl dX4_line_117 ?_
              refine gq_iconst (v := 1) C dX4_line_120 (by decide) ?_
              refine gq_aload_n C dX4_line_121 rfl 1 rfl ?_
              refine gq_iconst (v := 1) C dX4_line_122 (by decide) ?_
              refine gq_iconst (v := 5) C dX4_line_123 (by decide) ?_
              obtain ⟨⟨x69, m70⟩, eo68, z67⟩ := bind_ex z36
              dsimp only at z67
              refine gq_V (As := [.int (1 : Int32), .int (5 : Int32)]) (rest := [.int (1 : Int32), .ref (eB E + 297)]) (j := 5) C (c_X4_number hN  eo68) (qn_m 295 (by decide) hN) (by decide) (by decide) rfl wk_7_67 wk_7_69 ws_X4_number wk_1_9 wk_7_70 hd_X4_number ⟨(Nat.le_of_ble_eq_true rfl), (Nat.le_of_ble_eq_true rfl)⟩ (Nat.le_of_ble_eq_true rfl) ⟨(Nat.le_of_ble_eq_true rfl), (Nat.le_of_ble_eq_true rfl)⟩ dX4_line_124 rfl rfl ?_
              obtain ⟨m71, em71, z72⟩ := bind_ex z67
              refine gq_iastore C (qn_m 297 (by decide) hN) (by decide) em71 dX4_line_127 ?_
              refine gq_goto (tgt := 188) C dX4_line_128 (by decide) ?_
              cases z72
              exact gq_vret C hr dX4_line_188 (Nat.le_of_ble_eq_true rfl) (Nat.le_of_ble_eq_true rfl)
          · refine gq_if_ne_t (tgt := 131) C dX4_line_104 (by decide) c29 ?_
            refine gq_aload_n C dX4_line_131 rfl 1 rfl ?_
            refine gq_ldcS (j := 5) (tx := "right") C (by decide +kernel) dX4_line_132 ?_
            obtain ⟨⟨x75, m76⟩, eo74, z73⟩ := bind_ex z30
            dsimp only at z73
            refine gq_V (As := [.ref (eK E 5)]) (rest := []) (j := 5) C (c_X4_accept hN (by decide) eo74) (qn_m 295 (by decide) hN) (by decide) (by decide) rfl wk_7_46 wk_7_48 ws_X4_accept wk_1_9 wk_7_49 hd_X4_accept ⟨(Nat.le_of_ble_eq_true rfl), (Nat.le_of_ble_eq_true rfl)⟩ (Nat.le_of_ble_eq_true rfl) ⟨(Nat.le_of_ble_eq_true rfl), (Nat.le_of_ble_eq_true rfl)⟩ dX4_line_134 rfl rfl ?_
            rcases ite_ex z73 with ⟨c77, z78⟩ | ⟨c77, z78⟩
            · refine gq_if_eq_t (tgt := 148) C dX4_line_137 (by decide) c77 ?_
              refine gq_aload_n C dX4_line_148 rfl 1 rfl ?_
              refine gq_ldcS (j := 8) (tx := "lease") C (by decide +kernel) dX4_line_149 ?_
              obtain ⟨⟨x81, m82⟩, eo80, z79⟩ := bind_ex z78
              dsimp only at z79
              refine gq_V (As := [.ref (eK E 8)]) (rest := []) (j := 5) C (c_X4_accept hN (by decide) eo80) (qn_m 295 (by decide) hN) (by decide) (by decide) rfl wk_7_46 wk_7_48 ws_X4_accept wk_1_9 wk_7_49 hd_X4_accept ⟨(Nat.le_of_ble_eq_true rfl), (Nat.le_of_ble_eq_true rfl)⟩ (Nat.le_of_ble_eq_true rfl) ⟨(Nat.le_of_ble_eq_true rfl), (Nat.le_of_ble_eq_true rfl)⟩ dX4_line_151 rfl rfl ?_
              rcases ite_ex z79 with ⟨c83, z84⟩ | ⟨c83, z84⟩
              · refine gq_if_eq_t (tgt := 165) C dX4_line_154 (by decide) c83 ?_
                refine gq_aload_n C dX4_line_165 rfl 1 rfl ?_
                refine gq_ldcS (j := 9) (tx := "option") C (by decide +kernel) dX4_line_166 ?_
                obtain ⟨⟨x87, m88⟩, eo86, z85⟩ := bind_ex z84
                dsimp only at z85
                refine gq_V (As := [.ref (eK E 9)]) (rest := []) (j := 5) C (c_X4_accept hN (by decide) eo86) (qn_m 295 (by decide) hN) (by decide) (by decide) rfl wk_7_46 wk_7_48 ws_X4_accept wk_1_9 wk_7_49 hd_X4_accept ⟨(Nat.le_of_ble_eq_true rfl), (Nat.le_of_ble_eq_true rfl)⟩ (Nat.le_of_ble_eq_true rfl) ⟨(Nat.le_of_ble_eq_true rfl), (Nat.le_of_ble_eq_true rfl)⟩ dX4_line_168 rfl rfl ?_
                rcases ite_ex z85 with ⟨c89, z90⟩ | ⟨c89, z90⟩
                · refine gq_if_eq_t (tgt := 182) C dX4_line_171 (by decide) c89 ?_
                  refine gq_aload_n C dX4_line_182 rfl 1 rfl ?_
                  refine gq_iconst (v := 1) C dX4_line_183 (by decide) ?_
                  refine gq_iload_n C dX4_line_184 rfl 0 rfl ?_
                  obtain ⟨m93, eo92, z91⟩ := bind_ex z90
                  refine gq_V (As := [.int (1 : Int32), .int (m4.1 295 15)]) (rest := []) (j := 5) C (c_X4_fail hN  eo92) (qn_m 295 (by decide) hN) (by decide) (by decide) rfl wk_7_63 wk_7_65 ws_X4_fail wk_1_9 wk_7_66 hd_X4_fail ⟨(Nat.le_of_ble_eq_true rfl), (Nat.le_of_ble_eq_true rfl)⟩ (Nat.le_of_ble_eq_true rfl) ⟨(Nat.le_of_ble_eq_true rfl), (Nat.le_of_ble_eq_true rfl)⟩ dX4_line_185 rfl rfl ?_
                  cases z91
                  exact gq_vret C hr dX4_line_188 (Nat.le_of_ble_eq_true rfl) (Nat.le_of_ble_eq_true rfl)
                · refine gq_if_eq_f (tgt := 182) C dX4_line_171 (by decide) c89 ?_
                  refine gq_aload_n C dX4_line_174 rfl 1 rfl ?_
                  refine gq_iload_n C dX4_line_175 rfl 0 rfl ?_
                  obtain ⟨m96, eo95, z94⟩ := bind_ex z90
                  refine gq_V (As := [.int (m4.1 295 15)]) (rest := []) (j := 5) C (c_X4_optionLine hN  eo95) (qn_m 295 (by decide) hN) (by decide) (by decide) rfl wk_7_115 wk_7_117 ws_X4_optionLine wk_1_9 wk_7_118 hd_X4_optionLine ⟨(Nat.le_of_ble_eq_true rfl), (Nat.le_of_ble_eq_true rfl)⟩ (Nat.le_of_ble_eq_true rfl) ⟨(Nat.le_of_ble_eq_true rfl), (Nat.le_of_ble_eq_true rfl)⟩ dX4_line_176 rfl rfl ?_
                  refine gq_goto (tgt := 188) C dX4_line_179 (by decide) ?_
                  cases z94
                  exact gq_vret C hr dX4_line_188 (Nat.le_of_ble_eq_true rfl) (Nat.le_of_ble_eq_true rfl)
              · refine gq_if_eq_f (tgt := 165) C dX4_line_154 (by decide) c83 ?_
                refine gq_aload_n C dX4_line_157 rfl 1 rfl ?_
                refine gq_iload_n C dX4_line_158 rfl 0 rfl ?_
                obtain ⟨m99, eo98, z97⟩ := bind_ex z84
                refine gq_V (As := [.int (m4.1 295 15)]) (rest := []) (j := 5) C (c_X4_leaseLine hN  eo98) (qn_m 295 (by decide) hN) (by decide) (by decide) rfl wk_7_106 wk_7_108 ws_X4_leaseLine wk_1_9 wk_7_109 hd_X4_leaseLine ⟨(Nat.le_of_ble_eq_true rfl), (Nat.le_of_ble_eq_true rfl)⟩ (Nat.le_of_ble_eq_true rfl) ⟨(Nat.le_of_ble_eq_true rfl), (Nat.le_of_ble_eq_true rfl)⟩ dX4_line_159 rfl rfl ?_
                refine gq_goto (tgt := 188) C dX4_line_162 (by decide) ?_
                cases z97
                exact gq_vret C hr dX4_line_188 (Nat.le_of_ble_eq_true rfl) (Nat.le_of_ble_eq_true rfl)
            · refine gq_if_eq_f (tgt := 148) C dX4_line_137 (by decide) c77 ?_
              refine gq_aload_n C dX4_line_140 rfl 1 rfl ?_
              refine gq_iload_n C dX4_line_141 rfl 0 rfl ?_
              obtain ⟨m102, eo101, z100⟩ := bind_ex z78
              refine gq_V (As := [.int (m4.1 295 15)]) (rest := []) (j := 5) C (c_X4_rightLine hN  eo101) (qn_m 295 (by decide) hN) (by decide) (by decide) rfl wk_7_84 wk_7_86 ws_X4_rightLine wk_1_9 wk_7_87 hd_X4_rightLine ⟨(Nat.le_of_ble_eq_true rfl), (Nat.le_of_ble_eq_true rfl)⟩ (Nat.le_of_ble_eq_true rfl) ⟨(Nat.le_of_ble_eq_true rfl), (Nat.le_of_ble_eq_true rfl)⟩ dX4_line_142 rfl rfl ?_
              refine gq_goto (tgt := 188) C dX4_line_145 (by decide) ?_
              cases z100
              exact gq_vret C hr dX4_line_188 (Nat.le_of_ble_eq_true rfl) (Nat.le_of_ble_eq_true rfl)
        · refine gq_if_eq_f (tgt := 100) C dX4_line_80 (by decide) c27 ?_
          refine gq_aload_n C dX4_line_83 rfl 1 rfl ?_
          refine gq_get5 C (qn_m 295 (by decide) hN) (by decide) 2 (by decide) wk_6_164 rfl dX4_line_84 ?_
          refine gq_bipush (v := 6) C dX4_line_87 (by decide) ?_
          refine gq_aload_n C dX4_line_89 rfl 1 rfl ?_
          refine gq_iconst (v := 0) C dX4_line_90 (by decide) ?_
          refine gq_bipush (v := 50) C dX4_line_91 (by decide) ?_
          obtain ⟨⟨x105, m106⟩, eo104, z103⟩ := bind_ex z28
          dsimp only at z103
          refine gq_V (As := [.int (0 : Int32), .int (50 : Int32)]) (rest := [.int (6 : Int32), .ref (eB E + 297)]) (j := 5) C (c_X4_number hN  eo104) (qn_m 295 (by decide) hN) (by decide) (by decide) rfl wk_7_67 wk_7_69 ws_X4_number wk_1_9 wk_7_70 hd_X4_number ⟨(Nat.le_of_ble_eq_true rfl), (Nat.le_of_ble_eq_true rfl)⟩ (Nat.le_of_ble_eq_true rfl) ⟨(Nat.le_of_ble_eq_true rfl), (Nat.le_of_ble_eq_true rfl)⟩ dX4_line_93 rfl rfl ?_
          obtain ⟨m107, em107, z108⟩ := bind_ex z103
          refine gq_iastore C (qn_m 297 (by decide) hN) (by decide) em107 dX4_line_96 ?_
          refine gq_goto (tgt := 188) C dX4_line_97 (by decide) ?_
          cases z108
          exact gq_vret C hr dX4_line_188 (Nat.le_of_ble_eq_true rfl) (Nat.le_of_ble_eq_true rfl)
      · refine gq_if_eq_f (tgt := 74) C dX4_line_54 (by decide) c21 ?_
        refine gq_aload_n C dX4_line_57 rfl 1 rfl ?_
        refine gq_get5 C (qn_m 295 (by decide) hN) (by decide) 2 (by decide) wk_6_164 rfl dX4_line_58 ?_
        refine gq_bipush (v := 7) C dX4_line_61 (by decide) ?_
        refine gq_aload_n C dX4_line_63 rfl 1 rfl ?_
        refine gq_bipush (v := 48) C dX4_line_64 (by decide) ?_
        refine gq_iconst (v := 5) C dX4_line_66 (by decide) ?_
        obtain ⟨⟨x111, m112⟩, eo110, z109⟩ := bind_ex z22
        dsimp only at z109
        refine gq_V (As := [.int (48 : Int32), .int (5 : Int32)]) (rest := [.int (7 : Int32), .ref (eB E + 297)]) (j := 5) C (c_X4_numbers hN  eo110) (qn_m 295 (by decide) hN) (by decide) (by decide) rfl wk_7_72 wk_7_74 ws_X4_numbers wk_1_9 wk_7_75 hd_X4_numbers ⟨(Nat.le_of_ble_eq_true rfl), (Nat.le_of_ble_eq_true rfl)⟩ (Nat.le_of_ble_eq_true rfl) ⟨(Nat.le_of_ble_eq_true rfl), (Nat.le_of_ble_eq_true rfl)⟩ dX4_line_67 rfl rfl ?_
        obtain ⟨m113, em113, z114⟩ := bind_ex z109
        refine gq_iastore C (qn_m 297 (by decide) hN) (by decide) em113 dX4_line_70 ?_
        refine gq_goto (tgt := 188) C dX4_line_71 (by decide) ?_
        cases z114
        exact gq_vret C hr dX4_line_188 (Nat.le_of_ble_eq_true rfl) (Nat.le_of_ble_eq_true rfl)
    · refine gq_if_eq_f (tgt := 48) C dX4_line_33 (by decide) c15 ?_
      refine gq_aload_n C dX4_line_36 rfl 1 rfl ?_
      refine gq_bipush (v := 36) C dX4_line_37 (by decide) ?_
      refine gq_bipush (v := 12) C dX4_line_39 (by decide) ?_
      obtain ⟨⟨x117, m118⟩, eo116, z115⟩ := bind_ex z16
      dsimp only at z115
      refine gq_V (As := [.int (36 : Int32), .int (12 : Int32)]) (rest := []) (j := 5) C (c_X4_numbers hN  eo116) (qn_m 295 (by decide) hN) (by decide) (by decide) rfl wk_7_72 wk_7_74 ws_X4_numbers wk_1_9 wk_7_75 hd_X4_numbers ⟨(Nat.le_of_ble_eq_true rfl), (Nat.le_of_ble_eq_true rfl)⟩ (Nat.le_of_ble_eq_true rfl) ⟨(Nat.le_of_ble_eq_true rfl), (Nat.le_of_ble_eq_true rfl)⟩ dX4_line_41 rfl rfl ?_
      refine gq_istore_n (lv' := [(2, .int x117), (1, .int (m4.1 295 15)), (0, .ref (eB E + 295))]) C dX4_line_44 rfl (by decide) rfl ?_
      refine gq_goto (tgt := 188) C dX4_line_45 (by decide) ?_
      cases z115
      exact gq_vret C hr dX4_line_188 (Nat.le_of_ble_eq_true rfl) (Nat.le_of_ble_eq_true rfl)
  · refine gq_if_eq_f (tgt := 27) C dX4_line_16 (by decide) c9 ?_
    refine gq_aload_n C dX4_line_19 rfl 1 rfl ?_
    refine gq_iload_n C dX4_line_20 rfl 0 rfl ?_
    obtain ⟨m121, eo120, z119⟩ := bind_ex z10
    refine gq_V (As := [.int (m4.1 295 15)]) (rest := []) (j := 5) C (c_X4_reachLine hN  eo120) (qn_m 295 (by decide) hN) (by decide) (by decide) rfl wk_7_55 wk_7_57 ws_X4_reachLine wk_1_9 wk_7_58 hd_X4_reachLine ⟨(Nat.le_of_ble_eq_true rfl), (Nat.le_of_ble_eq_true rfl)⟩ (Nat.le_of_ble_eq_true rfl) ⟨(Nat.le_of_ble_eq_true rfl), (Nat.le_of_ble_eq_true rfl)⟩ dX4_line_21 rfl rfl ?_
    refine gq_goto (tgt := 188) C dX4_line_24 (by decide) ?_
    cases z119
    exact gq_vret C hr dX4_line_188 (Nat.le_of_ble_eq_true rfl) (Nat.le_of_ble_eq_true rfl)
abbrev rm_X4_begins : Room := { frames := 0, cells := 0, slots := 0, locals := 0 }
def F_X4_begins_2  : Nat → Int32 → Mm → Option Mm
  | 0, _, _ => none
  | n + 1, v1, μ =>
  if (521 : Int32) ≤ v1 then
  (some μ)
  else
  ((aI μ 297 v1).bind fun x3 =>
  (sI μ 296 v1 x3).bind fun m5 =>
  F_X4_begins_2 n (v1 + 1) m5)
def F_X4_begins_29  : Nat → Int32 → Mm → Option Mm
  | 0, _, _ => none
  | n + 1, v1, μ =>
  if (15 : Int32) ≤ v1 then
  (some μ)
  else
  ((sL μ 300 v1 (0 : Int64)).bind fun m12 =>
  F_X4_begins_29 n (v1 + 1) m12)
def F_X4_begins  (μ : Mm) : Option Mm :=
  (F_X4_begins_2 qFuel (0 : Int32) μ).bind fun o8 =>
  (F_X4_begins_29 qFuel (0 : Int32) o8).bind fun o15 =>
  (some (uI o15 295 8 (0 : Int32))).bind fun m17 =>
  (sZ m17 305 (0 : Int32) (0 : Int32)).bind fun m19 =>
  (sZ m19 305 (1 : Int32) (0 : Int32)).bind fun m21 =>
  some m21
set_option maxHeartbeats 4000000 in
set_option maxRecDepth 100000 in
theorem l_X4_begins_2 {l : Launch} {E : Ev} (hN : 311 ≤ eN E) {p : Program} {e : Env} {s : State} {m : MethodId} {args : Array Value} {below : List Frame} {meth : Method} {c : Code} (C : Cq E p s m args meth c cX4_begins 2 RX4) {Q : State → Prop} : ∀ (n : Nat) (v1 : Int32) (μ : Mm) (μx : Mm), F_X4_begins_2 n v1 μ = some μx → Gq E p l e rm_X4_begins s m args below meth c 0 0 2 Q 27 [(0, .ref (eB E + 295))] [] μx → Gq E p l e rm_X4_begins s m args below meth c 0 0 2 Q 2 [(0, .ref (eB E + 295)), (1, .int v1)] [] μ := by
  intro n
  induction n with
  | zero =>
    intro v1 μ μx z0 kk
    rw [F_X4_begins_2] at z0
    cases z0
  | succ n ih =>
    intro v1 μ μx z0 kk
    rw [F_X4_begins_2] at z0
    refine gq_iload_n C dX4_begins_2 rfl 1 rfl ?_
    refine gq_sipush (v := 521) C dX4_begins_3 (by decide) ?_
    rcases ite_ex z0 with ⟨c1, z2⟩ | ⟨c1, z2⟩
    · refine gq_icmp_ge_t (tgt := 27) C dX4_begins_6 (by decide) c1 ?_
      cases z2
      exact gq_widen (Nat.le_of_ble_eq_true rfl) (Nat.le_of_ble_eq_true rfl) (gq_sub [0] rfl kk)
    · refine gq_icmp_ge_f (tgt := 27) C dX4_begins_6 (by decide) c1 ?_
      refine gq_aload_n C dX4_begins_9 rfl 0 rfl ?_
      refine gq_get5 C (qn_m 295 (by decide) hN) (by decide) 1 (by decide) wk_6_163 rfl dX4_begins_10 ?_
      refine gq_iload_n C dX4_begins_13 rfl 1 rfl ?_
      refine gq_aload_n C dX4_begins_14 rfl 0 rfl ?_
      refine gq_get5 C (qn_m 295 (by decide) hN) (by decide) 2 (by decide) wk_6_164 rfl dX4_begins_15 ?_
      refine gq_iload_n C dX4_begins_18 rfl 1 rfl ?_
      obtain ⟨x3, ex3, z4⟩ := bind_ex z2
      refine gq_ialoadI C (qn_m 297 (by decide) hN) (by decide) ex3 dX4_begins_19 ?_
      obtain ⟨m5, em5, z6⟩ := bind_ex z4
      refine gq_iastore C (qn_m 296 (by decide) hN) (by decide) em5 dX4_begins_20 ?_
      refine gq_iinc (v := (v1 + 1)) (lv' := [(1, .int (v1 + 1)), (0, .ref (eB E + 295))]) (q := 1) C dX4_begins_21 rfl rfl (by decide) rfl ?_
      refine gq_goto (tgt := 2) C dX4_begins_24 (by decide) ?_
      refine gq_widen (k' := 0) (n' := 0) (Nat.le_of_ble_eq_true rfl) (Nat.le_of_ble_eq_true rfl) (gq_sub [1, 0] rfl ?_)
      exact ih _ _ _ z6 kk
set_option maxHeartbeats 4000000 in
set_option maxRecDepth 100000 in
theorem l_X4_begins_29 {l : Launch} {E : Ev} (hN : 311 ≤ eN E) {p : Program} {e : Env} {s : State} {m : MethodId} {args : Array Value} {below : List Frame} {meth : Method} {c : Code} (C : Cq E p s m args meth c cX4_begins 2 RX4) {Q : State → Prop} : ∀ (n : Nat) (v1 : Int32) (μ : Mm) (μx : Mm), F_X4_begins_29 n v1 μ = some μx → Gq E p l e rm_X4_begins s m args below meth c 0 0 2 Q 48 [(0, .ref (eB E + 295))] [] μx → Gq E p l e rm_X4_begins s m args below meth c 0 0 2 Q 29 [(0, .ref (eB E + 295)), (1, .int v1)] [] μ := by
  intro n
  induction n with
  | zero =>
    intro v1 μ μx z0 kk
    rw [F_X4_begins_29] at z0
    cases z0
  | succ n ih =>
    intro v1 μ μx z0 kk
    rw [F_X4_begins_29] at z0
    refine gq_iload_n C dX4_begins_29 rfl 1 rfl ?_
    refine gq_bipush (v := 15) C dX4_begins_30 (by decide) ?_
    rcases ite_ex z0 with ⟨c10, z11⟩ | ⟨c10, z11⟩
    · refine gq_icmp_ge_t (tgt := 48) C dX4_begins_32 (by decide) c10 ?_
      cases z11
      exact gq_widen (Nat.le_of_ble_eq_true rfl) (Nat.le_of_ble_eq_true rfl) (gq_sub [0] rfl kk)
    · refine gq_icmp_ge_f (tgt := 48) C dX4_begins_32 (by decide) c10 ?_
      refine gq_aload_n C dX4_begins_35 rfl 0 rfl ?_
      refine gq_get5 C (qn_m 295 (by decide) hN) (by decide) 5 (by decide) wk_6_167 rfl dX4_begins_36 ?_
      refine gq_iload_n C dX4_begins_39 rfl 1 rfl ?_
      refine gq_lconst (v := 0) C dX4_begins_40 (by decide) ?_
      obtain ⟨m12, em12, z13⟩ := bind_ex z11
      refine gq_lastore C (qn_m 300 (by decide) hN) (by decide) em12 dX4_begins_41 ?_
      refine gq_iinc (v := (v1 + 1)) (lv' := [(1, .int (v1 + 1)), (0, .ref (eB E + 295))]) (q := 1) C dX4_begins_42 rfl rfl (by decide) rfl ?_
      refine gq_goto (tgt := 29) C dX4_begins_45 (by decide) ?_
      refine gq_widen (k' := 0) (n' := 0) (Nat.le_of_ble_eq_true rfl) (Nat.le_of_ble_eq_true rfl) (gq_sub [1, 0] rfl ?_)
      exact ih _ _ _ z13 kk
set_option maxHeartbeats 4000000 in
set_option maxRecDepth 100000 in
theorem c_X4_begins {l : Launch} {E : Ev} (hN : 311 ≤ eN E) {μ : Mm} {μ' : Mm} (z0 : F_X4_begins  μ = some μ') : Ct l E yX4_begins (Cond.code yX4_begins cX4_begins 2 none :: GW) rm_X4_begins [.ref (eB E + 295)] μ none μ' := by
  refine ct_of (by decide) (Nat.le_of_ble_eq_true rfl) (fun p e s m args below meth c C hr => ?_)
  have C : Cq E p s m args meth c cX4_begins 2 RX4 := C
  refine gq_lv (lv' := [(0, .ref (eB E + 295))]) rfl ?_
  unfold F_X4_begins at z0
  refine gq_iconst (v := 0) C dX4_begins_0 (by decide) ?_
  refine gq_istore_n (lv' := [(1, .int (0 : Int32)), (0, .ref (eB E + 295))]) C dX4_begins_1 rfl (by decide) rfl ?_
  obtain ⟨m9, eo8, z7⟩ := bind_ex z0
  refine gq_widen (k' := 0) (n' := 0) (Nat.le_of_ble_eq_true rfl) (Nat.le_of_ble_eq_true rfl) (gq_sub [1, 0] rfl ?_)
  refine l_X4_begins_2 hN C  qFuel _ _ _ eo8 ?_
  refine gq_iconst (v := 0) C dX4_begins_27 (by decide) ?_
  refine gq_istore_n (lv' := [(1, .int (0 : Int32)), (0, .ref (eB E + 295))]) C dX4_begins_28 rfl (by decide) rfl ?_
  obtain ⟨m16, eo15, z14⟩ := bind_ex z7
  refine gq_widen (k' := 0) (n' := 0) (Nat.le_of_ble_eq_true rfl) (Nat.le_of_ble_eq_true rfl) (gq_sub [1, 0] rfl ?_)
  refine l_X4_begins_29 hN C  qFuel _ _ _ eo15 ?_
  refine gq_aload_n C dX4_begins_48 rfl 0 rfl ?_
  refine gq_iconst (v := 0) C dX4_begins_49 (by decide) ?_
  obtain ⟨m17, em17, z18⟩ := bind_ex z14
  refine gq_put5_8 C (qn_m 295 (by decide) hN) (by decide) wk_6_170 (Option.some.inj em17).symm dX4_begins_50 ?_
  refine gq_aload_n C dX4_begins_53 rfl 0 rfl ?_
  refine gq_get5 C (qn_m 295 (by decide) hN) (by decide) 11 (by decide) wk_6_173 rfl dX4_begins_54 ?_
  refine gq_iconst (v := 0) C dX4_begins_57 (by decide) ?_
  refine gq_iconst (v := 0) C dX4_begins_58 (by decide) ?_
  obtain ⟨m19, em19, z20⟩ := bind_ex z18
  refine gq_bastoreZ C (qn_m 305 (by decide) hN) (by decide) em19 dX4_begins_59 ?_
  refine gq_aload_n C dX4_begins_60 rfl 0 rfl ?_
  refine gq_get5 C (qn_m 295 (by decide) hN) (by decide) 11 (by decide) wk_6_173 rfl dX4_begins_61 ?_
  refine gq_iconst (v := 1) C dX4_begins_64 (by decide) ?_
  refine gq_iconst (v := 0) C dX4_begins_65 (by decide) ?_
  obtain ⟨m21, em21, z22⟩ := bind_ex z20
  refine gq_bastoreZ C (qn_m 305 (by decide) hN) (by decide) em21 dX4_begins_66 ?_
  cases z22
  exact gq_vret C hr dX4_begins_67 (Nat.le_of_ble_eq_true rfl) (Nat.le_of_ble_eq_true rfl)
abbrev rm_X4_load : Room := { frames := 9, cells := 0, slots := 0, locals := 277 }
def F_X4_load_37  : Nat → Mm → Option Mm
  | 0, _ => none
  | n + 1, μ =>
  (F_X4_failed  μ).bind fun o17 =>
  if o17 = 0 then
  ((F_X4_peek  μ).bind fun o22 =>
  if o22.1 = (-1 : Int32) then
  (some o22.2)
  else
  ((F_X4_line  o22.2).bind fun o28 =>
  (F_X4_failed  o28).bind fun o31 =>
  (if o31 = 0 then
  ((F_X4_peek  o28).bind fun o39 =>
  if o39.1 = (59 : Int32) then
  (some o39.2)
  else
  ((F_X4_fail (1 : Int32) (o39.2.1 295 15) o39.2).bind fun o45 =>
  some o45))
  else
  (some o28)).bind fun o47 =>
  (some (uI o47 295 15 ((o47.1 295 15) + (1 : Int32)))).bind fun m48 =>
  F_X4_load_37 n m48))
  else
  (some μ)
def F_X4_load  (μ : Mm) : Option (Int32 × Mm) :=
  (some (uI μ 295 0 (0 : Int32))).bind fun m1 =>
  (some (uI m1 295 14 (m1.1 295 13))).bind fun m3 =>
  (some (uI m3 295 13 (0 : Int32))).bind fun m5 =>
  (some (uI m5 295 15 (0 : Int32))).bind fun m7 =>
  (some (uI m7 295 16 (-1 : Int32))).bind fun m9 =>
  (some (uI m9 295 17 (0 : Int32))).bind fun m11 =>
  (F_X4_clears  m11).bind fun o14 =>
  (F_X4_load_37 qFuel o14).bind fun o51 =>
  (F_X4_failed  o51).bind fun o54 =>
  if o54 = 0 then
  ((F_X4_begins  o51).bind fun o59 =>
  (aI o59 296 (2 : Int32)).bind fun x61 =>
  some (x61, o59))
  else
  ((some (uI o51 295 0 (1 : Int32))).bind fun m63 =>
  some ((0 : Int32), m63))
set_option maxHeartbeats 4000000 in
set_option maxRecDepth 100000 in
theorem l_X4_load_37 {l : Launch} {E : Ev} (hN : 311 ≤ eN E) {p : Program} {e : Env} {s : State} {m : MethodId} {args : Array Value} {below : List Frame} {meth : Method} {c : Code} (C : Cq E p s m args meth c cX4_load 1 RX4) {Q : State → Prop} : ∀ (n : Nat) (μ : Mm) (μx : Mm), F_X4_load_37 n μ = some μx → Gq E p l e rm_X4_load s m args below meth c 0 0 1 Q 94 [(0, .ref (eB E + 295))] [] μx → Gq E p l e rm_X4_load s m args below meth c 0 0 1 Q 37 [(0, .ref (eB E + 295))] [] μ := by
  intro n
  induction n with
  | zero =>
    intro μ μx z0 kk
    rw [F_X4_load_37] at z0
    cases z0
  | succ n ih =>
    intro μ μx z0 kk
    rw [F_X4_load_37] at z0
    refine gq_aload_n C dX4_load_37 rfl 0 rfl ?_
    obtain ⟨x18, eo17, z16⟩ := bind_ex z0
    refine gq_V (As := []) (rest := []) (j := 5) C (c_X4_failed hN  eo17) (qn_m 295 (by decide) hN) (by decide) (by decide) rfl wk_7_29 wk_7_31 ws_X4_failed wk_1_9 wk_7_32 hd_X4_failed ⟨(Nat.le_of_ble_eq_true rfl), (Nat.le_of_ble_eq_true rfl)⟩ (Nat.le_of_ble_eq_true rfl) ⟨(Nat.le_of_ble_eq_true rfl), (Nat.le_of_ble_eq_true rfl)⟩ dX4_load_38 rfl rfl ?_
    rcases ite_ex z16 with ⟨c19, z20⟩ | ⟨c19, z20⟩
    · refine gq_if_ne_f (tgt := 94) C dX4_load_41 (by decide) c19 ?_
      refine gq_aload_n C dX4_load_44 rfl 0 rfl ?_
      obtain ⟨⟨x23, m24⟩, eo22, z21⟩ := bind_ex z20
      dsimp only at z21
      refine gq_V (As := []) (rest := []) (j := 5) C (c_X4_peek hN  eo22) (qn_m 295 (by decide) hN) (by decide) (by decide) rfl wk_7_33 wk_7_35 ws_X4_peek wk_1_9 wk_7_36 hd_X4_peek ⟨(Nat.le_of_ble_eq_true rfl), (Nat.le_of_ble_eq_true rfl)⟩ (Nat.le_of_ble_eq_true rfl) ⟨(Nat.le_of_ble_eq_true rfl), (Nat.le_of_ble_eq_true rfl)⟩ dX4_load_45 rfl rfl ?_
      refine gq_iconst (v := -1) C dX4_load_48 (by decide) ?_
      rcases ite_ex z21 with ⟨c25, z26⟩ | ⟨c25, z26⟩
      · refine gq_icmp_eq_t (tgt := 94) C dX4_load_49 (by decide) c25 ?_
        cases z26
        exact gq_widen (Nat.le_of_ble_eq_true rfl) (Nat.le_of_ble_eq_true rfl) (gq_sub [0] rfl kk)
      · refine gq_icmp_eq_f (tgt := 94) C dX4_load_49 (by decide) c25 ?_
        refine gq_aload_n C dX4_load_52 rfl 0 rfl ?_
        obtain ⟨m29, eo28, z27⟩ := bind_ex z26
        refine gq_V (As := []) (rest := []) (j := 5) C (c_X4_line hN  eo28) (qn_m 295 (by decide) hN) (by decide) (by decide) rfl wk_7_41 wk_7_43 ws_X4_line wk_1_9 wk_7_44 hd_X4_line ⟨(Nat.le_of_ble_eq_true rfl), (Nat.le_of_ble_eq_true rfl)⟩ (Nat.le_of_ble_eq_true rfl) ⟨(Nat.le_of_ble_eq_true rfl), (Nat.le_of_ble_eq_true rfl)⟩ dX4_load_53 rfl rfl ?_
        refine gq_aload_n C dX4_load_56 rfl 0 rfl ?_
        obtain ⟨x32, eo31, z30⟩ := bind_ex z27
        refine gq_V (As := []) (rest := []) (j := 5) C (c_X4_failed hN  eo31) (qn_m 295 (by decide) hN) (by decide) (by decide) rfl wk_7_29 wk_7_31 ws_X4_failed wk_1_9 wk_7_32 hd_X4_failed ⟨(Nat.le_of_ble_eq_true rfl), (Nat.le_of_ble_eq_true rfl)⟩ (Nat.le_of_ble_eq_true rfl) ⟨(Nat.le_of_ble_eq_true rfl), (Nat.le_of_ble_eq_true rfl)⟩ dX4_load_57 rfl rfl ?_
        obtain ⟨m33, z34, z35⟩ := bind_ex z30
        refine gq_join (k' := 0) (n' := 0) (pc' := 81) (lv' := [(0, .ref (eB E + 295))]) (st' := []) (μ' := m33) ?_ (fun J81 => ?_)
        · refine gq_aload_n C dX4_load_81 rfl 0 rfl ?_
          refine gq_dupr C dX4_load_82 ?_
          refine gq_get5 C (qn_m 295 (by decide) hN) (by decide) 15 (by decide) wk_6_177 rfl dX4_load_83 ?_
          refine gq_iconst (v := 1) C dX4_load_86 (by decide) ?_
          refine gq_iadd C dX4_load_87 ?_
          obtain ⟨m48, em48, z49⟩ := bind_ex z35
          refine gq_put5_15 C (qn_m 295 (by decide) hN) (by decide) wk_6_177 (Option.some.inj em48).symm dX4_load_88 ?_
          refine gq_goto (tgt := 37) C dX4_load_91 (by decide) ?_
          refine gq_widen (k' := 0) (n' := 0) (Nat.le_of_ble_eq_true rfl) (Nat.le_of_ble_eq_true rfl) (gq_sub [0] rfl ?_)
          exact ih  _ _ z49 kk
        · rcases ite_ex z34 with ⟨c36, z37⟩ | ⟨c36, z37⟩
          · refine gq_if_ne_f (tgt := 81) C dX4_load_60 (by decide) c36 ?_
            refine gq_aload_n C dX4_load_63 rfl 0 rfl ?_
            obtain ⟨⟨x40, m41⟩, eo39, z38⟩ := bind_ex z37
            dsimp only at z38
            refine gq_V (As := []) (rest := []) (j := 5) C (c_X4_peek hN  eo39) (qn_m 295 (by decide) hN) (by decide) (by decide) rfl wk_7_33 wk_7_35 ws_X4_peek wk_1_9 wk_7_36 hd_X4_peek ⟨(Nat.le_of_ble_eq_true rfl), (Nat.le_of_ble_eq_true rfl)⟩ (Nat.le_of_ble_eq_true rfl) ⟨(Nat.le_of_ble_eq_true rfl), (Nat.le_of_ble_eq_true rfl)⟩ dX4_load_64 rfl rfl ?_
            refine gq_bipush (v := 59) C dX4_load_67 (by decide) ?_
            rcases ite_ex z38 with ⟨c42, z43⟩ | ⟨c42, z43⟩
            · refine gq_icmp_eq_t (tgt := 81) C dX4_load_69 (by decide) c42 ?_
              cases z43
              exact gq_widen (Nat.le_of_ble_eq_true rfl) (Nat.le_of_ble_eq_true rfl) (gq_sub [0] rfl J81)
            · refine gq_icmp_eq_f (tgt := 81) C dX4_load_69 (by decide) c42 ?_
              refine gq_aload_n C dX4_load_72 rfl 0 rfl ?_
              refine gq_iconst (v := 1) C dX4_load_73 (by decide) ?_
              refine gq_aload_n C dX4_load_74 rfl 0 rfl ?_
              refine gq_get5 C (qn_m 295 (by decide) hN) (by decide) 15 (by decide) wk_6_177 rfl dX4_load_75 ?_
              obtain ⟨m46, eo45, z44⟩ := bind_ex z43
              refine gq_V (As := [.int (1 : Int32), .int (m41.1 295 15)]) (rest := []) (j := 5) C (c_X4_fail hN  eo45) (qn_m 295 (by decide) hN) (by decide) (by decide) rfl wk_7_63 wk_7_65 ws_X4_fail wk_1_9 wk_7_66 hd_X4_fail ⟨(Nat.le_of_ble_eq_true rfl), (Nat.le_of_ble_eq_true rfl)⟩ (Nat.le_of_ble_eq_true rfl) ⟨(Nat.le_of_ble_eq_true rfl), (Nat.le_of_ble_eq_true rfl)⟩ dX4_load_78 rfl rfl ?_
              cases z44
              exact gq_widen (Nat.le_of_ble_eq_true rfl) (Nat.le_of_ble_eq_true rfl) (gq_sub [0] rfl J81)
          · refine gq_if_ne_t (tgt := 81) C dX4_load_60 (by decide) c36 ?_
            cases z37
            exact gq_widen (Nat.le_of_ble_eq_true rfl) (Nat.le_of_ble_eq_true rfl) (gq_sub [0] rfl J81)
    · refine gq_if_ne_t (tgt := 94) C dX4_load_41 (by decide) c19 ?_
      cases z20
      exact gq_widen (Nat.le_of_ble_eq_true rfl) (Nat.le_of_ble_eq_true rfl) (gq_sub [0] rfl kk)
set_option maxHeartbeats 4000000 in
set_option maxRecDepth 100000 in
theorem c_X4_load {l : Launch} {E : Ev} (hN : 311 ≤ eN E) {μ : Mm} {r : Int32} {μ' : Mm} (z0 : F_X4_load  μ = some (r, μ')) : Ct l E yX4_load (Cond.code yX4_load cX4_load 1 (some .int) :: GW) rm_X4_load [.ref (eB E + 295)] μ (some (.int r)) μ' := by
  refine ct_of (by decide) (Nat.le_of_ble_eq_true rfl) (fun p e s m args below meth c C hr => ?_)
  have C : Cq E p s m args meth c cX4_load 1 RX4 := C
  refine gq_lv (lv' := [(0, .ref (eB E + 295))]) rfl ?_
  unfold F_X4_load at z0
  refine gq_aload_n C dX4_load_0 rfl 0 rfl ?_
  refine gq_iconst (v := 0) C dX4_load_1 (by decide) ?_
  obtain ⟨m1, em1, z2⟩ := bind_ex z0
  refine gq_put5_0 C (qn_m 295 (by decide) hN) (by decide) wk_6_162 (Option.some.inj em1).symm dX4_load_2 ?_
  refine gq_aload_n C dX4_load_5 rfl 0 rfl ?_
  refine gq_aload_n C dX4_load_6 rfl 0 rfl ?_
  refine gq_get5 C (qn_m 295 (by decide) hN) (by decide) 13 (by decide) wk_6_175 rfl dX4_load_7 ?_
  obtain ⟨m3, em3, z4⟩ := bind_ex z2
  refine gq_put5_14 C (qn_m 295 (by decide) hN) (by decide) wk_6_176 (Option.some.inj em3).symm dX4_load_10 ?_
  refine gq_aload_n C dX4_load_13 rfl 0 rfl ?_
  refine gq_iconst (v := 0) C dX4_load_14 (by decide) ?_
  obtain ⟨m5, em5, z6⟩ := bind_ex z4
  refine gq_put5_13 C (qn_m 295 (by decide) hN) (by decide) wk_6_175 (Option.some.inj em5).symm dX4_load_15 ?_
  refine gq_aload_n C dX4_load_18 rfl 0 rfl ?_
  refine gq_iconst (v := 0) C dX4_load_19 (by decide) ?_
  obtain ⟨m7, em7, z8⟩ := bind_ex z6
  refine gq_put5_15 C (qn_m 295 (by decide) hN) (by decide) wk_6_177 (Option.some.inj em7).symm dX4_load_20 ?_
  refine gq_aload_n C dX4_load_23 rfl 0 rfl ?_
  refine gq_iconst (v := -1) C dX4_load_24 (by decide) ?_
  obtain ⟨m9, em9, z10⟩ := bind_ex z8
  refine gq_put5_16 C (qn_m 295 (by decide) hN) (by decide) wk_6_178 (Option.some.inj em9).symm dX4_load_25 ?_
  refine gq_aload_n C dX4_load_28 rfl 0 rfl ?_
  refine gq_iconst (v := 0) C dX4_load_29 (by decide) ?_
  obtain ⟨m11, em11, z12⟩ := bind_ex z10
  refine gq_put5_17 C (qn_m 295 (by decide) hN) (by decide) wk_6_179 (Option.some.inj em11).symm dX4_load_30 ?_
  refine gq_aload_n C dX4_load_33 rfl 0 rfl ?_
  obtain ⟨m15, eo14, z13⟩ := bind_ex z12
  refine gq_V (As := []) (rest := []) (j := 5) C (c_X4_clears hN  eo14) (qn_m 295 (by decide) hN) (by decide) (by decide) rfl wk_6_154 wk_6_156 ws_X4_clears wk_1_9 wk_6_157 hd_X4_clears ⟨(Nat.le_of_ble_eq_true rfl), (Nat.le_of_ble_eq_true rfl)⟩ (Nat.le_of_ble_eq_true rfl) ⟨(Nat.le_of_ble_eq_true rfl), (Nat.le_of_ble_eq_true rfl)⟩ dX4_load_34 rfl rfl ?_
  obtain ⟨m52, eo51, z50⟩ := bind_ex z13
  refine gq_widen (k' := 0) (n' := 0) (Nat.le_of_ble_eq_true rfl) (Nat.le_of_ble_eq_true rfl) (gq_sub [0] rfl ?_)
  refine l_X4_load_37 hN C  qFuel _ _ eo51 ?_
  refine gq_aload_n C dX4_load_94 rfl 0 rfl ?_
  obtain ⟨x55, eo54, z53⟩ := bind_ex z50
  refine gq_V (As := []) (rest := []) (j := 5) C (c_X4_failed hN  eo54) (qn_m 295 (by decide) hN) (by decide) (by decide) rfl wk_7_29 wk_7_31 ws_X4_failed wk_1_9 wk_7_32 hd_X4_failed ⟨(Nat.le_of_ble_eq_true rfl), (Nat.le_of_ble_eq_true rfl)⟩ (Nat.le_of_ble_eq_true rfl) ⟨(Nat.le_of_ble_eq_true rfl), (Nat.le_of_ble_eq_true rfl)⟩ dX4_load_95 rfl rfl ?_
  rcases ite_ex z53 with ⟨c56, z57⟩ | ⟨c56, z57⟩
  · refine gq_if_eq_t (tgt := 108) C dX4_load_98 (by decide) c56 ?_
    refine gq_aload_n C dX4_load_108 rfl 0 rfl ?_
    obtain ⟨m60, eo59, z58⟩ := bind_ex z57
    refine gq_V (As := []) (rest := []) (j := 5) C (c_X4_begins hN  eo59) (qn_m 295 (by decide) hN) (by decide) (by decide) rfl wk_6_158 wk_6_160 ws_X4_begins wk_1_9 wk_6_161 hd_X4_begins ⟨(Nat.le_of_ble_eq_true rfl), (Nat.le_of_ble_eq_true rfl)⟩ (Nat.le_of_ble_eq_true rfl) ⟨(Nat.le_of_ble_eq_true rfl), (Nat.le_of_ble_eq_true rfl)⟩ dX4_load_109 rfl rfl ?_
    refine gq_aload_n C dX4_load_112 rfl 0 rfl ?_
    refine gq_get5 C (qn_m 295 (by decide) hN) (by decide) 1 (by decide) wk_6_163 rfl dX4_load_113 ?_
    refine gq_iconst (v := 2) C dX4_load_116 (by decide) ?_
    obtain ⟨x61, ex61, z62⟩ := bind_ex z58
    refine gq_ialoadI C (qn_m 296 (by decide) hN) (by decide) ex61 dX4_load_117 ?_
    cases z62
    exact gq_iret C hr dX4_load_118 (Nat.le_of_ble_eq_true rfl) (Nat.le_of_ble_eq_true rfl)
  · refine gq_if_eq_f (tgt := 108) C dX4_load_98 (by decide) c56 ?_
    refine gq_aload_n C dX4_load_101 rfl 0 rfl ?_
    refine gq_iconst (v := 1) C dX4_load_102 (by decide) ?_
    obtain ⟨m63, em63, z64⟩ := bind_ex z57
    refine gq_put5_0 C (qn_m 295 (by decide) hN) (by decide) wk_6_162 (Option.some.inj em63).symm dX4_load_103 ?_
    refine gq_iconst (v := 0) C dX4_load_106 (by decide) ?_
    cases z64
    exact gq_iret C hr dX4_load_107 (Nat.le_of_ble_eq_true rfl) (Nat.le_of_ble_eq_true rfl)
abbrev rm_X4_errorOffset : Room := { frames := 0, cells := 0, slots := 0, locals := 0 }
def F_X4_errorOffset  (μ : Mm) : Option (Int32 × Mm) :=
  (some (uI μ 295 0 (0 : Int32))).bind fun m1 =>
  some ((m1.1 295 16), m1)
set_option maxHeartbeats 4000000 in
set_option maxRecDepth 100000 in
theorem c_X4_errorOffset {l : Launch} {E : Ev} (hN : 311 ≤ eN E) {μ : Mm} {r : Int32} {μ' : Mm} (z0 : F_X4_errorOffset  μ = some (r, μ')) : Ct l E yX4_errorOffset (Cond.code yX4_errorOffset cX4_errorOffset 1 (some .int) :: GW) rm_X4_errorOffset [.ref (eB E + 295)] μ (some (.int r)) μ' := by
  refine ct_of (by decide) (Nat.le_of_ble_eq_true rfl) (fun p e s m args below meth c C hr => ?_)
  have C : Cq E p s m args meth c cX4_errorOffset 1 RX4 := C
  refine gq_lv (lv' := [(0, .ref (eB E + 295))]) rfl ?_
  unfold F_X4_errorOffset at z0
  refine gq_aload_n C dX4_errorOffset_0 rfl 0 rfl ?_
  refine gq_iconst (v := 0) C dX4_errorOffset_1 (by decide) ?_
  obtain ⟨m1, em1, z2⟩ := bind_ex z0
  refine gq_put5_0 C (qn_m 295 (by decide) hN) (by decide) wk_6_162 (Option.some.inj em1).symm dX4_errorOffset_2 ?_
  refine gq_aload_n C dX4_errorOffset_5 rfl 0 rfl ?_
  refine gq_get5 C (qn_m 295 (by decide) hN) (by decide) 16 (by decide) wk_6_178 rfl dX4_errorOffset_6 ?_
  cases z2
  exact gq_iret C hr dX4_errorOffset_9 (Nat.le_of_ble_eq_true rfl) (Nat.le_of_ble_eq_true rfl)
abbrev rm_X4_errorKind : Room := { frames := 0, cells := 0, slots := 0, locals := 0 }
def F_X4_errorKind  (μ : Mm) : Option (Int32 × Mm) :=
  (some (uI μ 295 0 (0 : Int32))).bind fun m1 =>
  some ((m1.1 295 17), m1)
set_option maxHeartbeats 4000000 in
set_option maxRecDepth 100000 in
theorem c_X4_errorKind {l : Launch} {E : Ev} (hN : 311 ≤ eN E) {μ : Mm} {r : Int32} {μ' : Mm} (z0 : F_X4_errorKind  μ = some (r, μ')) : Ct l E yX4_errorKind (Cond.code yX4_errorKind cX4_errorKind 1 (some .int) :: GW) rm_X4_errorKind [.ref (eB E + 295)] μ (some (.int r)) μ' := by
  refine ct_of (by decide) (Nat.le_of_ble_eq_true rfl) (fun p e s m args below meth c C hr => ?_)
  have C : Cq E p s m args meth c cX4_errorKind 1 RX4 := C
  refine gq_lv (lv' := [(0, .ref (eB E + 295))]) rfl ?_
  unfold F_X4_errorKind at z0
  refine gq_aload_n C dX4_errorKind_0 rfl 0 rfl ?_
  refine gq_iconst (v := 0) C dX4_errorKind_1 (by decide) ?_
  obtain ⟨m1, em1, z2⟩ := bind_ex z0
  refine gq_put5_0 C (qn_m 295 (by decide) hN) (by decide) wk_6_162 (Option.some.inj em1).symm dX4_errorKind_2 ?_
  refine gq_aload_n C dX4_errorKind_5 rfl 0 rfl ?_
  refine gq_get5 C (qn_m 295 (by decide) hN) (by decide) 17 (by decide) wk_6_179 rfl dX4_errorKind_6 ?_
  cases z2
  exact gq_iret C hr dX4_errorKind_9 (Nat.le_of_ble_eq_true rfl) (Nat.le_of_ble_eq_true rfl)
abbrev rm_X4_isReach : Room := { frames := 1, cells := 0, slots := 0, locals := 22 }
def F_X4_isReach (p1 : Int32) (μ : Mm) : Option Int32 :=
  (aI μ 296 (0 : Int32)).bind fun x1 =>
  (F_X4_inRange p1 (0 : Int32) (x1 - (1 : Int32)) μ).bind fun o4 =>
  (zb o4).bind fun x6 => some x6
set_option maxHeartbeats 4000000 in
set_option maxRecDepth 100000 in
theorem c_X4_isReach {l : Launch} {E : Ev} (hN : 311 ≤ eN E) {p1 : Int32} {μ : Mm} {r : Int32} (z0 : F_X4_isReach p1 μ = some r) : Ct l E yX4_isReach (Cond.code yX4_isReach cX4_isReach 2 (some .boolean) :: GW) rm_X4_isReach [.ref (eB E + 295), .int p1] μ (some (.int r)) μ := by
  refine ct_of (by decide) (Nat.le_of_ble_eq_true rfl) (fun p e s m args below meth c C hr => ?_)
  have C : Cq E p s m args meth c cX4_isReach 2 RX4 := C
  refine gq_lv (lv' := [(0, .ref (eB E + 295)), (1, .int p1)]) rfl ?_
  unfold F_X4_isReach at z0
  refine gq_iload_n C dX4_isReach_0 rfl 1 rfl ?_
  refine gq_iconst (v := 0) C dX4_isReach_1 (by decide) ?_
  refine gq_aload_n C dX4_isReach_2 rfl 0 rfl ?_
  refine gq_get5 C (qn_m 295 (by decide) hN) (by decide) 1 (by decide) wk_6_163 rfl dX4_isReach_3 ?_
  refine gq_iconst (v := 0) C dX4_isReach_6 (by decide) ?_
  obtain ⟨x1, ex1, z2⟩ := bind_ex z0
  refine gq_ialoadI C (qn_m 296 (by decide) hN) (by decide) ex1 dX4_isReach_7 ?_
  refine gq_iconst (v := 1) C dX4_isReach_8 (by decide) ?_
  refine gq_isub C dX4_isReach_9 ?_
  obtain ⟨x5, eo4, z3⟩ := bind_ex z2
  refine gq_S (As := [.int p1, .int (0 : Int32), .int (x1 - (1 : Int32))]) (rest := []) C (c_X4_inRange hN  eo4) wk_7_50 wk_7_51 wk_1_9 wk_7_52 hd_X4_inRange ⟨(Nat.le_of_ble_eq_true rfl), (Nat.le_of_ble_eq_true rfl)⟩ (Nat.le_of_ble_eq_true rfl) ⟨(Nat.le_of_ble_eq_true rfl), (Nat.le_of_ble_eq_true rfl)⟩ dX4_isReach_10 rfl rfl ?_
  obtain ⟨x6, ex6, z7⟩ := bind_ex z3
  obtain ⟨nx6, qx6⟩ := zb_ex2 ex6
  subst qx6
  cases z7
  exact gq_zret C hr nx6 dX4_isReach_13 (Nat.le_of_ble_eq_true rfl) (Nat.le_of_ble_eq_true rfl)
abbrev rm_X4_isAccount : Room := { frames := 1, cells := 0, slots := 0, locals := 22 }
def F_X4_isAccount (p1 : Int32) (μ : Mm) : Option Int32 :=
  (aI μ 296 (1 : Int32)).bind fun x1 =>
  (F_X4_inRange p1 (0 : Int32) (x1 - (1 : Int32)) μ).bind fun o4 =>
  (zb o4).bind fun x6 => some x6
set_option maxHeartbeats 4000000 in
set_option maxRecDepth 100000 in
theorem c_X4_isAccount {l : Launch} {E : Ev} (hN : 311 ≤ eN E) {p1 : Int32} {μ : Mm} {r : Int32} (z0 : F_X4_isAccount p1 μ = some r) : Ct l E yX4_isAccount (Cond.code yX4_isAccount cX4_isAccount 2 (some .boolean) :: GW) rm_X4_isAccount [.ref (eB E + 295), .int p1] μ (some (.int r)) μ := by
  refine ct_of (by decide) (Nat.le_of_ble_eq_true rfl) (fun p e s m args below meth c C hr => ?_)
  have C : Cq E p s m args meth c cX4_isAccount 2 RX4 := C
  refine gq_lv (lv' := [(0, .ref (eB E + 295)), (1, .int p1)]) rfl ?_
  unfold F_X4_isAccount at z0
  refine gq_iload_n C dX4_isAccount_0 rfl 1 rfl ?_
  refine gq_iconst (v := 0) C dX4_isAccount_1 (by decide) ?_
  refine gq_aload_n C dX4_isAccount_2 rfl 0 rfl ?_
  refine gq_get5 C (qn_m 295 (by decide) hN) (by decide) 1 (by decide) wk_6_163 rfl dX4_isAccount_3 ?_
  refine gq_iconst (v := 1) C dX4_isAccount_6 (by decide) ?_
  obtain ⟨x1, ex1, z2⟩ := bind_ex z0
  refine gq_ialoadI C (qn_m 296 (by decide) hN) (by decide) ex1 dX4_isAccount_7 ?_
  refine gq_iconst (v := 1) C dX4_isAccount_8 (by decide) ?_
  refine gq_isub C dX4_isAccount_9 ?_
  obtain ⟨x5, eo4, z3⟩ := bind_ex z2
  refine gq_S (As := [.int p1, .int (0 : Int32), .int (x1 - (1 : Int32))]) (rest := []) C (c_X4_inRange hN  eo4) wk_7_50 wk_7_51 wk_1_9 wk_7_52 hd_X4_inRange ⟨(Nat.le_of_ble_eq_true rfl), (Nat.le_of_ble_eq_true rfl)⟩ (Nat.le_of_ble_eq_true rfl) ⟨(Nat.le_of_ble_eq_true rfl), (Nat.le_of_ble_eq_true rfl)⟩ dX4_isAccount_10 rfl rfl ?_
  obtain ⟨x6, ex6, z7⟩ := bind_ex z3
  obtain ⟨nx6, qx6⟩ := zb_ex2 ex6
  subst qx6
  cases z7
  exact gq_zret C hr nx6 dX4_isAccount_13 (Nat.le_of_ble_eq_true rfl) (Nat.le_of_ble_eq_true rfl)
abbrev rm_X4_isRight : Room := { frames := 1, cells := 0, slots := 0, locals := 22 }
def F_X4_isRight (p1 : Int32) (μ : Mm) : Option Int32 :=
  (aI μ 296 (2 : Int32)).bind fun x1 =>
  (F_X4_inRange p1 (0 : Int32) (x1 - (1 : Int32)) μ).bind fun o4 =>
  (zb o4).bind fun x6 => some x6
set_option maxHeartbeats 4000000 in
set_option maxRecDepth 100000 in
theorem c_X4_isRight {l : Launch} {E : Ev} (hN : 311 ≤ eN E) {p1 : Int32} {μ : Mm} {r : Int32} (z0 : F_X4_isRight p1 μ = some r) : Ct l E yX4_isRight (Cond.code yX4_isRight cX4_isRight 2 (some .boolean) :: GW) rm_X4_isRight [.ref (eB E + 295), .int p1] μ (some (.int r)) μ := by
  refine ct_of (by decide) (Nat.le_of_ble_eq_true rfl) (fun p e s m args below meth c C hr => ?_)
  have C : Cq E p s m args meth c cX4_isRight 2 RX4 := C
  refine gq_lv (lv' := [(0, .ref (eB E + 295)), (1, .int p1)]) rfl ?_
  unfold F_X4_isRight at z0
  refine gq_iload_n C dX4_isRight_0 rfl 1 rfl ?_
  refine gq_iconst (v := 0) C dX4_isRight_1 (by decide) ?_
  refine gq_aload_n C dX4_isRight_2 rfl 0 rfl ?_
  refine gq_get5 C (qn_m 295 (by decide) hN) (by decide) 1 (by decide) wk_6_163 rfl dX4_isRight_3 ?_
  refine gq_iconst (v := 2) C dX4_isRight_6 (by decide) ?_
  obtain ⟨x1, ex1, z2⟩ := bind_ex z0
  refine gq_ialoadI C (qn_m 296 (by decide) hN) (by decide) ex1 dX4_isRight_7 ?_
  refine gq_iconst (v := 1) C dX4_isRight_8 (by decide) ?_
  refine gq_isub C dX4_isRight_9 ?_
  obtain ⟨x5, eo4, z3⟩ := bind_ex z2
  refine gq_S (As := [.int p1, .int (0 : Int32), .int (x1 - (1 : Int32))]) (rest := []) C (c_X4_inRange hN  eo4) wk_7_50 wk_7_51 wk_1_9 wk_7_52 hd_X4_inRange ⟨(Nat.le_of_ble_eq_true rfl), (Nat.le_of_ble_eq_true rfl)⟩ (Nat.le_of_ble_eq_true rfl) ⟨(Nat.le_of_ble_eq_true rfl), (Nat.le_of_ble_eq_true rfl)⟩ dX4_isRight_10 rfl rfl ?_
  obtain ⟨x6, ex6, z7⟩ := bind_ex z3
  obtain ⟨nx6, qx6⟩ := zb_ex2 ex6
  subst qx6
  cases z7
  exact gq_zret C hr nx6 dX4_isRight_13 (Nat.le_of_ble_eq_true rfl) (Nat.le_of_ble_eq_true rfl)
abbrev rm_X4_isLease : Room := { frames := 1, cells := 0, slots := 0, locals := 22 }
def F_X4_isLease (p1 : Int32) (μ : Mm) : Option Int32 :=
  (aI μ 296 (3 : Int32)).bind fun x1 =>
  (F_X4_inRange p1 (0 : Int32) (x1 - (1 : Int32)) μ).bind fun o4 =>
  (zb o4).bind fun x6 => some x6
set_option maxHeartbeats 4000000 in
set_option maxRecDepth 100000 in
theorem c_X4_isLease {l : Launch} {E : Ev} (hN : 311 ≤ eN E) {p1 : Int32} {μ : Mm} {r : Int32} (z0 : F_X4_isLease p1 μ = some r) : Ct l E yX4_isLease (Cond.code yX4_isLease cX4_isLease 2 (some .boolean) :: GW) rm_X4_isLease [.ref (eB E + 295), .int p1] μ (some (.int r)) μ := by
  refine ct_of (by decide) (Nat.le_of_ble_eq_true rfl) (fun p e s m args below meth c C hr => ?_)
  have C : Cq E p s m args meth c cX4_isLease 2 RX4 := C
  refine gq_lv (lv' := [(0, .ref (eB E + 295)), (1, .int p1)]) rfl ?_
  unfold F_X4_isLease at z0
  refine gq_iload_n C dX4_isLease_0 rfl 1 rfl ?_
  refine gq_iconst (v := 0) C dX4_isLease_1 (by decide) ?_
  refine gq_aload_n C dX4_isLease_2 rfl 0 rfl ?_
  refine gq_get5 C (qn_m 295 (by decide) hN) (by decide) 1 (by decide) wk_6_163 rfl dX4_isLease_3 ?_
  refine gq_iconst (v := 3) C dX4_isLease_6 (by decide) ?_
  obtain ⟨x1, ex1, z2⟩ := bind_ex z0
  refine gq_ialoadI C (qn_m 296 (by decide) hN) (by decide) ex1 dX4_isLease_7 ?_
  refine gq_iconst (v := 1) C dX4_isLease_8 (by decide) ?_
  refine gq_isub C dX4_isLease_9 ?_
  obtain ⟨x5, eo4, z3⟩ := bind_ex z2
  refine gq_S (As := [.int p1, .int (0 : Int32), .int (x1 - (1 : Int32))]) (rest := []) C (c_X4_inRange hN  eo4) wk_7_50 wk_7_51 wk_1_9 wk_7_52 hd_X4_inRange ⟨(Nat.le_of_ble_eq_true rfl), (Nat.le_of_ble_eq_true rfl)⟩ (Nat.le_of_ble_eq_true rfl) ⟨(Nat.le_of_ble_eq_true rfl), (Nat.le_of_ble_eq_true rfl)⟩ dX4_isLease_10 rfl rfl ?_
  obtain ⟨x6, ex6, z7⟩ := bind_ex z3
  obtain ⟨nx6, qx6⟩ := zb_ex2 ex6
  subst qx6
  cases z7
  exact gq_zret C hr nx6 dX4_isLease_13 (Nat.le_of_ble_eq_true rfl) (Nat.le_of_ble_eq_true rfl)
abbrev rm_X4_isMonths : Room := { frames := 1, cells := 0, slots := 0, locals := 22 }
def F_X4_isMonths (p1 : Int32) (μ : Mm) : Option Int32 :=
  (F_X4_inRange p1 (1 : Int32) (36 : Int32) μ).bind fun o2 =>
  (zb o2).bind fun x4 => some x4
set_option maxHeartbeats 4000000 in
set_option maxRecDepth 100000 in
theorem c_X4_isMonths {l : Launch} {E : Ev} (hN : 311 ≤ eN E) {p1 : Int32} {μ : Mm} {r : Int32} (z0 : F_X4_isMonths p1 μ = some r) : Ct l E yX4_isMonths (Cond.code yX4_isMonths cX4_isMonths 2 (some .boolean) :: GW) rm_X4_isMonths [.ref (eB E + 295), .int p1] μ (some (.int r)) μ := by
  refine ct_of (by decide) (Nat.le_of_ble_eq_true rfl) (fun p e s m args below meth c C hr => ?_)
  have C : Cq E p s m args meth c cX4_isMonths 2 RX4 := C
  refine gq_lv (lv' := [(0, .ref (eB E + 295)), (1, .int p1)]) rfl ?_
  unfold F_X4_isMonths at z0
  refine gq_iload_n C dX4_isMonths_0 rfl 1 rfl ?_
  refine gq_iconst (v := 1) C dX4_isMonths_1 (by decide) ?_
  refine gq_bipush (v := 36) C dX4_isMonths_2 (by decide) ?_
  obtain ⟨x3, eo2, z1⟩ := bind_ex z0
  refine gq_S (As := [.int p1, .int (1 : Int32), .int (36 : Int32)]) (rest := []) C (c_X4_inRange hN  eo2) wk_7_50 wk_7_51 wk_1_9 wk_7_52 hd_X4_inRange ⟨(Nat.le_of_ble_eq_true rfl), (Nat.le_of_ble_eq_true rfl)⟩ (Nat.le_of_ble_eq_true rfl) ⟨(Nat.le_of_ble_eq_true rfl), (Nat.le_of_ble_eq_true rfl)⟩ dX4_isMonths_4 rfl rfl ?_
  obtain ⟨x4, ex4, z5⟩ := bind_ex z1
  obtain ⟨nx4, qx4⟩ := zb_ex2 ex4
  subst qx4
  cases z5
  exact gq_zret C hr nx4 dX4_isMonths_7 (Nat.le_of_ble_eq_true rfl) (Nat.le_of_ble_eq_true rfl)
abbrev rm_X4_count : Room := { frames := 1, cells := 0, slots := 0, locals := 22 }
def F_X4_count (p1 : Int32) (μ : Mm) : Option (Int32 × Mm) :=
  (F_X4_inRange p1 (0 : Int32) (7 : Int32) μ).bind fun o2 =>
  (if o2 = 0 then
  (some (1 : Int32))
  else
  (some (0 : Int32))).bind fun o9 =>
  (some (uI μ 295 0 o9)).bind fun m10 =>
  if (m10.1 295 0) ≤ 0 then
  ((aI m10 296 p1).bind fun x14 =>
  some (x14, m10))
  else
  (some ((0 : Int32), m10))
set_option maxHeartbeats 4000000 in
set_option maxRecDepth 100000 in
theorem c_X4_count {l : Launch} {E : Ev} (hN : 311 ≤ eN E) {p1 : Int32} {μ : Mm} {r : Int32} {μ' : Mm} (z0 : F_X4_count p1 μ = some (r, μ')) : Ct l E yX4_count (Cond.code yX4_count cX4_count 2 (some .int) :: GW) rm_X4_count [.ref (eB E + 295), .int p1] μ (some (.int r)) μ' := by
  refine ct_of (by decide) (Nat.le_of_ble_eq_true rfl) (fun p e s m args below meth c C hr => ?_)
  have C : Cq E p s m args meth c cX4_count 2 RX4 := C
  refine gq_lv (lv' := [(0, .ref (eB E + 295)), (1, .int p1)]) rfl ?_
  unfold F_X4_count at z0
  refine gq_aload_n C dX4_count_0 rfl 0 rfl ?_
  refine gq_iload_n C dX4_count_1 rfl 1 rfl ?_
  refine gq_iconst (v := 0) C dX4_count_2 (by decide) ?_
  refine gq_bipush (v := 7) C dX4_count_3 (by decide) ?_
  obtain ⟨x3, eo2, z1⟩ := bind_ex z0
  refine gq_S (As := [.int p1, .int (0 : Int32), .int (7 : Int32)]) (rest := [.ref (eB E + 295)]) C (c_X4_inRange hN  eo2) wk_7_50 wk_7_51 wk_1_9 wk_7_52 hd_X4_inRange ⟨(Nat.le_of_ble_eq_true rfl), (Nat.le_of_ble_eq_true rfl)⟩ (Nat.le_of_ble_eq_true rfl) ⟨(Nat.le_of_ble_eq_true rfl), (Nat.le_of_ble_eq_true rfl)⟩ dX4_count_5 rfl rfl ?_
  obtain ⟨x4, z5, z6⟩ := bind_ex z1
  refine gq_join (k' := 0) (n' := 0) (pc' := 16) (lv' := [(0, .ref (eB E + 295)), (1, .int p1)]) (st' := [.int x4, .ref (eB E + 295)]) (μ' := μ) ?_ (fun J16 => ?_)
  · obtain ⟨m10, em10, z11⟩ := bind_ex z6
    refine gq_put5_0 C (qn_m 295 (by decide) hN) (by decide) wk_6_162 (Option.some.inj em10).symm dX4_count_16 ?_
    refine gq_aload_n C dX4_count_19 rfl 0 rfl ?_
    refine gq_get5 C (qn_m 295 (by decide) hN) (by decide) 0 (by decide) wk_6_162 rfl dX4_count_20 ?_
    rcases ite_ex z11 with ⟨c12, z13⟩ | ⟨c12, z13⟩
    · refine gq_if_le_t (tgt := 30) C dX4_count_23 (by decide) c12 ?_
      refine gq_aload_n C dX4_count_30 rfl 0 rfl ?_
      refine gq_get5 C (qn_m 295 (by decide) hN) (by decide) 1 (by decide) wk_6_163 rfl dX4_count_31 ?_
      refine gq_iload_n C dX4_count_34 rfl 1 rfl ?_
      obtain ⟨x14, ex14, z15⟩ := bind_ex z13
      refine gq_ialoadI C (qn_m 296 (by decide) hN) (by decide) ex14 dX4_count_35 ?_
      cases z15
      exact gq_iret C hr dX4_count_36 (Nat.le_of_ble_eq_true rfl) (Nat.le_of_ble_eq_true rfl)
    · refine gq_if_le_f (tgt := 30) C dX4_count_23 (by decide) c12 ?_
      refine gq_iconst (v := 0) C dX4_count_26 (by decide) ?_
      refine gq_goto (tgt := 36) C dX4_count_27 (by decide) ?_
      cases z13
      exact gq_iret C hr dX4_count_36 (Nat.le_of_ble_eq_true rfl) (Nat.le_of_ble_eq_true rfl)
  · rcases ite_ex z5 with ⟨c7, z8⟩ | ⟨c7, z8⟩
    · refine gq_if_eq_t (tgt := 15) C dX4_count_8 (by decide) c7 ?_
      refine gq_iconst (v := 1) C dX4_count_15 (by decide) ?_
      cases z8
      exact gq_widen (Nat.le_of_ble_eq_true rfl) (Nat.le_of_ble_eq_true rfl) (gq_sub [0, 1] rfl J16)
    · refine gq_if_eq_f (tgt := 15) C dX4_count_8 (by decide) c7 ?_
      refine gq_iconst (v := 0) C dX4_count_11 (by decide) ?_
      refine gq_goto (tgt := 16) C dX4_count_12 (by decide) ?_
      cases z8
      exact gq_widen (Nat.le_of_ble_eq_true rfl) (Nat.le_of_ble_eq_true rfl) (gq_sub [0, 1] rfl J16)
abbrev rm_X4_season : Room := { frames := 1, cells := 0, slots := 0, locals := 22 }
def F_X4_season (p1 : Int32) (μ : Mm) : Option (Int32 × Mm) :=
  (F_X4_inRange p1 (0 : Int32) (11 : Int32) μ).bind fun o2 =>
  (if o2 = 0 then
  (some (1 : Int32))
  else
  (some (0 : Int32))).bind fun o9 =>
  (some (uI μ 295 0 o9)).bind fun m10 =>
  if (m10.1 295 0) ≤ 0 then
  ((aI m10 296 ((36 : Int32) + p1)).bind fun x14 =>
  some (x14, m10))
  else
  (some ((0 : Int32), m10))
set_option maxHeartbeats 4000000 in
set_option maxRecDepth 100000 in
theorem c_X4_season {l : Launch} {E : Ev} (hN : 311 ≤ eN E) {p1 : Int32} {μ : Mm} {r : Int32} {μ' : Mm} (z0 : F_X4_season p1 μ = some (r, μ')) : Ct l E yX4_season (Cond.code yX4_season cX4_season 2 (some .int) :: GW) rm_X4_season [.ref (eB E + 295), .int p1] μ (some (.int r)) μ' := by
  refine ct_of (by decide) (Nat.le_of_ble_eq_true rfl) (fun p e s m args below meth c C hr => ?_)
  have C : Cq E p s m args meth c cX4_season 2 RX4 := C
  refine gq_lv (lv' := [(0, .ref (eB E + 295)), (1, .int p1)]) rfl ?_
  unfold F_X4_season at z0
  refine gq_aload_n C dX4_season_0 rfl 0 rfl ?_
  refine gq_iload_n C dX4_season_1 rfl 1 rfl ?_
  refine gq_iconst (v := 0) C dX4_season_2 (by decide) ?_
  refine gq_bipush (v := 11) C dX4_season_3 (by decide) ?_
  obtain ⟨x3, eo2, z1⟩ := bind_ex z0
  refine gq_S (As := [.int p1, .int (0 : Int32), .int (11 : Int32)]) (rest := [.ref (eB E + 295)]) C (c_X4_inRange hN  eo2) wk_7_50 wk_7_51 wk_1_9 wk_7_52 hd_X4_inRange ⟨(Nat.le_of_ble_eq_true rfl), (Nat.le_of_ble_eq_true rfl)⟩ (Nat.le_of_ble_eq_true rfl) ⟨(Nat.le_of_ble_eq_true rfl), (Nat.le_of_ble_eq_true rfl)⟩ dX4_season_5 rfl rfl ?_
  obtain ⟨x4, z5, z6⟩ := bind_ex z1
  refine gq_join (k' := 0) (n' := 0) (pc' := 16) (lv' := [(0, .ref (eB E + 295)), (1, .int p1)]) (st' := [.int x4, .ref (eB E + 295)]) (μ' := μ) ?_ (fun J16 => ?_)
  · obtain ⟨m10, em10, z11⟩ := bind_ex z6
    refine gq_put5_0 C (qn_m 295 (by decide) hN) (by decide) wk_6_162 (Option.some.inj em10).symm dX4_season_16 ?_
    refine gq_aload_n C dX4_season_19 rfl 0 rfl ?_
    refine gq_get5 C (qn_m 295 (by decide) hN) (by decide) 0 (by decide) wk_6_162 rfl dX4_season_20 ?_
    rcases ite_ex z11 with ⟨c12, z13⟩ | ⟨c12, z13⟩
    · refine gq_if_le_t (tgt := 30) C dX4_season_23 (by decide) c12 ?_
      refine gq_aload_n C dX4_season_30 rfl 0 rfl ?_
      refine gq_get5 C (qn_m 295 (by decide) hN) (by decide) 1 (by decide) wk_6_163 rfl dX4_season_31 ?_
      refine gq_bipush (v := 36) C dX4_season_34 (by decide) ?_
      refine gq_iload_n C dX4_season_36 rfl 1 rfl ?_
      refine gq_iadd C dX4_season_37 ?_
      obtain ⟨x14, ex14, z15⟩ := bind_ex z13
      refine gq_ialoadI C (qn_m 296 (by decide) hN) (by decide) ex14 dX4_season_38 ?_
      cases z15
      exact gq_iret C hr dX4_season_39 (Nat.le_of_ble_eq_true rfl) (Nat.le_of_ble_eq_true rfl)
    · refine gq_if_le_f (tgt := 30) C dX4_season_23 (by decide) c12 ?_
      refine gq_iconst (v := 0) C dX4_season_26 (by decide) ?_
      refine gq_goto (tgt := 39) C dX4_season_27 (by decide) ?_
      cases z13
      exact gq_iret C hr dX4_season_39 (Nat.le_of_ble_eq_true rfl) (Nat.le_of_ble_eq_true rfl)
  · rcases ite_ex z5 with ⟨c7, z8⟩ | ⟨c7, z8⟩
    · refine gq_if_eq_t (tgt := 15) C dX4_season_8 (by decide) c7 ?_
      refine gq_iconst (v := 1) C dX4_season_15 (by decide) ?_
      cases z8
      exact gq_widen (Nat.le_of_ble_eq_true rfl) (Nat.le_of_ble_eq_true rfl) (gq_sub [0, 1] rfl J16)
    · refine gq_if_eq_f (tgt := 15) C dX4_season_8 (by decide) c7 ?_
      refine gq_iconst (v := 0) C dX4_season_11 (by decide) ?_
      refine gq_goto (tgt := 16) C dX4_season_12 (by decide) ?_
      cases z8
      exact gq_widen (Nat.le_of_ble_eq_true rfl) (Nat.le_of_ble_eq_true rfl) (gq_sub [0, 1] rfl J16)
abbrev rm_X4_percentOf : Room := { frames := 0, cells := 0, slots := 0, locals := 0 }
def F_X4_percentOf (p1 : Int32) (μ : Mm) : Option Int32 :=
  (aI μ 296 (7 : Int32)).bind fun x1 =>
  (irm p1 x1).bind fun x3 => (aI μ 296 ((48 : Int32) + x3)).bind fun x5 =>
  some x5
set_option maxHeartbeats 4000000 in
set_option maxRecDepth 100000 in
theorem c_X4_percentOf {l : Launch} {E : Ev} (hN : 311 ≤ eN E) {p1 : Int32} {μ : Mm} {r : Int32} (z0 : F_X4_percentOf p1 μ = some r) : Ct l E yX4_percentOf (Cond.code yX4_percentOf cX4_percentOf 2 (some .int) :: GW) rm_X4_percentOf [.ref (eB E + 295), .int p1] μ (some (.int r)) μ := by
  refine ct_of (by decide) (Nat.le_of_ble_eq_true rfl) (fun p e s m args below meth c C hr => ?_)
  have C : Cq E p s m args meth c cX4_percentOf 2 RX4 := C
  refine gq_lv (lv' := [(0, .ref (eB E + 295)), (1, .int p1)]) rfl ?_
  unfold F_X4_percentOf at z0
  refine gq_aload_n C dX4_percentOf_0 rfl 0 rfl ?_
  refine gq_get5 C (qn_m 295 (by decide) hN) (by decide) 1 (by decide) wk_6_163 rfl dX4_percentOf_1 ?_
  refine gq_bipush (v := 48) C dX4_percentOf_4 (by decide) ?_
  refine gq_iload_n C dX4_percentOf_6 rfl 1 rfl ?_
  refine gq_aload_n C dX4_percentOf_7 rfl 0 rfl ?_
  refine gq_get5 C (qn_m 295 (by decide) hN) (by decide) 1 (by decide) wk_6_163 rfl dX4_percentOf_8 ?_
  refine gq_bipush (v := 7) C dX4_percentOf_11 (by decide) ?_
  obtain ⟨x1, ex1, z2⟩ := bind_ex z0
  refine gq_ialoadI C (qn_m 296 (by decide) hN) (by decide) ex1 dX4_percentOf_13 ?_
  obtain ⟨x3, ex3, z4⟩ := bind_ex z2
  obtain ⟨nx3, qx3⟩ := irm_ex ex3
  refine gq_iremE C dX4_percentOf_14 nx3 qx3 ?_
  refine gq_iadd C dX4_percentOf_15 ?_
  obtain ⟨x5, ex5, z6⟩ := bind_ex z4
  refine gq_ialoadI C (qn_m 296 (by decide) hN) (by decide) ex5 dX4_percentOf_16 ?_
  cases z6
  exact gq_iret C hr dX4_percentOf_17 (Nat.le_of_ble_eq_true rfl) (Nat.le_of_ble_eq_true rfl)
abbrev rm_X4_yearPercent : Room := { frames := 1, cells := 0, slots := 0, locals := 21 }
def F_X4_yearPercent (p1 : Int32) (μ : Mm) : Option (Int32 × Mm) :=
  (if p1 < 0 then
  (some (1 : Int32))
  else
  (some (0 : Int32))).bind fun o6 =>
  (some (uI μ 295 0 o6)).bind fun m7 =>
  if (m7.1 295 0) ≤ 0 then
  ((F_X4_percentOf p1 m7).bind fun o12 =>
  some (o12, m7))
  else
  (some ((0 : Int32), m7))
set_option maxHeartbeats 4000000 in
set_option maxRecDepth 100000 in
theorem c_X4_yearPercent {l : Launch} {E : Ev} (hN : 311 ≤ eN E) {p1 : Int32} {μ : Mm} {r : Int32} {μ' : Mm} (z0 : F_X4_yearPercent p1 μ = some (r, μ')) : Ct l E yX4_yearPercent (Cond.code yX4_yearPercent cX4_yearPercent 2 (some .int) :: GW) rm_X4_yearPercent [.ref (eB E + 295), .int p1] μ (some (.int r)) μ' := by
  refine ct_of (by decide) (Nat.le_of_ble_eq_true rfl) (fun p e s m args below meth c C hr => ?_)
  have C : Cq E p s m args meth c cX4_yearPercent 2 RX4 := C
  refine gq_lv (lv' := [(0, .ref (eB E + 295)), (1, .int p1)]) rfl ?_
  unfold F_X4_yearPercent at z0
  refine gq_aload_n C dX4_yearPercent_0 rfl 0 rfl ?_
  refine gq_iload_n C dX4_yearPercent_1 rfl 1 rfl ?_
  obtain ⟨x1, z2, z3⟩ := bind_ex z0
  refine gq_join (k' := 0) (n' := 0) (pc' := 10) (lv' := [(0, .ref (eB E + 295)), (1, .int p1)]) (st' := [.int x1, .ref (eB E + 295)]) (μ' := μ) ?_ (fun J10 => ?_)
  · obtain ⟨m7, em7, z8⟩ := bind_ex z3
    refine gq_put5_0 C (qn_m 295 (by decide) hN) (by decide) wk_6_162 (Option.some.inj em7).symm dX4_yearPercent_10 ?_
    refine gq_aload_n C dX4_yearPercent_13 rfl 0 rfl ?_
    refine gq_get5 C (qn_m 295 (by decide) hN) (by decide) 0 (by decide) wk_6_162 rfl dX4_yearPercent_14 ?_
    rcases ite_ex z8 with ⟨c9, z10⟩ | ⟨c9, z10⟩
    · refine gq_if_le_t (tgt := 24) C dX4_yearPercent_17 (by decide) c9 ?_
      refine gq_aload_n C dX4_yearPercent_24 rfl 0 rfl ?_
      refine gq_iload_n C dX4_yearPercent_25 rfl 1 rfl ?_
      obtain ⟨x13, eo12, z11⟩ := bind_ex z10
      refine gq_V (As := [.int p1]) (rest := []) (j := 5) C (c_X4_percentOf hN  eo12) (qn_m 295 (by decide) hN) (by decide) (by decide) rfl wk_7_139 wk_7_141 ws_X4_percentOf wk_1_9 wk_7_142 hd_X4_percentOf ⟨(Nat.le_of_ble_eq_true rfl), (Nat.le_of_ble_eq_true rfl)⟩ (Nat.le_of_ble_eq_true rfl) ⟨(Nat.le_of_ble_eq_true rfl), (Nat.le_of_ble_eq_true rfl)⟩ dX4_yearPercent_26 rfl rfl ?_
      cases z11
      exact gq_iret C hr dX4_yearPercent_29 (Nat.le_of_ble_eq_true rfl) (Nat.le_of_ble_eq_true rfl)
    · refine gq_if_le_f (tgt := 24) C dX4_yearPercent_17 (by decide) c9 ?_
      refine gq_iconst (v := 0) C dX4_yearPercent_20 (by decide) ?_
      refine gq_goto (tgt := 29) C dX4_yearPercent_21 (by decide) ?_
      cases z10
      exact gq_iret C hr dX4_yearPercent_29 (Nat.le_of_ble_eq_true rfl) (Nat.le_of_ble_eq_true rfl)
  · rcases ite_ex z2 with ⟨c4, z5⟩ | ⟨c4, z5⟩
    · refine gq_if_lt_t (tgt := 9) C dX4_yearPercent_2 (by decide) c4 ?_
      refine gq_iconst (v := 1) C dX4_yearPercent_9 (by decide) ?_
      cases z5
      exact gq_widen (Nat.le_of_ble_eq_true rfl) (Nat.le_of_ble_eq_true rfl) (gq_sub [0, 1] rfl J10)
    · refine gq_if_lt_f (tgt := 9) C dX4_yearPercent_2 (by decide) c4 ?_
      refine gq_iconst (v := 0) C dX4_yearPercent_5 (by decide) ?_
      refine gq_goto (tgt := 10) C dX4_yearPercent_6 (by decide) ?_
      cases z5
      exact gq_widen (Nat.le_of_ble_eq_true rfl) (Nat.le_of_ble_eq_true rfl) (gq_sub [0, 1] rfl J10)
abbrev rm_X4_reach : Room := { frames := 2, cells := 0, slots := 0, locals := 43 }
def F_X4_reach (p1 : Int32) (p2 : Int32) (μ : Mm) : Option (Int32 × Mm) :=
  (F_X4_isReach p1 μ).bind fun o2 =>
  (if o2 = 0 then
  (some (1 : Int32))
  else
  ((F_X4_inRange p2 (0 : Int32) (2 : Int32) μ).bind fun o10 =>
  if o10 = 0 then
  (some (2 : Int32))
  else
  (some (0 : Int32)))).bind fun o14 =>
  (some (uI μ 295 0 o14)).bind fun m15 =>
  if (m15.1 295 0) ≤ 0 then
  (if p2 = 0 then
  ((aI m15 296 ((8 : Int32) + p1)).bind fun x21 =>
  some (x21, m15))
  else
  (if p2 = (1 : Int32) then
  ((aI m15 296 ((14 : Int32) + p1)).bind fun x25 =>
  some (x25, m15))
  else
  ((aI m15 296 ((20 : Int32) + p1)).bind fun x27 =>
  some (x27, m15))))
  else
  (some ((0 : Int32), m15))
set_option maxHeartbeats 4000000 in
set_option maxRecDepth 100000 in
theorem c_X4_reach {l : Launch} {E : Ev} (hN : 311 ≤ eN E) {p1 : Int32} {p2 : Int32} {μ : Mm} {r : Int32} {μ' : Mm} (z0 : F_X4_reach p1 p2 μ = some (r, μ')) : Ct l E yX4_reach (Cond.code yX4_reach cX4_reach 3 (some .int) :: GW) rm_X4_reach [.ref (eB E + 295), .int p1, .int p2] μ (some (.int r)) μ' := by
  refine ct_of (by decide) (Nat.le_of_ble_eq_true rfl) (fun p e s m args below meth c C hr => ?_)
  have C : Cq E p s m args meth c cX4_reach 3 RX4 := C
  refine gq_lv (lv' := [(0, .ref (eB E + 295)), (1, .int p1), (2, .int p2)]) rfl ?_
  unfold F_X4_reach at z0
  refine gq_aload_n C dX4_reach_0 rfl 0 rfl ?_
  refine gq_aload_n C dX4_reach_1 rfl 0 rfl ?_
  refine gq_iload_n C dX4_reach_2 rfl 1 rfl ?_
  obtain ⟨x3, eo2, z1⟩ := bind_ex z0
  refine gq_V (As := [.int p1]) (rest := [.ref (eB E + 295)]) (j := 5) C (c_X4_isReach hN  eo2) (qn_m 295 (by decide) hN) (by decide) (by decide) rfl wk_7_147 wk_7_149 ws_X4_isReach wk_1_9 wk_7_150 hd_X4_isReach ⟨(Nat.le_of_ble_eq_true rfl), (Nat.le_of_ble_eq_true rfl)⟩ (Nat.le_of_ble_eq_true rfl) ⟨(Nat.le_of_ble_eq_true rfl), (Nat.le_of_ble_eq_true rfl)⟩ dX4_reach_3 rfl rfl ?_
  obtain ⟨x4, z5, z6⟩ := bind_ex z1
  refine gq_join (k' := 0) (n' := 0) (pc' := 27) (lv' := [(0, .ref (eB E + 295)), (1, .int p1), (2, .int p2)]) (st' := [.int x4, .ref (eB E + 295)]) (μ' := μ) ?_ (fun J27 => ?_)
  · obtain ⟨m15, em15, z16⟩ := bind_ex z6
    refine gq_put5_0 C (qn_m 295 (by decide) hN) (by decide) wk_6_162 (Option.some.inj em15).symm dX4_reach_27 ?_
    refine gq_aload_n C dX4_reach_30 rfl 0 rfl ?_
    refine gq_get5 C (qn_m 295 (by decide) hN) (by decide) 0 (by decide) wk_6_162 rfl dX4_reach_31 ?_
    rcases ite_ex z16 with ⟨c17, z18⟩ | ⟨c17, z18⟩
    · refine gq_if_le_t (tgt := 41) C dX4_reach_34 (by decide) c17 ?_
      refine gq_iload_n C dX4_reach_41 rfl 2 rfl ?_
      rcases ite_ex z18 with ⟨c19, z20⟩ | ⟨c19, z20⟩
      · refine gq_if_ne_f (tgt := 57) C dX4_reach_42 (by decide) c19 ?_
        refine gq_aload_n C dX4_reach_45 rfl 0 rfl ?_
        refine gq_get5 C (qn_m 295 (by decide) hN) (by decide) 1 (by decide) wk_6_163 rfl dX4_reach_46 ?_
        refine gq_bipush (v := 8) C dX4_reach_49 (by decide) ?_
        refine gq_iload_n C dX4_reach_51 rfl 1 rfl ?_
        refine gq_iadd C dX4_reach_52 ?_
        obtain ⟨x21, ex21, z22⟩ := bind_ex z20
        refine gq_ialoadI C (qn_m 296 (by decide) hN) (by decide) ex21 dX4_reach_53 ?_
        refine gq_goto (tgt := 83) C dX4_reach_54 (by decide) ?_
        cases z22
        exact gq_iret C hr dX4_reach_83 (Nat.le_of_ble_eq_true rfl) (Nat.le_of_ble_eq_true rfl)
      · refine gq_if_ne_t (tgt := 57) C dX4_reach_42 (by decide) c19 ?_
        refine gq_iload_n C dX4_reach_57 rfl 2 rfl ?_
        refine gq_iconst (v := 1) C dX4_reach_58 (by decide) ?_
        rcases ite_ex z20 with ⟨c23, z24⟩ | ⟨c23, z24⟩
        · refine gq_icmp_ne_f (tgt := 74) C dX4_reach_59 (by decide) c23 ?_
          refine gq_aload_n C dX4_reach_62 rfl 0 rfl ?_
          refine gq_get5 C (qn_m 295 (by decide) hN) (by decide) 1 (by decide) wk_6_163 rfl dX4_reach_63 ?_
          refine gq_bipush (v := 14) C dX4_reach_66 (by decide) ?_
          refine gq_iload_n C dX4_reach_68 rfl 1 rfl ?_
          refine gq_iadd C dX4_reach_69 ?_
          obtain ⟨x25, ex25, z26⟩ := bind_ex z24
          refine gq_ialoadI C (qn_m 296 (by decide) hN) (by decide) ex25 dX4_reach_70 ?_
          refine gq_goto (tgt := 83) C dX4_reach_71 (by decide) ?_
          cases z26
          exact gq_iret C hr dX4_reach_83 (Nat.le_of_ble_eq_true rfl) (Nat.le_of_ble_eq_true rfl)
        · refine gq_icmp_ne_t (tgt := 74) C dX4_reach_59 (by decide) c23 ?_
          refine gq_aload_n C dX4_reach_74 rfl 0 rfl ?_
          refine gq_get5 C (qn_m 295 (by decide) hN) (by decide) 1 (by decide) wk_6_163 rfl dX4_reach_75 ?_
          refine gq_bipush (v := 20) C dX4_reach_78 (by decide) ?_
          refine gq_iload_n C dX4_reach_80 rfl 1 rfl ?_
          refine gq_iadd C dX4_reach_81 ?_
          obtain ⟨x27, ex27, z28⟩ := bind_ex z24
          refine gq_ialoadI C (qn_m 296 (by decide) hN) (by decide) ex27 dX4_reach_82 ?_
          cases z28
          exact gq_iret C hr dX4_reach_83 (Nat.le_of_ble_eq_true rfl) (Nat.le_of_ble_eq_true rfl)
    · refine gq_if_le_f (tgt := 41) C dX4_reach_34 (by decide) c17 ?_
      refine gq_iconst (v := 0) C dX4_reach_37 (by decide) ?_
      refine gq_goto (tgt := 83) C dX4_reach_38 (by decide) ?_
      cases z18
      exact gq_iret C hr dX4_reach_83 (Nat.le_of_ble_eq_true rfl) (Nat.le_of_ble_eq_true rfl)
  · rcases ite_ex z5 with ⟨c7, z8⟩ | ⟨c7, z8⟩
    · refine gq_if_ne_f (tgt := 13) C dX4_reach_6 (by decide) c7 ?_
      refine gq_iconst (v := 1) C dX4_reach_9 (by decide) ?_
      refine gq_goto (tgt := 27) C dX4_reach_10 (by decide) ?_
      cases z8
      exact gq_widen (Nat.le_of_ble_eq_true rfl) (Nat.le_of_ble_eq_true rfl) (gq_sub [0, 1, 2] rfl J27)
    · refine gq_if_ne_t (tgt := 13) C dX4_reach_6 (by decide) c7 ?_
      refine gq_iload_n C dX4_reach_13 rfl 2 rfl ?_
      refine gq_iconst (v := 0) C dX4_reach_14 (by decide) ?_
      refine gq_iconst (v := 2) C dX4_reach_15 (by decide) ?_
      obtain ⟨x11, eo10, z9⟩ := bind_ex z8
      refine gq_S (As := [.int p2, .int (0 : Int32), .int (2 : Int32)]) (rest := [.ref (eB E + 295)]) C (c_X4_inRange hN  eo10) wk_7_50 wk_7_51 wk_1_9 wk_7_52 hd_X4_inRange ⟨(Nat.le_of_ble_eq_true rfl), (Nat.le_of_ble_eq_true rfl)⟩ (Nat.le_of_ble_eq_true rfl) ⟨(Nat.le_of_ble_eq_true rfl), (Nat.le_of_ble_eq_true rfl)⟩ dX4_reach_16 rfl rfl ?_
      rcases ite_ex z9 with ⟨c12, z13⟩ | ⟨c12, z13⟩
      · refine gq_if_ne_f (tgt := 26) C dX4_reach_19 (by decide) c12 ?_
        refine gq_iconst (v := 2) C dX4_reach_22 (by decide) ?_
        refine gq_goto (tgt := 27) C dX4_reach_23 (by decide) ?_
        cases z13
        exact gq_widen (Nat.le_of_ble_eq_true rfl) (Nat.le_of_ble_eq_true rfl) (gq_sub [0, 1, 2] rfl J27)
      · refine gq_if_ne_t (tgt := 26) C dX4_reach_19 (by decide) c12 ?_
        refine gq_iconst (v := 0) C dX4_reach_26 (by decide) ?_
        cases z13
        exact gq_widen (Nat.le_of_ble_eq_true rfl) (Nat.le_of_ble_eq_true rfl) (gq_sub [0, 1, 2] rfl J27)
abbrev rm_X4_comingTo : Room := { frames := 1, cells := 0, slots := 0, locals := 21 }
def F_X4_comingTo (p1 : Int32) (μ : Mm) : Option Int32 :=
  (aI μ 296 ((8 : Int32) + p1)).bind fun x1 =>
  (aI μ 296 (5 : Int32)).bind fun x3 =>
  (aI μ 296 ((36 : Int32) + (x3 - x3 / (12 : Int32) * (12 : Int32)))).bind fun x5 =>
  (aI μ 296 (5 : Int32)).bind fun x7 =>
  (F_X4_percentOf (x7 / (12 : Int32)) μ).bind fun o10 =>
  (aI μ 296 ((20 : Int32) + p1)).bind fun x12 =>
  some (((((x1 * x5) / (100 : Int32)) * o10) / (100 : Int32)) + x12)
set_option maxHeartbeats 4000000 in
set_option maxRecDepth 100000 in
theorem c_X4_comingTo {l : Launch} {E : Ev} (hN : 311 ≤ eN E) {p1 : Int32} {μ : Mm} {r : Int32} (z0 : F_X4_comingTo p1 μ = some r) : Ct l E yX4_comingTo (Cond.code yX4_comingTo cX4_comingTo 3 (some .int) :: GW) rm_X4_comingTo [.ref (eB E + 295), .int p1] μ (some (.int r)) μ := by
  refine ct_of (by decide) (Nat.le_of_ble_eq_true rfl) (fun p e s m args below meth c C hr => ?_)
  have C : Cq E p s m args meth c cX4_comingTo 3 RX4 := C
  refine gq_lv (lv' := [(0, .ref (eB E + 295)), (1, .int p1)]) rfl ?_
  unfold F_X4_comingTo at z0
  refine gq_aload_n C dX4_comingTo_0 rfl 0 rfl ?_
  refine gq_get5 C (qn_m 295 (by decide) hN) (by decide) 1 (by decide) wk_6_163 rfl dX4_comingTo_1 ?_
  refine gq_bipush (v := 8) C dX4_comingTo_4 (by decide) ?_
  refine gq_iload_n C dX4_comingTo_6 rfl 1 rfl ?_
  refine gq_iadd C dX4_comingTo_7 ?_
  obtain ⟨x1, ex1, z2⟩ := bind_ex z0
  refine gq_ialoadI C (qn_m 296 (by decide) hN) (by decide) ex1 dX4_comingTo_8 ?_
  refine gq_aload_n C dX4_comingTo_9 rfl 0 rfl ?_
  refine gq_get5 C (qn_m 295 (by decide) hN) (by decide) 1 (by decide) wk_6_163 rfl dX4_comingTo_10 ?_
  refine gq_bipush (v := 36) C dX4_comingTo_13 (by decide) ?_
  refine gq_aload_n C dX4_comingTo_15 rfl 0 rfl ?_
  refine gq_get5 C (qn_m 295 (by decide) hN) (by decide) 1 (by decide) wk_6_163 rfl dX4_comingTo_16 ?_
  refine gq_iconst (v := 5) C dX4_comingTo_19 (by decide) ?_
  obtain ⟨x3, ex3, z4⟩ := bind_ex z2
  refine gq_ialoadI C (qn_m 296 (by decide) hN) (by decide) ex3 dX4_comingTo_20 ?_
  refine gq_bipush (v := 12) C dX4_comingTo_21 (by decide) ?_
  refine gq_irem C dX4_comingTo_23 (by decide) ?_
  refine gq_iadd C dX4_comingTo_24 ?_
  obtain ⟨x5, ex5, z6⟩ := bind_ex z4
  refine gq_ialoadI C (qn_m 296 (by decide) hN) (by decide) ex5 dX4_comingTo_25 ?_
  refine gq_imul C dX4_comingTo_26 ?_
  refine gq_bipush (v := 100) C dX4_comingTo_27 (by decide) ?_
  refine gq_idiv C dX4_comingTo_29 (by decide) ?_
  refine gq_istore_n (lv' := [(2, .int ((x1 * x5) / (100 : Int32))), (0, .ref (eB E + 295)), (1, .int p1)]) C dX4_comingTo_30 rfl (by decide) rfl ?_
  refine gq_iload_n C dX4_comingTo_31 rfl 0 rfl ?_
  refine gq_aload_n C dX4_comingTo_32 rfl 1 rfl ?_
  refine gq_aload_n C dX4_comingTo_33 rfl 1 rfl ?_
  refine gq_get5 C (qn_m 295 (by decide) hN) (by decide) 1 (by decide) wk_6_163 rfl dX4_comingTo_34 ?_
  refine gq_iconst (v := 5) C dX4_comingTo_37 (by decide) ?_
  obtain ⟨x7, ex7, z8⟩ := bind_ex z6
  refine gq_ialoadI C (qn_m 296 (by decide) hN) (by decide) ex7 dX4_comingTo_38 ?_
  refine gq_bipush (v := 12) C dX4_comingTo_39 (by decide) ?_
  refine gq_idiv C dX4_comingTo_41 (by decide) ?_
  obtain ⟨x11, eo10, z9⟩ := bind_ex z8
  refine gq_V (As := [.int (x7 / (12 : Int32))]) (rest := [.int ((x1 * x5) / (100 : Int32))]) (j := 5) C (c_X4_percentOf hN  eo10) (qn_m 295 (by decide) hN) (by decide) (by decide) rfl wk_7_139 wk_7_141 ws_X4_percentOf wk_1_9 wk_7_142 hd_X4_percentOf ⟨(Nat.le_of_ble_eq_true rfl), (Nat.le_of_ble_eq_true rfl)⟩ (Nat.le_of_ble_eq_true rfl) ⟨(Nat.le_of_ble_eq_true rfl), (Nat.le_of_ble_eq_true rfl)⟩ dX4_comingTo_42 rfl rfl ?_
  refine gq_imul C dX4_comingTo_45 ?_
  refine gq_bipush (v := 100) C dX4_comingTo_46 (by decide) ?_
  refine gq_idiv C dX4_comingTo_48 (by decide) ?_
  refine gq_aload_n C dX4_comingTo_49 rfl 1 rfl ?_
  refine gq_get5 C (qn_m 295 (by decide) hN) (by decide) 1 (by decide) wk_6_163 rfl dX4_comingTo_50 ?_
  refine gq_bipush (v := 20) C dX4_comingTo_53 (by decide) ?_
  refine gq_iload_n C dX4_comingTo_55 rfl 2 rfl ?_
  refine gq_iadd C dX4_comingTo_56 ?_
  obtain ⟨x12, ex12, z13⟩ := bind_ex z9
  refine gq_ialoadI C (qn_m 296 (by decide) hN) (by decide) ex12 dX4_comingTo_57 ?_
  refine gq_iadd C dX4_comingTo_58 ?_
  cases z13
  exact gq_iret C hr dX4_comingTo_59 (Nat.le_of_ble_eq_true rfl) (Nat.le_of_ble_eq_true rfl)
abbrev rm_X4_coming : Room := { frames := 2, cells := 0, slots := 0, locals := 43 }
def F_X4_coming (p1 : Int32) (μ : Mm) : Option (Int32 × Mm) :=
  (F_X4_isReach p1 μ).bind fun o2 =>
  (if o2 = 0 then
  (some (1 : Int32))
  else
  (some (0 : Int32))).bind fun o9 =>
  (some (uI μ 295 0 o9)).bind fun m10 =>
  if (m10.1 295 0) ≤ 0 then
  ((F_X4_comingTo p1 m10).bind fun o15 =>
  some (o15, m10))
  else
  (some ((0 : Int32), m10))
set_option maxHeartbeats 4000000 in
set_option maxRecDepth 100000 in
theorem c_X4_coming {l : Launch} {E : Ev} (hN : 311 ≤ eN E) {p1 : Int32} {μ : Mm} {r : Int32} {μ' : Mm} (z0 : F_X4_coming p1 μ = some (r, μ')) : Ct l E yX4_coming (Cond.code yX4_coming cX4_coming 2 (some .int) :: GW) rm_X4_coming [.ref (eB E + 295), .int p1] μ (some (.int r)) μ' := by
  refine ct_of (by decide) (Nat.le_of_ble_eq_true rfl) (fun p e s m args below meth c C hr => ?_)
  have C : Cq E p s m args meth c cX4_coming 2 RX4 := C
  refine gq_lv (lv' := [(0, .ref (eB E + 295)), (1, .int p1)]) rfl ?_
  unfold F_X4_coming at z0
  refine gq_aload_n C dX4_coming_0 rfl 0 rfl ?_
  refine gq_aload_n C dX4_coming_1 rfl 0 rfl ?_
  refine gq_iload_n C dX4_coming_2 rfl 1 rfl ?_
  obtain ⟨x3, eo2, z1⟩ := bind_ex z0
  refine gq_V (As := [.int p1]) (rest := [.ref (eB E + 295)]) (j := 5) C (c_X4_isReach hN  eo2) (qn_m 295 (by decide) hN) (by decide) (by decide) rfl wk_7_147 wk_7_149 ws_X4_isReach wk_1_9 wk_7_150 hd_X4_isReach ⟨(Nat.le_of_ble_eq_true rfl), (Nat.le_of_ble_eq_true rfl)⟩ (Nat.le_of_ble_eq_true rfl) ⟨(Nat.le_of_ble_eq_true rfl), (Nat.le_of_ble_eq_true rfl)⟩ dX4_coming_3 rfl rfl ?_
  obtain ⟨x4, z5, z6⟩ := bind_ex z1
  refine gq_join (k' := 0) (n' := 0) (pc' := 14) (lv' := [(0, .ref (eB E + 295)), (1, .int p1)]) (st' := [.int x4, .ref (eB E + 295)]) (μ' := μ) ?_ (fun J14 => ?_)
  · obtain ⟨m10, em10, z11⟩ := bind_ex z6
    refine gq_put5_0 C (qn_m 295 (by decide) hN) (by decide) wk_6_162 (Option.some.inj em10).symm dX4_coming_14 ?_
    refine gq_aload_n C dX4_coming_17 rfl 0 rfl ?_
    refine gq_get5 C (qn_m 295 (by decide) hN) (by decide) 0 (by decide) wk_6_162 rfl dX4_coming_18 ?_
    rcases ite_ex z11 with ⟨c12, z13⟩ | ⟨c12, z13⟩
    · refine gq_if_le_t (tgt := 28) C dX4_coming_21 (by decide) c12 ?_
      refine gq_aload_n C dX4_coming_28 rfl 0 rfl ?_
      refine gq_iload_n C dX4_coming_29 rfl 1 rfl ?_
      obtain ⟨x16, eo15, z14⟩ := bind_ex z13
      refine gq_V (As := [.int p1]) (rest := []) (j := 5) C (c_X4_comingTo hN  eo15) (qn_m 295 (by decide) hN) (by decide) (by decide) rfl wk_7_155 wk_7_157 ws_X4_comingTo wk_1_9 wk_7_158 hd_X4_comingTo ⟨(Nat.le_of_ble_eq_true rfl), (Nat.le_of_ble_eq_true rfl)⟩ (Nat.le_of_ble_eq_true rfl) ⟨(Nat.le_of_ble_eq_true rfl), (Nat.le_of_ble_eq_true rfl)⟩ dX4_coming_30 rfl rfl ?_
      cases z14
      exact gq_iret C hr dX4_coming_33 (Nat.le_of_ble_eq_true rfl) (Nat.le_of_ble_eq_true rfl)
    · refine gq_if_le_f (tgt := 28) C dX4_coming_21 (by decide) c12 ?_
      refine gq_iconst (v := 0) C dX4_coming_24 (by decide) ?_
      refine gq_goto (tgt := 33) C dX4_coming_25 (by decide) ?_
      cases z13
      exact gq_iret C hr dX4_coming_33 (Nat.le_of_ble_eq_true rfl) (Nat.le_of_ble_eq_true rfl)
  · rcases ite_ex z5 with ⟨c7, z8⟩ | ⟨c7, z8⟩
    · refine gq_if_eq_t (tgt := 13) C dX4_coming_6 (by decide) c7 ?_
      refine gq_iconst (v := 1) C dX4_coming_13 (by decide) ?_
      cases z8
      exact gq_widen (Nat.le_of_ble_eq_true rfl) (Nat.le_of_ble_eq_true rfl) (gq_sub [0, 1] rfl J14)
    · refine gq_if_eq_f (tgt := 13) C dX4_coming_6 (by decide) c7 ?_
      refine gq_iconst (v := 0) C dX4_coming_9 (by decide) ?_
      refine gq_goto (tgt := 14) C dX4_coming_10 (by decide) ?_
      cases z8
      exact gq_widen (Nat.le_of_ble_eq_true rfl) (Nat.le_of_ble_eq_true rfl) (gq_sub [0, 1] rfl J14)
abbrev rm_X4_balance : Room := { frames := 2, cells := 0, slots := 0, locals := 43 }
def F_X4_balance (p1 : Int32) (μ : Mm) : Option (Int64 × Mm) :=
  (F_X4_isAccount p1 μ).bind fun o2 =>
  (if o2 = 0 then
  (some (1 : Int32))
  else
  (some (0 : Int32))).bind fun o9 =>
  (some (uI μ 295 0 o9)).bind fun m10 =>
  if (m10.1 295 0) ≤ 0 then
  ((aL m10 300 p1).bind fun x14 =>
  some (x14, m10))
  else
  (some ((0 : Int64), m10))
set_option maxHeartbeats 4000000 in
set_option maxRecDepth 100000 in
theorem c_X4_balance {l : Launch} {E : Ev} (hN : 311 ≤ eN E) {p1 : Int32} {μ : Mm} {r : Int64} {μ' : Mm} (z0 : F_X4_balance p1 μ = some (r, μ')) : Ct l E yX4_balance (Cond.code yX4_balance cX4_balance 2 (some .long) :: GW) rm_X4_balance [.ref (eB E + 295), .int p1] μ (some (.long r)) μ' := by
  refine ct_of (by decide) (Nat.le_of_ble_eq_true rfl) (fun p e s m args below meth c C hr => ?_)
  have C : Cq E p s m args meth c cX4_balance 2 RX4 := C
  refine gq_lv (lv' := [(0, .ref (eB E + 295)), (1, .int p1)]) rfl ?_
  unfold F_X4_balance at z0
  refine gq_aload_n C dX4_balance_0 rfl 0 rfl ?_
  refine gq_aload_n C dX4_balance_1 rfl 0 rfl ?_
  refine gq_iload_n C dX4_balance_2 rfl 1 rfl ?_
  obtain ⟨x3, eo2, z1⟩ := bind_ex z0
  refine gq_V (As := [.int p1]) (rest := [.ref (eB E + 295)]) (j := 5) C (c_X4_isAccount hN  eo2) (qn_m 295 (by decide) hN) (by decide) (by decide) rfl wk_7_163 wk_7_165 ws_X4_isAccount wk_1_9 wk_7_166 hd_X4_isAccount ⟨(Nat.le_of_ble_eq_true rfl), (Nat.le_of_ble_eq_true rfl)⟩ (Nat.le_of_ble_eq_true rfl) ⟨(Nat.le_of_ble_eq_true rfl), (Nat.le_of_ble_eq_true rfl)⟩ dX4_balance_3 rfl rfl ?_
  obtain ⟨x4, z5, z6⟩ := bind_ex z1
  refine gq_join (k' := 0) (n' := 0) (pc' := 14) (lv' := [(0, .ref (eB E + 295)), (1, .int p1)]) (st' := [.int x4, .ref (eB E + 295)]) (μ' := μ) ?_ (fun J14 => ?_)
  · obtain ⟨m10, em10, z11⟩ := bind_ex z6
    refine gq_put5_0 C (qn_m 295 (by decide) hN) (by decide) wk_6_162 (Option.some.inj em10).symm dX4_balance_14 ?_
    refine gq_aload_n C dX4_balance_17 rfl 0 rfl ?_
    refine gq_get5 C (qn_m 295 (by decide) hN) (by decide) 0 (by decide) wk_6_162 rfl dX4_balance_18 ?_
    rcases ite_ex z11 with ⟨c12, z13⟩ | ⟨c12, z13⟩
    · refine gq_if_le_t (tgt := 28) C dX4_balance_21 (by decide) c12 ?_
      refine gq_aload_n C dX4_balance_28 rfl 0 rfl ?_
      refine gq_get5 C (qn_m 295 (by decide) hN) (by decide) 5 (by decide) wk_6_167 rfl dX4_balance_29 ?_
      refine gq_iload_n C dX4_balance_32 rfl 1 rfl ?_
      obtain ⟨x14, ex14, z15⟩ := bind_ex z13
      refine gq_laloadL C (qn_m 300 (by decide) hN) (by decide) ex14 dX4_balance_33 ?_
      cases z15
      exact gq_lret C hr dX4_balance_34 (Nat.le_of_ble_eq_true rfl) (Nat.le_of_ble_eq_true rfl)
    · refine gq_if_le_f (tgt := 28) C dX4_balance_21 (by decide) c12 ?_
      refine gq_lconst (v := 0) C dX4_balance_24 (by decide) ?_
      refine gq_goto (tgt := 34) C dX4_balance_25 (by decide) ?_
      cases z13
      exact gq_lret C hr dX4_balance_34 (Nat.le_of_ble_eq_true rfl) (Nat.le_of_ble_eq_true rfl)
  · rcases ite_ex z5 with ⟨c7, z8⟩ | ⟨c7, z8⟩
    · refine gq_if_eq_t (tgt := 13) C dX4_balance_6 (by decide) c7 ?_
      refine gq_iconst (v := 1) C dX4_balance_13 (by decide) ?_
      cases z8
      exact gq_widen (Nat.le_of_ble_eq_true rfl) (Nat.le_of_ble_eq_true rfl) (gq_sub [0, 1] rfl J14)
    · refine gq_if_eq_f (tgt := 13) C dX4_balance_6 (by decide) c7 ?_
      refine gq_iconst (v := 0) C dX4_balance_9 (by decide) ?_
      refine gq_goto (tgt := 14) C dX4_balance_10 (by decide) ?_
      cases z8
      exact gq_widen (Nat.le_of_ble_eq_true rfl) (Nat.le_of_ble_eq_true rfl) (gq_sub [0, 1] rfl J14)
abbrev rm_X4_bank : Room := { frames := 2, cells := 0, slots := 0, locals := 43 }
def F_X4_bank (p1 : Int32) (μ : Mm) : Option (Int32 × Mm) :=
  (F_X4_isAccount p1 μ).bind fun o2 =>
  (if o2 = 0 then
  (some (1 : Int32))
  else
  (some (0 : Int32))).bind fun o9 =>
  (some (uI μ 295 0 o9)).bind fun m10 =>
  if (m10.1 295 0) ≤ 0 then
  ((aI m10 296 ((26 : Int32) + p1)).bind fun x14 =>
  some (x14, m10))
  else
  (some ((0 : Int32), m10))
set_option maxHeartbeats 4000000 in
set_option maxRecDepth 100000 in
theorem c_X4_bank {l : Launch} {E : Ev} (hN : 311 ≤ eN E) {p1 : Int32} {μ : Mm} {r : Int32} {μ' : Mm} (z0 : F_X4_bank p1 μ = some (r, μ')) : Ct l E yX4_bank (Cond.code yX4_bank cX4_bank 2 (some .int) :: GW) rm_X4_bank [.ref (eB E + 295), .int p1] μ (some (.int r)) μ' := by
  refine ct_of (by decide) (Nat.le_of_ble_eq_true rfl) (fun p e s m args below meth c C hr => ?_)
  have C : Cq E p s m args meth c cX4_bank 2 RX4 := C
  refine gq_lv (lv' := [(0, .ref (eB E + 295)), (1, .int p1)]) rfl ?_
  unfold F_X4_bank at z0
  refine gq_aload_n C dX4_bank_0 rfl 0 rfl ?_
  refine gq_aload_n C dX4_bank_1 rfl 0 rfl ?_
  refine gq_iload_n C dX4_bank_2 rfl 1 rfl ?_
  obtain ⟨x3, eo2, z1⟩ := bind_ex z0
  refine gq_V (As := [.int p1]) (rest := [.ref (eB E + 295)]) (j := 5) C (c_X4_isAccount hN  eo2) (qn_m 295 (by decide) hN) (by decide) (by decide) rfl wk_7_163 wk_7_165 ws_X4_isAccount wk_1_9 wk_7_166 hd_X4_isAccount ⟨(Nat.le_of_ble_eq_true rfl), (Nat.le_of_ble_eq_true rfl)⟩ (Nat.le_of_ble_eq_true rfl) ⟨(Nat.le_of_ble_eq_true rfl), (Nat.le_of_ble_eq_true rfl)⟩ dX4_bank_3 rfl rfl ?_
  obtain ⟨x4, z5, z6⟩ := bind_ex z1
  refine gq_join (k' := 0) (n' := 0) (pc' := 14) (lv' := [(0, .ref (eB E + 295)), (1, .int p1)]) (st' := [.int x4, .ref (eB E + 295)]) (μ' := μ) ?_ (fun J14 => ?_)
  · obtain ⟨m10, em10, z11⟩ := bind_ex z6
    refine gq_put5_0 C (qn_m 295 (by decide) hN) (by decide) wk_6_162 (Option.some.inj em10).symm dX4_bank_14 ?_
    refine gq_aload_n C dX4_bank_17 rfl 0 rfl ?_
    refine gq_get5 C (qn_m 295 (by decide) hN) (by decide) 0 (by decide) wk_6_162 rfl dX4_bank_18 ?_
    rcases ite_ex z11 with ⟨c12, z13⟩ | ⟨c12, z13⟩
    · refine gq_if_le_t (tgt := 28) C dX4_bank_21 (by decide) c12 ?_
      refine gq_aload_n C dX4_bank_28 rfl 0 rfl ?_
      refine gq_get5 C (qn_m 295 (by decide) hN) (by decide) 1 (by decide) wk_6_163 rfl dX4_bank_29 ?_
      refine gq_bipush (v := 26) C dX4_bank_32 (by decide) ?_
      refine gq_iload_n C dX4_bank_34 rfl 1 rfl ?_
      refine gq_iadd C dX4_bank_35 ?_
      obtain ⟨x14, ex14, z15⟩ := bind_ex z13
      refine gq_ialoadI C (qn_m 296 (by decide) hN) (by decide) ex14 dX4_bank_36 ?_
      cases z15
      exact gq_iret C hr dX4_bank_37 (Nat.le_of_ble_eq_true rfl) (Nat.le_of_ble_eq_true rfl)
    · refine gq_if_le_f (tgt := 28) C dX4_bank_21 (by decide) c12 ?_
      refine gq_iconst (v := 0) C dX4_bank_24 (by decide) ?_
      refine gq_goto (tgt := 37) C dX4_bank_25 (by decide) ?_
      cases z13
      exact gq_iret C hr dX4_bank_37 (Nat.le_of_ble_eq_true rfl) (Nat.le_of_ble_eq_true rfl)
  · rcases ite_ex z5 with ⟨c7, z8⟩ | ⟨c7, z8⟩
    · refine gq_if_eq_t (tgt := 13) C dX4_bank_6 (by decide) c7 ?_
      refine gq_iconst (v := 1) C dX4_bank_13 (by decide) ?_
      cases z8
      exact gq_widen (Nat.le_of_ble_eq_true rfl) (Nat.le_of_ble_eq_true rfl) (gq_sub [0, 1] rfl J14)
    · refine gq_if_eq_f (tgt := 13) C dX4_bank_6 (by decide) c7 ?_
      refine gq_iconst (v := 0) C dX4_bank_9 (by decide) ?_
      refine gq_goto (tgt := 14) C dX4_bank_10 (by decide) ?_
      cases z8
      exact gq_widen (Nat.le_of_ble_eq_true rfl) (Nat.le_of_ble_eq_true rfl) (gq_sub [0, 1] rfl J14)
abbrev rm_X4_right : Room := { frames := 2, cells := 0, slots := 0, locals := 43 }
def F_X4_right (p1 : Int32) (p2 : Int32) (μ : Mm) : Option (Int32 × Mm) :=
  (F_X4_isRight p1 μ).bind fun o2 =>
  (if o2 = 0 then
  (some (1 : Int32))
  else
  ((F_X4_inRange p2 (0 : Int32) (9 : Int32) μ).bind fun o10 =>
  if o10 = 0 then
  (some (2 : Int32))
  else
  (some (0 : Int32)))).bind fun o14 =>
  (some (uI μ 295 0 o14)).bind fun m15 =>
  if (m15.1 295 0) ≤ 0 then
  ((F_X4_rightOf p1 p2 m15).bind fun o20 =>
  some (o20, m15))
  else
  (some ((0 : Int32), m15))
set_option maxHeartbeats 4000000 in
set_option maxRecDepth 100000 in
theorem c_X4_right {l : Launch} {E : Ev} (hN : 311 ≤ eN E) {p1 : Int32} {p2 : Int32} {μ : Mm} {r : Int32} {μ' : Mm} (z0 : F_X4_right p1 p2 μ = some (r, μ')) : Ct l E yX4_right (Cond.code yX4_right cX4_right 3 (some .int) :: GW) rm_X4_right [.ref (eB E + 295), .int p1, .int p2] μ (some (.int r)) μ' := by
  refine ct_of (by decide) (Nat.le_of_ble_eq_true rfl) (fun p e s m args below meth c C hr => ?_)
  have C : Cq E p s m args meth c cX4_right 3 RX4 := C
  refine gq_lv (lv' := [(0, .ref (eB E + 295)), (1, .int p1), (2, .int p2)]) rfl ?_
  unfold F_X4_right at z0
  refine gq_aload_n C dX4_right_0 rfl 0 rfl ?_
  refine gq_aload_n C dX4_right_1 rfl 0 rfl ?_
  refine gq_iload_n C dX4_right_2 rfl 1 rfl ?_
  obtain ⟨x3, eo2, z1⟩ := bind_ex z0
  refine gq_V (As := [.int p1]) (rest := [.ref (eB E + 295)]) (j := 5) C (c_X4_isRight hN  eo2) (qn_m 295 (by decide) hN) (by decide) (by decide) rfl wk_7_175 wk_7_177 ws_X4_isRight wk_1_9 wk_7_178 hd_X4_isRight ⟨(Nat.le_of_ble_eq_true rfl), (Nat.le_of_ble_eq_true rfl)⟩ (Nat.le_of_ble_eq_true rfl) ⟨(Nat.le_of_ble_eq_true rfl), (Nat.le_of_ble_eq_true rfl)⟩ dX4_right_3 rfl rfl ?_
  obtain ⟨x4, z5, z6⟩ := bind_ex z1
  refine gq_join (k' := 0) (n' := 0) (pc' := 28) (lv' := [(0, .ref (eB E + 295)), (1, .int p1), (2, .int p2)]) (st' := [.int x4, .ref (eB E + 295)]) (μ' := μ) ?_ (fun J28 => ?_)
  · obtain ⟨m15, em15, z16⟩ := bind_ex z6
    refine gq_put5_0 C (qn_m 295 (by decide) hN) (by decide) wk_6_162 (Option.some.inj em15).symm dX4_right_28 ?_
    refine gq_aload_n C dX4_right_31 rfl 0 rfl ?_
    refine gq_get5 C (qn_m 295 (by decide) hN) (by decide) 0 (by decide) wk_6_162 rfl dX4_right_32 ?_
    rcases ite_ex z16 with ⟨c17, z18⟩ | ⟨c17, z18⟩
    · refine gq_if_le_t (tgt := 42) C dX4_right_35 (by decide) c17 ?_
      refine gq_aload_n C dX4_right_42 rfl 0 rfl ?_
      refine gq_iload_n C dX4_right_43 rfl 1 rfl ?_
      refine gq_iload_n C dX4_right_44 rfl 2 rfl ?_
      obtain ⟨x21, eo20, z19⟩ := bind_ex z18
      refine gq_V (As := [.int p1, .int p2]) (rest := []) (j := 5) C (c_X4_rightOf hN  eo20) (qn_m 295 (by decide) hN) (by decide) (by decide) rfl wk_7_179 wk_7_181 ws_X4_rightOf wk_1_9 wk_7_182 hd_X4_rightOf ⟨(Nat.le_of_ble_eq_true rfl), (Nat.le_of_ble_eq_true rfl)⟩ (Nat.le_of_ble_eq_true rfl) ⟨(Nat.le_of_ble_eq_true rfl), (Nat.le_of_ble_eq_true rfl)⟩ dX4_right_45 rfl rfl ?_
      cases z19
      exact gq_iret C hr dX4_right_48 (Nat.le_of_ble_eq_true rfl) (Nat.le_of_ble_eq_true rfl)
    · refine gq_if_le_f (tgt := 42) C dX4_right_35 (by decide) c17 ?_
      refine gq_iconst (v := 0) C dX4_right_38 (by decide) ?_
      refine gq_goto (tgt := 48) C dX4_right_39 (by decide) ?_
      cases z18
      exact gq_iret C hr dX4_right_48 (Nat.le_of_ble_eq_true rfl) (Nat.le_of_ble_eq_true rfl)
  · rcases ite_ex z5 with ⟨c7, z8⟩ | ⟨c7, z8⟩
    · refine gq_if_ne_f (tgt := 13) C dX4_right_6 (by decide) c7 ?_
      refine gq_iconst (v := 1) C dX4_right_9 (by decide) ?_
      refine gq_goto (tgt := 28) C dX4_right_10 (by decide) ?_
      cases z8
      exact gq_widen (Nat.le_of_ble_eq_true rfl) (Nat.le_of_ble_eq_true rfl) (gq_sub [0, 1, 2] rfl J28)
    · refine gq_if_ne_t (tgt := 13) C dX4_right_6 (by decide) c7 ?_
      refine gq_iload_n C dX4_right_13 rfl 2 rfl ?_
      refine gq_iconst (v := 0) C dX4_right_14 (by decide) ?_
      refine gq_bipush (v := 9) C dX4_right_15 (by decide) ?_
      obtain ⟨x11, eo10, z9⟩ := bind_ex z8
      refine gq_S (As := [.int p2, .int (0 : Int32), .int (9 : Int32)]) (rest := [.ref (eB E + 295)]) C (c_X4_inRange hN  eo10) wk_7_50 wk_7_51 wk_1_9 wk_7_52 hd_X4_inRange ⟨(Nat.le_of_ble_eq_true rfl), (Nat.le_of_ble_eq_true rfl)⟩ (Nat.le_of_ble_eq_true rfl) ⟨(Nat.le_of_ble_eq_true rfl), (Nat.le_of_ble_eq_true rfl)⟩ dX4_right_17 rfl rfl ?_
      rcases ite_ex z9 with ⟨c12, z13⟩ | ⟨c12, z13⟩
      · refine gq_if_ne_f (tgt := 27) C dX4_right_20 (by decide) c12 ?_
        refine gq_iconst (v := 2) C dX4_right_23 (by decide) ?_
        refine gq_goto (tgt := 28) C dX4_right_24 (by decide) ?_
        cases z13
        exact gq_widen (Nat.le_of_ble_eq_true rfl) (Nat.le_of_ble_eq_true rfl) (gq_sub [0, 1, 2] rfl J28)
      · refine gq_if_ne_t (tgt := 27) C dX4_right_20 (by decide) c12 ?_
        refine gq_iconst (v := 0) C dX4_right_27 (by decide) ?_
        cases z13
        exact gq_widen (Nat.le_of_ble_eq_true rfl) (Nat.le_of_ble_eq_true rfl) (gq_sub [0, 1, 2] rfl J28)
abbrev rm_X4_seniorAt : Room := { frames := 2, cells := 0, slots := 0, locals := 43 }
def F_X4_seniorAt_17 (u1 : Int32) (u2 : Int32) (μ : Mm) : Nat → Int32 → Int32 → Option Int32
  | 0, _, _ => none
  | n + 1, v3, v4 =>
  (aI μ 296 (2 : Int32)).bind fun x5 =>
  if x5 ≤ v4 then
  (some v3)
  else
  ((F_X4_rightOf v4 (2 : Int32) μ).bind fun o10 =>
  (F_X4_rightOf u2 (2 : Int32) μ).bind fun o13 =>
  (if o13 ≤ o10 then
  (some (0 : Int32))
  else
  (some (1 : Int32))).bind fun o20 =>
  F_X4_seniorAt_17 u1 u2 μ n (v3 + o20) (v4 + 1))
def F_X4_seniorAt_2 (u1 : Int32) (μ : Mm) : Nat → Int32 → Option Int32
  | 0, _ => none
  | n + 1, v2 =>
  (aI μ 296 (2 : Int32)).bind fun x1 =>
  if x1 ≤ v2 then
  (some (-1 : Int32))
  else
  ((F_X4_seniorAt_17 u1 v2 μ qFuel (0 : Int32) (0 : Int32)).bind fun o22 =>
  if o22 = u1 then
  (some v2)
  else
  (F_X4_seniorAt_2 u1 μ n (v2 + 1)))
def F_X4_seniorAt (p1 : Int32) (μ : Mm) : Option Int32 :=
  F_X4_seniorAt_2 p1 μ qFuel (0 : Int32)
set_option maxHeartbeats 4000000 in
set_option maxRecDepth 100000 in
theorem l_X4_seniorAt_17 {l : Launch} {E : Ev} (hN : 311 ≤ eN E) {p : Program} {e : Env} {s : State} {m : MethodId} {args : Array Value} {below : List Frame} {meth : Method} {c : Code} (C : Cq E p s m args meth c cX4_seniorAt 5 RX4) {Q : State → Prop} {u1 : Int32} {u2 : Int32} {μ : Mm} : ∀ (n : Nat) (v3 : Int32) (v4 : Int32) (w3 : Int32), F_X4_seniorAt_17 u1 u2 μ n v3 v4 = some w3 → Gq E p l e rm_X4_seniorAt s m args below meth c 0 0 5 Q 58 [(0, .ref (eB E + 295)), (1, .int u1), (2, .int u2), (3, .int w3)] [] μ → Gq E p l e rm_X4_seniorAt s m args below meth c 0 0 5 Q 17 [(0, .ref (eB E + 295)), (1, .int u1), (2, .int u2), (3, .int v3), (4, .int v4)] [] μ := by
  intro n
  induction n with
  | zero =>
    intro v3 v4 w3 z0 kk
    rw [F_X4_seniorAt_17] at z0
    cases z0
  | succ n ih =>
    intro v3 v4 w3 z0 kk
    rw [F_X4_seniorAt_17] at z0
    refine gq_iload C dX4_seniorAt_17 4 rfl ?_
    refine gq_aload_n C dX4_seniorAt_19 rfl 0 rfl ?_
    refine gq_get5 C (qn_m 295 (by decide) hN) (by decide) 1 (by decide) wk_6_163 rfl dX4_seniorAt_20 ?_
    refine gq_iconst (v := 2) C dX4_seniorAt_23 (by decide) ?_
    obtain ⟨x5, ex5, z6⟩ := bind_ex z0
    refine gq_ialoadI C (qn_m 296 (by decide) hN) (by decide) ex5 dX4_seniorAt_24 ?_
    rcases ite_ex z6 with ⟨c7, z8⟩ | ⟨c7, z8⟩
    · refine gq_icmp_ge_t (tgt := 58) C dX4_seniorAt_25 (by decide) c7 ?_
      cases z8
      exact gq_widen (Nat.le_of_ble_eq_true rfl) (Nat.le_of_ble_eq_true rfl) (gq_sub [0, 1, 2, 3] rfl kk)
    · refine gq_icmp_ge_f (tgt := 58) C dX4_seniorAt_25 (by decide) c7 ?_
      refine gq_iload_n C dX4_seniorAt_28 rfl 3 rfl ?_
      refine gq_aload_n C dX4_seniorAt_29 rfl 0 rfl ?_
      refine gq_iload C dX4_seniorAt_30 4 rfl ?_
      refine gq_iconst (v := 2) C dX4_seniorAt_32 (by decide) ?_
      obtain ⟨x11, eo10, z9⟩ := bind_ex z8
      refine gq_V (As := [.int v4, .int (2 : Int32)]) (rest := [.int v3]) (j := 5) C (c_X4_rightOf hN  eo10) (qn_m 295 (by decide) hN) (by decide) (by decide) rfl wk_7_179 wk_7_181 ws_X4_rightOf wk_1_9 wk_7_182 hd_X4_rightOf ⟨(Nat.le_of_ble_eq_true rfl), (Nat.le_of_ble_eq_true rfl)⟩ (Nat.le_of_ble_eq_true rfl) ⟨(Nat.le_of_ble_eq_true rfl), (Nat.le_of_ble_eq_true rfl)⟩ dX4_seniorAt_33 rfl rfl ?_
      refine gq_aload_n C dX4_seniorAt_36 rfl 0 rfl ?_
      refine gq_iload_n C dX4_seniorAt_37 rfl 2 rfl ?_
      refine gq_iconst (v := 2) C dX4_seniorAt_38 (by decide) ?_
      obtain ⟨x14, eo13, z12⟩ := bind_ex z9
      refine gq_V (As := [.int u2, .int (2 : Int32)]) (rest := [.int x11, .int v3]) (j := 5) C (c_X4_rightOf hN  eo13) (qn_m 295 (by decide) hN) (by decide) (by decide) rfl wk_7_179 wk_7_181 ws_X4_rightOf wk_1_9 wk_7_182 hd_X4_rightOf ⟨(Nat.le_of_ble_eq_true rfl), (Nat.le_of_ble_eq_true rfl)⟩ (Nat.le_of_ble_eq_true rfl) ⟨(Nat.le_of_ble_eq_true rfl), (Nat.le_of_ble_eq_true rfl)⟩ dX4_seniorAt_39 rfl rfl ?_
      obtain ⟨x15, z16, z17⟩ := bind_ex z12
      refine gq_join (k' := 0) (n' := 0) (pc' := 50) (lv' := [(0, .ref (eB E + 295)), (1, .int u1), (2, .int u2), (4, .int v4)]) (st' := [.int x15, .int v3]) (μ' := μ) ?_ (fun J50 => ?_)
      · refine gq_iadd C dX4_seniorAt_50 ?_
        refine gq_istore_n (lv' := [(3, .int (v3 + x15)), (0, .ref (eB E + 295)), (1, .int u1), (2, .int u2), (4, .int v4)]) C dX4_seniorAt_51 rfl (by decide) rfl ?_
        refine gq_iinc (v := (v4 + 1)) (lv' := [(4, .int (v4 + 1)), (3, .int (v3 + x15)), (0, .ref (eB E + 295)), (1, .int u1), (2, .int u2)]) (q := 4) C dX4_seniorAt_52 rfl rfl (by decide) rfl ?_
        refine gq_goto (tgt := 17) C dX4_seniorAt_55 (by decide) ?_
        refine gq_widen (k' := 0) (n' := 0) (Nat.le_of_ble_eq_true rfl) (Nat.le_of_ble_eq_true rfl) (gq_sub [2, 3, 4, 1, 0] rfl ?_)
        exact ih _ _ _ z17 kk
      · rcases ite_ex z16 with ⟨c18, z19⟩ | ⟨c18, z19⟩
        · refine gq_icmp_ge_t (tgt := 49) C dX4_seniorAt_42 (by decide) c18 ?_
          refine gq_iconst (v := 0) C dX4_seniorAt_49 (by decide) ?_
          cases z19
          exact gq_widen (Nat.le_of_ble_eq_true rfl) (Nat.le_of_ble_eq_true rfl) (gq_sub [0, 1, 2, 4] rfl J50)
        · refine gq_icmp_ge_f (tgt := 49) C dX4_seniorAt_42 (by decide) c18 ?_
          refine gq_iconst (v := 1) C dX4_seniorAt_45 (by decide) ?_
          refine gq_goto (tgt := 50) C dX4_seniorAt_46 (by decide) ?_
          cases z19
          exact gq_widen (Nat.le_of_ble_eq_true rfl) (Nat.le_of_ble_eq_true rfl) (gq_sub [0, 1, 2, 4] rfl J50)
set_option maxHeartbeats 4000000 in
set_option maxRecDepth 100000 in
theorem l_X4_seniorAt_2 {l : Launch} {E : Ev} (hN : 311 ≤ eN E) {p : Program} {e : Env} {s : State} {m : MethodId} {args : Array Value} {below : List Frame} {meth : Method} {c : Code} (C : Cq E p s m args meth c cX4_seniorAt 5 RX4) (hr : meth.sig.returnType = (some .int)) {u1 : Int32} {μ : Mm} : ∀ (n : Nat) (v2 : Int32) (r : Int32), F_X4_seniorAt_2 u1 μ n v2 = some r → Gq E p l e rm_X4_seniorAt s m args below meth c 0 0 5 (MQ below (qQ E (some (.int r)) μ) args s rm_X4_seniorAt.cells rm_X4_seniorAt.slots (eA E)) 2 [(0, .ref (eB E + 295)), (1, .int u1), (2, .int v2)] [] μ := by
  intro n
  induction n with
  | zero =>
    intro v2 r z0
    rw [F_X4_seniorAt_2] at z0
    cases z0
  | succ n ih =>
    intro v2 r z0
    rw [F_X4_seniorAt_2] at z0
    refine gq_iload_n C dX4_seniorAt_2 rfl 2 rfl ?_
    refine gq_aload_n C dX4_seniorAt_3 rfl 0 rfl ?_
    refine gq_get5 C (qn_m 295 (by decide) hN) (by decide) 1 (by decide) wk_6_163 rfl dX4_seniorAt_4 ?_
    refine gq_iconst (v := 2) C dX4_seniorAt_7 (by decide) ?_
    obtain ⟨x1, ex1, z2⟩ := bind_ex z0
    refine gq_ialoadI C (qn_m 296 (by decide) hN) (by decide) ex1 dX4_seniorAt_8 ?_
    rcases ite_ex z2 with ⟨c3, z4⟩ | ⟨c3, z4⟩
    · refine gq_icmp_ge_t (tgt := 71) C dX4_seniorAt_9 (by decide) c3 ?_
      refine gq_iconst (v := -1) C dX4_seniorAt_71 (by decide) ?_
      cases z4
      exact gq_iret C hr dX4_seniorAt_72 (Nat.le_of_ble_eq_true rfl) (Nat.le_of_ble_eq_true rfl)
    · refine gq_icmp_ge_f (tgt := 71) C dX4_seniorAt_9 (by decide) c3 ?_
      refine gq_iconst (v := 0) C dX4_seniorAt_12 (by decide) ?_
      refine gq_istore_n (lv' := [(3, .int (0 : Int32)), (0, .ref (eB E + 295)), (1, .int u1), (2, .int v2)]) C dX4_seniorAt_13 rfl (by decide) rfl ?_
      refine gq_iconst (v := 0) C dX4_seniorAt_14 (by decide) ?_
      refine gq_istore (lv' := [(4, .int (0 : Int32)), (3, .int (0 : Int32)), (0, .ref (eB E + 295)), (1, .int u1), (2, .int v2)]) C dX4_seniorAt_15 (by decide) rfl ?_
      obtain ⟨x23, eo22, z21⟩ := bind_ex z4
      refine gq_widen (k' := 0) (n' := 0) (Nat.le_of_ble_eq_true rfl) (Nat.le_of_ble_eq_true rfl) (gq_sub [2, 3, 4, 1, 0] rfl ?_)
      refine l_X4_seniorAt_17 hN C  qFuel _ _ _ eo22 ?_
      refine gq_iload_n C dX4_seniorAt_58 rfl 3 rfl ?_
      refine gq_iload_n C dX4_seniorAt_59 rfl 1 rfl ?_
      rcases ite_ex z21 with ⟨c24, z25⟩ | ⟨c24, z25⟩
      · refine gq_icmp_ne_f (tgt := 65) C dX4_seniorAt_60 (by decide) c24 ?_
        refine gq_iload_n C dX4_seniorAt_63 rfl 2 rfl ?_
        cases z25
        exact gq_iret C hr dX4_seniorAt_64 (Nat.le_of_ble_eq_true rfl) (Nat.le_of_ble_eq_true rfl)
      · refine gq_icmp_ne_t (tgt := 65) C dX4_seniorAt_60 (by decide) c24 ?_
        refine gq_iinc (v := (v2 + 1)) (lv' := [(2, .int (v2 + 1)), (0, .ref (eB E + 295)), (1, .int u1), (3, .int x23)]) (q := 2) C dX4_seniorAt_65 rfl rfl (by decide) rfl ?_
        refine gq_goto (tgt := 2) C dX4_seniorAt_68 (by decide) ?_
        refine gq_widen (k' := 0) (n' := 0) (Nat.le_of_ble_eq_true rfl) (Nat.le_of_ble_eq_true rfl) (gq_sub [1, 2, 0] rfl ?_)
        exact ih _ _ z25
set_option maxHeartbeats 4000000 in
set_option maxRecDepth 100000 in
theorem c_X4_seniorAt {l : Launch} {E : Ev} (hN : 311 ≤ eN E) {p1 : Int32} {μ : Mm} {r : Int32} (z0 : F_X4_seniorAt p1 μ = some r) : Ct l E yX4_seniorAt (Cond.code yX4_seniorAt cX4_seniorAt 5 (some .int) :: GW) rm_X4_seniorAt [.ref (eB E + 295), .int p1] μ (some (.int r)) μ := by
  refine ct_of (by decide) (Nat.le_of_ble_eq_true rfl) (fun p e s m args below meth c C hr => ?_)
  have C : Cq E p s m args meth c cX4_seniorAt 5 RX4 := C
  refine gq_lv (lv' := [(0, .ref (eB E + 295)), (1, .int p1)]) rfl ?_
  unfold F_X4_seniorAt at z0
  refine gq_iconst (v := 0) C dX4_seniorAt_0 (by decide) ?_
  refine gq_istore_n (lv' := [(2, .int (0 : Int32)), (0, .ref (eB E + 295)), (1, .int p1)]) C dX4_seniorAt_1 rfl (by decide) rfl ?_
  refine gq_widen (k' := 0) (n' := 0) (Nat.le_of_ble_eq_true rfl) (Nat.le_of_ble_eq_true rfl) (gq_sub [1, 2, 0] rfl ?_)
  exact l_X4_seniorAt_2 hN C hr  qFuel _ _ z0
abbrev rm_X4_bySeniority : Room := { frames := 3, cells := 0, slots := 0, locals := 67 }
def F_X4_bySeniority (p1 : Int32) (μ : Mm) : Option (Int32 × Mm) :=
  (some (uI μ 295 0 (0 : Int32))).bind fun m1 =>
  (F_X4_seniorAt p1 m1).bind fun o4 =>
  some (o4, m1)
set_option maxHeartbeats 4000000 in
set_option maxRecDepth 100000 in
theorem c_X4_bySeniority {l : Launch} {E : Ev} (hN : 311 ≤ eN E) {p1 : Int32} {μ : Mm} {r : Int32} {μ' : Mm} (z0 : F_X4_bySeniority p1 μ = some (r, μ')) : Ct l E yX4_bySeniority (Cond.code yX4_bySeniority cX4_bySeniority 2 (some .int) :: GW) rm_X4_bySeniority [.ref (eB E + 295), .int p1] μ (some (.int r)) μ' := by
  refine ct_of (by decide) (Nat.le_of_ble_eq_true rfl) (fun p e s m args below meth c C hr => ?_)
  have C : Cq E p s m args meth c cX4_bySeniority 2 RX4 := C
  refine gq_lv (lv' := [(0, .ref (eB E + 295)), (1, .int p1)]) rfl ?_
  unfold F_X4_bySeniority at z0
  refine gq_aload_n C dX4_bySeniority_0 rfl 0 rfl ?_
  refine gq_iconst (v := 0) C dX4_bySeniority_1 (by decide) ?_
  obtain ⟨m1, em1, z2⟩ := bind_ex z0
  refine gq_put5_0 C (qn_m 295 (by decide) hN) (by decide) wk_6_162 (Option.some.inj em1).symm dX4_bySeniority_2 ?_
  refine gq_aload_n C dX4_bySeniority_5 rfl 0 rfl ?_
  refine gq_iload_n C dX4_bySeniority_6 rfl 1 rfl ?_
  obtain ⟨x5, eo4, z3⟩ := bind_ex z2
  refine gq_V (As := [.int p1]) (rest := []) (j := 5) C (c_X4_seniorAt hN  eo4) (qn_m 295 (by decide) hN) (by decide) (by decide) rfl wk_7_187 wk_7_189 ws_X4_seniorAt wk_1_9 wk_7_190 hd_X4_seniorAt ⟨(Nat.le_of_ble_eq_true rfl), (Nat.le_of_ble_eq_true rfl)⟩ (Nat.le_of_ble_eq_true rfl) ⟨(Nat.le_of_ble_eq_true rfl), (Nat.le_of_ble_eq_true rfl)⟩ dX4_bySeniority_7 rfl rfl ?_
  cases z3
  exact gq_iret C hr dX4_bySeniority_10 (Nat.le_of_ble_eq_true rfl) (Nat.le_of_ble_eq_true rfl)
abbrev rm_X4_leaseField : Room := { frames := 2, cells := 0, slots := 0, locals := 43 }
def F_X4_leaseField (p1 : Int32) (p2 : Int32) (μ : Mm) : Option (Int32 × Mm) :=
  (F_X4_isLease p1 μ).bind fun o2 =>
  (if o2 = 0 then
  (some (1 : Int32))
  else
  ((F_X4_inRange p2 (0 : Int32) (5 : Int32) μ).bind fun o10 =>
  if o10 = 0 then
  (some (2 : Int32))
  else
  (some (0 : Int32)))).bind fun o14 =>
  (some (uI μ 295 0 o14)).bind fun m15 =>
  if (m15.1 295 0) ≤ 0 then
  ((F_X4_leaseOf p1 p2 m15).bind fun o20 =>
  some (o20, m15))
  else
  (some ((0 : Int32), m15))
set_option maxHeartbeats 4000000 in
set_option maxRecDepth 100000 in
theorem c_X4_leaseField {l : Launch} {E : Ev} (hN : 311 ≤ eN E) {p1 : Int32} {p2 : Int32} {μ : Mm} {r : Int32} {μ' : Mm} (z0 : F_X4_leaseField p1 p2 μ = some (r, μ')) : Ct l E yX4_leaseField (Cond.code yX4_leaseField cX4_leaseField 3 (some .int) :: GW) rm_X4_leaseField [.ref (eB E + 295), .int p1, .int p2] μ (some (.int r)) μ' := by
  refine ct_of (by decide) (Nat.le_of_ble_eq_true rfl) (fun p e s m args below meth c C hr => ?_)
  have C : Cq E p s m args meth c cX4_leaseField 3 RX4 := C
  refine gq_lv (lv' := [(0, .ref (eB E + 295)), (1, .int p1), (2, .int p2)]) rfl ?_
  unfold F_X4_leaseField at z0
  refine gq_aload_n C dX4_leaseField_0 rfl 0 rfl ?_
  refine gq_aload_n C dX4_leaseField_1 rfl 0 rfl ?_
  refine gq_iload_n C dX4_leaseField_2 rfl 1 rfl ?_
  obtain ⟨x3, eo2, z1⟩ := bind_ex z0
  refine gq_V (As := [.int p1]) (rest := [.ref (eB E + 295)]) (j := 5) C (c_X4_isLease hN  eo2) (qn_m 295 (by decide) hN) (by decide) (by decide) rfl wk_7_195 wk_7_197 ws_X4_isLease wk_1_9 wk_7_198 hd_X4_isLease ⟨(Nat.le_of_ble_eq_true rfl), (Nat.le_of_ble_eq_true rfl)⟩ (Nat.le_of_ble_eq_true rfl) ⟨(Nat.le_of_ble_eq_true rfl), (Nat.le_of_ble_eq_true rfl)⟩ dX4_leaseField_3 rfl rfl ?_
  obtain ⟨x4, z5, z6⟩ := bind_ex z1
  refine gq_join (k' := 0) (n' := 0) (pc' := 27) (lv' := [(0, .ref (eB E + 295)), (1, .int p1), (2, .int p2)]) (st' := [.int x4, .ref (eB E + 295)]) (μ' := μ) ?_ (fun J27 => ?_)
  · obtain ⟨m15, em15, z16⟩ := bind_ex z6
    refine gq_put5_0 C (qn_m 295 (by decide) hN) (by decide) wk_6_162 (Option.some.inj em15).symm dX4_leaseField_27 ?_
    refine gq_aload_n C dX4_leaseField_30 rfl 0 rfl ?_
    refine gq_get5 C (qn_m 295 (by decide) hN) (by decide) 0 (by decide) wk_6_162 rfl dX4_leaseField_31 ?_
    rcases ite_ex z16 with ⟨c17, z18⟩ | ⟨c17, z18⟩
    · refine gq_if_le_t (tgt := 41) C dX4_leaseField_34 (by decide) c17 ?_
      refine gq_aload_n C dX4_leaseField_41 rfl 0 rfl ?_
      refine gq_iload_n C dX4_leaseField_42 rfl 1 rfl ?_
      refine gq_iload_n C dX4_leaseField_43 rfl 2 rfl ?_
      obtain ⟨x21, eo20, z19⟩ := bind_ex z18
      refine gq_V (As := [.int p1, .int p2]) (rest := []) (j := 5) C (c_X4_leaseOf hN  eo20) (qn_m 295 (by decide) hN) (by decide) (by decide) rfl wk_7_199 wk_7_201 ws_X4_leaseOf wk_1_9 wk_7_202 hd_X4_leaseOf ⟨(Nat.le_of_ble_eq_true rfl), (Nat.le_of_ble_eq_true rfl)⟩ (Nat.le_of_ble_eq_true rfl) ⟨(Nat.le_of_ble_eq_true rfl), (Nat.le_of_ble_eq_true rfl)⟩ dX4_leaseField_44 rfl rfl ?_
      cases z19
      exact gq_iret C hr dX4_leaseField_47 (Nat.le_of_ble_eq_true rfl) (Nat.le_of_ble_eq_true rfl)
    · refine gq_if_le_f (tgt := 41) C dX4_leaseField_34 (by decide) c17 ?_
      refine gq_iconst (v := 0) C dX4_leaseField_37 (by decide) ?_
      refine gq_goto (tgt := 47) C dX4_leaseField_38 (by decide) ?_
      cases z18
      exact gq_iret C hr dX4_leaseField_47 (Nat.le_of_ble_eq_true rfl) (Nat.le_of_ble_eq_true rfl)
  · rcases ite_ex z5 with ⟨c7, z8⟩ | ⟨c7, z8⟩
    · refine gq_if_ne_f (tgt := 13) C dX4_leaseField_6 (by decide) c7 ?_
      refine gq_iconst (v := 1) C dX4_leaseField_9 (by decide) ?_
      refine gq_goto (tgt := 27) C dX4_leaseField_10 (by decide) ?_
      cases z8
      exact gq_widen (Nat.le_of_ble_eq_true rfl) (Nat.le_of_ble_eq_true rfl) (gq_sub [0, 1, 2] rfl J27)
    · refine gq_if_ne_t (tgt := 13) C dX4_leaseField_6 (by decide) c7 ?_
      refine gq_iload_n C dX4_leaseField_13 rfl 2 rfl ?_
      refine gq_iconst (v := 0) C dX4_leaseField_14 (by decide) ?_
      refine gq_iconst (v := 5) C dX4_leaseField_15 (by decide) ?_
      obtain ⟨x11, eo10, z9⟩ := bind_ex z8
      refine gq_S (As := [.int p2, .int (0 : Int32), .int (5 : Int32)]) (rest := [.ref (eB E + 295)]) C (c_X4_inRange hN  eo10) wk_7_50 wk_7_51 wk_1_9 wk_7_52 hd_X4_inRange ⟨(Nat.le_of_ble_eq_true rfl), (Nat.le_of_ble_eq_true rfl)⟩ (Nat.le_of_ble_eq_true rfl) ⟨(Nat.le_of_ble_eq_true rfl), (Nat.le_of_ble_eq_true rfl)⟩ dX4_leaseField_16 rfl rfl ?_
      rcases ite_ex z9 with ⟨c12, z13⟩ | ⟨c12, z13⟩
      · refine gq_if_ne_f (tgt := 26) C dX4_leaseField_19 (by decide) c12 ?_
        refine gq_iconst (v := 2) C dX4_leaseField_22 (by decide) ?_
        refine gq_goto (tgt := 27) C dX4_leaseField_23 (by decide) ?_
        cases z13
        exact gq_widen (Nat.le_of_ble_eq_true rfl) (Nat.le_of_ble_eq_true rfl) (gq_sub [0, 1, 2] rfl J27)
      · refine gq_if_ne_t (tgt := 26) C dX4_leaseField_19 (by decide) c12 ?_
        refine gq_iconst (v := 0) C dX4_leaseField_26 (by decide) ?_
        cases z13
        exact gq_widen (Nat.le_of_ble_eq_true rfl) (Nat.le_of_ble_eq_true rfl) (gq_sub [0, 1, 2] rfl J27)
abbrev rm_X4_isExercised : Room := { frames := 1, cells := 0, slots := 0, locals := 22 }
def F_X4_isExercised (p1 : Int32) (p2 : Int32) (μ : Mm) : Option Int32 :=
  (aI μ 296 (5 : Int32)).bind fun x1 =>
  (F_X4_percentOf ((x1 + p2) / (12 : Int32)) μ).bind fun o4 =>
  (F_X4_optionOf p1 (3 : Int32) μ).bind fun o7 =>
  if o7 ≤ o4 then
  (some (0 : Int32))
  else
  (some (1 : Int32))
set_option maxHeartbeats 4000000 in
set_option maxRecDepth 100000 in
theorem c_X4_isExercised {l : Launch} {E : Ev} (hN : 311 ≤ eN E) {p1 : Int32} {p2 : Int32} {μ : Mm} {r : Int32} (z0 : F_X4_isExercised p1 p2 μ = some r) : Ct l E yX4_isExercised (Cond.code yX4_isExercised cX4_isExercised 3 (some .boolean) :: GW) rm_X4_isExercised [.ref (eB E + 295), .int p1, .int p2] μ (some (.int r)) μ := by
  refine ct_of (by decide) (Nat.le_of_ble_eq_true rfl) (fun p e s m args below meth c C hr => ?_)
  have C : Cq E p s m args meth c cX4_isExercised 3 RX4 := C
  refine gq_lv (lv' := [(0, .ref (eB E + 295)), (1, .int p1), (2, .int p2)]) rfl ?_
  unfold F_X4_isExercised at z0
  refine gq_aload_n C dX4_isExercised_0 rfl 0 rfl ?_
  refine gq_aload_n C dX4_isExercised_1 rfl 0 rfl ?_
  refine gq_get5 C (qn_m 295 (by decide) hN) (by decide) 1 (by decide) wk_6_163 rfl dX4_isExercised_2 ?_
  refine gq_iconst (v := 5) C dX4_isExercised_5 (by decide) ?_
  obtain ⟨x1, ex1, z2⟩ := bind_ex z0
  refine gq_ialoadI C (qn_m 296 (by decide) hN) (by decide) ex1 dX4_isExercised_6 ?_
  refine gq_iload_n C dX4_isExercised_7 rfl 2 rfl ?_
  refine gq_iadd C dX4_isExercised_8 ?_
  refine gq_bipush (v := 12) C dX4_isExercised_9 (by decide) ?_
  refine gq_idiv C dX4_isExercised_11 (by decide) ?_
  obtain ⟨x5, eo4, z3⟩ := bind_ex z2
  refine gq_V (As := [.int ((x1 + p2) / (12 : Int32))]) (rest := []) (j := 5) C (c_X4_percentOf hN  eo4) (qn_m 295 (by decide) hN) (by decide) (by decide) rfl wk_7_139 wk_7_141 ws_X4_percentOf wk_1_9 wk_7_142 hd_X4_percentOf ⟨(Nat.le_of_ble_eq_true rfl), (Nat.le_of_ble_eq_true rfl)⟩ (Nat.le_of_ble_eq_true rfl) ⟨(Nat.le_of_ble_eq_true rfl), (Nat.le_of_ble_eq_true rfl)⟩ dX4_isExercised_12 rfl rfl ?_
  refine gq_aload_n C dX4_isExercised_15 rfl 0 rfl ?_
  refine gq_iload_n C dX4_isExercised_16 rfl 1 rfl ?_
  refine gq_iconst (v := 3) C dX4_isExercised_17 (by decide) ?_
  obtain ⟨x8, eo7, z6⟩ := bind_ex z3
  refine gq_V (As := [.int p1, .int (3 : Int32)]) (rest := [.int x5]) (j := 5) C (c_X4_optionOf hN  eo7) (qn_m 295 (by decide) hN) (by decide) (by decide) rfl wk_7_207 wk_7_209 ws_X4_optionOf wk_1_9 wk_7_210 hd_X4_optionOf ⟨(Nat.le_of_ble_eq_true rfl), (Nat.le_of_ble_eq_true rfl)⟩ (Nat.le_of_ble_eq_true rfl) ⟨(Nat.le_of_ble_eq_true rfl), (Nat.le_of_ble_eq_true rfl)⟩ dX4_isExercised_18 rfl rfl ?_
  rcases ite_ex z6 with ⟨c9, z10⟩ | ⟨c9, z10⟩
  · refine gq_icmp_ge_t (tgt := 28) C dX4_isExercised_21 (by decide) c9 ?_
    refine gq_iconst (v := 0) C dX4_isExercised_28 (by decide) ?_
    cases z10
    exact gq_zret C hr (by decide) dX4_isExercised_29 (Nat.le_of_ble_eq_true rfl) (Nat.le_of_ble_eq_true rfl)
  · refine gq_icmp_ge_f (tgt := 28) C dX4_isExercised_21 (by decide) c9 ?_
    refine gq_iconst (v := 1) C dX4_isExercised_24 (by decide) ?_
    refine gq_goto (tgt := 29) C dX4_isExercised_25 (by decide) ?_
    cases z10
    exact gq_zret C hr (by decide) dX4_isExercised_29 (Nat.le_of_ble_eq_true rfl) (Nat.le_of_ble_eq_true rfl)
