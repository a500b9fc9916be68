abbrev rm_X4_optionField : Room := { frames := 2, cells := 0, slots := 0, locals := 44 }
def F_X4_optionField (p1 : Int32) (p2 : Int32) (μ : Mm) : Option (Int32 × Mm) :=
  (aI μ 296 (4 : Int32)).bind fun x1 =>
  (F_X4_inRange p1 (0 : Int32) (x1 - (1 : Int32)) μ).bind fun o4 =>
  (if o4 = 0 then
  (some (1 : Int32))
  else
  ((F_X4_inRange p2 (0 : Int32) (6 : Int32) μ).bind fun o12 =>
  if o12 = 0 then
  (some (2 : Int32))
  else
  (some (0 : Int32)))).bind fun o16 =>
  (some (uI μ 295 0 o16)).bind fun m17 =>
  if (m17.1 295 0) ≤ 0 then
  (if (6 : Int32) ≤ p2 then
  ((F_X4_isExercised p1 (0 : Int32) m17).bind fun o24 =>
  if o24 = 0 then
  (some ((0 : Int32), m17))
  else
  (some ((1 : Int32), m17)))
  else
  ((F_X4_optionOf p1 p2 m17).bind fun o29 =>
  some (o29, m17)))
  else
  (some ((0 : Int32), m17))
set_option maxHeartbeats 4000000 in
set_option maxRecDepth 100000 in
theorem c_X4_optionField {l : Launch} {E : Ev} (hN : 311 ≤ eN E) {p1 : Int32} {p2 : Int32} {μ : Mm} {r : Int32} {μ' : Mm} (z0 : F_X4_optionField p1 p2 μ = some (r, μ')) : Ct l E yX4_optionField (Cond.code yX4_optionField cX4_optionField 3 (some .int) :: GW) rm_X4_optionField [.ref (eB E + 295), .int p1, .int p2] μ (some (.int r)) μ' := by
  refine ct_of (by decide) (Nat.le_of_ble_eq_true rfl) (fun p e s m args below meth c C hr => ?_)
  have C : Cq E p s m args meth c cX4_optionField 3 RX4 := C
  refine gq_lv (lv' := [(0, .ref (eB E + 295)), (1, .int p1), (2, .int p2)]) rfl ?_
  unfold F_X4_optionField at z0
  refine gq_aload_n C dX4_optionField_0 rfl 0 rfl ?_
  refine gq_iload_n C dX4_optionField_1 rfl 1 rfl ?_
  refine gq_iconst (v := 0) C dX4_optionField_2 (by decide) ?_
  refine gq_aload_n C dX4_optionField_3 rfl 0 rfl ?_
  refine gq_get5 C (qn_m 295 (by decide) hN) (by decide) 1 (by decide) wk_6_163 rfl dX4_optionField_4 ?_
  refine gq_iconst (v := 4) C dX4_optionField_7 (by decide) ?_
  obtain ⟨x1, ex1, z2⟩ := bind_ex z0
  refine gq_ialoadI C (qn_m 296 (by decide) hN) (by decide) ex1 dX4_optionField_8 ?_
  refine gq_iconst (v := 1) C dX4_optionField_9 (by decide) ?_
  refine gq_isub C dX4_optionField_10 ?_
  obtain ⟨x5, eo4, z3⟩ := bind_ex z2
  refine gq_S (As := [.int p1, .int (0 : Int32), .int (x1 - (1 : Int32))]) (rest := [.ref (eB E + 295)]) C (c_X4_inRange hN  eo4) wk_7_50 wk_7_51 wk_1_9 wk_7_52 hd_X4_inRange ⟨(Nat.le_of_ble_eq_true rfl), (Nat.le_of_ble_eq_true rfl)⟩ (Nat.le_of_ble_eq_true rfl) ⟨(Nat.le_of_ble_eq_true rfl), (Nat.le_of_ble_eq_true rfl)⟩ dX4_optionField_11 rfl rfl ?_
  obtain ⟨x6, z7, z8⟩ := bind_ex z3
  refine gq_join (k' := 0) (n' := 0) (pc' := 36) (lv' := [(0, .ref (eB E + 295)), (1, .int p1), (2, .int p2)]) (st' := [.int x6, .ref (eB E + 295)]) (μ' := μ) ?_ (fun J36 => ?_)
  · obtain ⟨m17, em17, z18⟩ := bind_ex z8
    refine gq_put5_0 C (qn_m 295 (by decide) hN) (by decide) wk_6_162 (Option.some.inj em17).symm dX4_optionField_36 ?_
    refine gq_aload_n C dX4_optionField_39 rfl 0 rfl ?_
    refine gq_get5 C (qn_m 295 (by decide) hN) (by decide) 0 (by decide) wk_6_162 rfl dX4_optionField_40 ?_
    rcases ite_ex z18 with ⟨c19, z20⟩ | ⟨c19, z20⟩
    · refine gq_if_le_t (tgt := 50) C dX4_optionField_43 (by decide) c19 ?_
      refine gq_iload_n C dX4_optionField_50 rfl 2 rfl ?_
      refine gq_bipush (v := 6) C dX4_optionField_51 (by decide) ?_
      rcases ite_ex z20 with ⟨c21, z22⟩ | ⟨c21, z22⟩
      · refine gq_icmp_ge_t (tgt := 65) C dX4_optionField_53 (by decide) c21 ?_
        refine gq_aload_n C dX4_optionField_65 rfl 0 rfl ?_
        refine gq_iload_n C dX4_optionField_66 rfl 1 rfl ?_
        refine gq_iconst (v := 0) C dX4_optionField_67 (by decide) ?_
        obtain ⟨x25, eo24, z23⟩ := bind_ex z22
        refine gq_V (As := [.int p1, .int (0 : Int32)]) (rest := []) (j := 5) C (c_X4_isExercised hN  eo24) (qn_m 295 (by decide) hN) (by decide) (by decide) rfl wk_7_211 wk_7_213 ws_X4_isExercised wk_1_9 wk_7_214 hd_X4_isExercised ⟨(Nat.le_of_ble_eq_true rfl), (Nat.le_of_ble_eq_true rfl)⟩ (Nat.le_of_ble_eq_true rfl) ⟨(Nat.le_of_ble_eq_true rfl), (Nat.le_of_ble_eq_true rfl)⟩ dX4_optionField_68 rfl rfl ?_
        rcases ite_ex z23 with ⟨c26, z27⟩ | ⟨c26, z27⟩
        · refine gq_if_eq_t (tgt := 78) C dX4_optionField_71 (by decide) c26 ?_
          refine gq_iconst (v := 0) C dX4_optionField_78 (by decide) ?_
          cases z27
          exact gq_iret C hr dX4_optionField_79 (Nat.le_of_ble_eq_true rfl) (Nat.le_of_ble_eq_true rfl)
        · refine gq_if_eq_f (tgt := 78) C dX4_optionField_71 (by decide) c26 ?_
          refine gq_iconst (v := 1) C dX4_optionField_74 (by decide) ?_
          refine gq_goto (tgt := 79) C dX4_optionField_75 (by decide) ?_
          cases z27
          exact gq_iret C hr dX4_optionField_79 (Nat.le_of_ble_eq_true rfl) (Nat.le_of_ble_eq_true rfl)
      · refine gq_icmp_ge_f (tgt := 65) C dX4_optionField_53 (by decide) c21 ?_
        refine gq_aload_n C dX4_optionField_56 rfl 0 rfl ?_
        refine gq_iload_n C dX4_optionField_57 rfl 1 rfl ?_
        refine gq_iload_n C dX4_optionField_58 rfl 2 rfl ?_
        obtain ⟨x30, eo29, z28⟩ := bind_ex z22
        refine gq_V (As := [.int p1, .int p2]) (rest := []) (j := 5) C (c_X4_optionOf hN  eo29) (qn_m 295 (by decide) hN) (by decide) (by decide) rfl wk_7_207 wk_7_209 ws_X4_optionOf wk_1_9 wk_7_210 hd_X4_optionOf ⟨(Nat.le_of_ble_eq_true rfl), (Nat.le_of_ble_eq_true rfl)⟩ (Nat.le_of_ble_eq_true rfl) ⟨(Nat.le_of_ble_eq_true rfl), (Nat.le_of_ble_eq_true rfl)⟩ dX4_optionField_59 rfl rfl ?_
        refine gq_goto (tgt := 79) C dX4_optionField_62 (by decide) ?_
        cases z28
        exact gq_iret C hr dX4_optionField_79 (Nat.le_of_ble_eq_true rfl) (Nat.le_of_ble_eq_true rfl)
    · refine gq_if_le_f (tgt := 50) C dX4_optionField_43 (by decide) c19 ?_
      refine gq_iconst (v := 0) C dX4_optionField_46 (by decide) ?_
      refine gq_goto (tgt := 79) C dX4_optionField_47 (by decide) ?_
      cases z20
      exact gq_iret C hr dX4_optionField_79 (Nat.le_of_ble_eq_true rfl) (Nat.le_of_ble_eq_true rfl)
  · rcases ite_ex z7 with ⟨c9, z10⟩ | ⟨c9, z10⟩
    · refine gq_if_ne_f (tgt := 21) C dX4_optionField_14 (by decide) c9 ?_
      refine gq_iconst (v := 1) C dX4_optionField_17 (by decide) ?_
      refine gq_goto (tgt := 36) C dX4_optionField_18 (by decide) ?_
      cases z10
      exact gq_widen (Nat.le_of_ble_eq_true rfl) (Nat.le_of_ble_eq_true rfl) (gq_sub [0, 1, 2] rfl J36)
    · refine gq_if_ne_t (tgt := 21) C dX4_optionField_14 (by decide) c9 ?_
      refine gq_iload_n C dX4_optionField_21 rfl 2 rfl ?_
      refine gq_iconst (v := 0) C dX4_optionField_22 (by decide) ?_
      refine gq_bipush (v := 6) C dX4_optionField_23 (by decide) ?_
      obtain ⟨x13, eo12, z11⟩ := bind_ex z10
      refine gq_S (As := [.int p2, .int (0 : Int32), .int (6 : Int32)]) (rest := [.ref (eB E + 295)]) C (c_X4_inRange hN  eo12) wk_7_50 wk_7_51 wk_1_9 wk_7_52 hd_X4_inRange ⟨(Nat.le_of_ble_eq_true rfl), (Nat.le_of_ble_eq_true rfl)⟩ (Nat.le_of_ble_eq_true rfl) ⟨(Nat.le_of_ble_eq_true rfl), (Nat.le_of_ble_eq_true rfl)⟩ dX4_optionField_25 rfl rfl ?_
      rcases ite_ex z11 with ⟨c14, z15⟩ | ⟨c14, z15⟩
      · refine gq_if_ne_f (tgt := 35) C dX4_optionField_28 (by decide) c14 ?_
        refine gq_iconst (v := 2) C dX4_optionField_31 (by decide) ?_
        refine gq_goto (tgt := 36) C dX4_optionField_32 (by decide) ?_
        cases z15
        exact gq_widen (Nat.le_of_ble_eq_true rfl) (Nat.le_of_ble_eq_true rfl) (gq_sub [0, 1, 2] rfl J36)
      · refine gq_if_ne_t (tgt := 35) C dX4_optionField_28 (by decide) c14 ?_
        refine gq_iconst (v := 0) C dX4_optionField_35 (by decide) ?_
        cases z15
        exact gq_widen (Nat.le_of_ble_eq_true rfl) (Nat.le_of_ble_eq_true rfl) (gq_sub [0, 1, 2] rfl J36)
abbrev rm_X4_gaugeOf : Room := { frames := 0, cells := 0, slots := 0, locals := 0 }
def F_X4_gaugeOf (p1 : Int32) (p2 : Int32) (μ : Mm) : Option Int32 :=
  (aI μ 296 (((394 : Int32) + ((5 : Int32) * p1)) + p2)).bind fun x1 =>
  some x1
set_option maxHeartbeats 4000000 in
set_option maxRecDepth 100000 in
theorem c_X4_gaugeOf {l : Launch} {E : Ev} (hN : 311 ≤ eN E) {p1 : Int32} {p2 : Int32} {μ : Mm} {r : Int32} (z0 : F_X4_gaugeOf p1 p2 μ = some r) : Ct l E yX4_gaugeOf (Cond.code yX4_gaugeOf cX4_gaugeOf 3 (some .int) :: GW) rm_X4_gaugeOf [.ref (eB E + 295), .int p1, .int p2] μ (some (.int r)) μ := by
  refine ct_of (by decide) (Nat.le_of_ble_eq_true rfl) (fun p e s m args below meth c C hr => ?_)
  have C : Cq E p s m args meth c cX4_gaugeOf 3 RX4 := C
  refine gq_lv (lv' := [(0, .ref (eB E + 295)), (1, .int p1), (2, .int p2)]) rfl ?_
  unfold F_X4_gaugeOf at z0
  refine gq_aload_n C dX4_gaugeOf_0 rfl 0 rfl ?_
  refine gq_get5 C (qn_m 295 (by decide) hN) (by decide) 1 (by decide) wk_6_163 rfl dX4_gaugeOf_1 ?_
  refine gq_sipush (v := 394) C dX4_gaugeOf_4 (by decide) ?_
  refine gq_iconst (v := 5) C dX4_gaugeOf_7 (by decide) ?_
  refine gq_iload_n C dX4_gaugeOf_8 rfl 1 rfl ?_
  refine gq_imul C dX4_gaugeOf_9 ?_
  refine gq_iadd C dX4_gaugeOf_10 ?_
  refine gq_iload_n C dX4_gaugeOf_11 rfl 2 rfl ?_
  refine gq_iadd C dX4_gaugeOf_12 ?_
  obtain ⟨x1, ex1, z2⟩ := bind_ex z0
  refine gq_ialoadI C (qn_m 296 (by decide) hN) (by decide) ex1 dX4_gaugeOf_13 ?_
  cases z2
  exact gq_iret C hr dX4_gaugeOf_14 (Nat.le_of_ble_eq_true rfl) (Nat.le_of_ble_eq_true rfl)
abbrev rm_X4_laysFlows : Room := { frames := 2, cells := 0, slots := 0, locals := 43 }
def F_X4_laysFlows_4  : Nat → Int32 → Int32 → Mm → Option Mm
  | 0, _, _, _ => none
  | n + 1, v1, v2, μ =>
  (aI μ 296 (0 : Int32)).bind fun x1 =>
  if x1 ≤ v2 then
  (some μ)
  else
  ((F_X4_comingTo v2 μ).bind fun o6 =>
  (sI μ 307 v2 (v1 + o6)).bind fun m8 =>
  (sI m8 296 ((394 : Int32) + ((5 : Int32) * v2)) o6).bind fun m10 =>
  (sI m10 296 (((394 : Int32) + ((5 : Int32) * v2)) + (1 : Int32)) (v1 + o6)).bind fun m12 =>
  (sI m12 296 (((394 : Int32) + ((5 : Int32) * v2)) + (3 : Int32)) (0 : Int32)).bind fun m14 =>
  (sI m14 296 (((394 : Int32) + ((5 : Int32) * v2)) + (4 : Int32)) (0 : Int32)).bind fun m16 =>
  F_X4_laysFlows_4 n (v1 + o6) (v2 + 1) m16)
def F_X4_laysFlows  (μ : Mm) : Option Mm :=
  (F_X4_laysFlows_4 qFuel (0 : Int32) (0 : Int32) μ).bind fun o19 =>
  some o19
set_option maxHeartbeats 4000000 in
set_option maxRecDepth 100000 in
theorem l_X4_laysFlows_4 {l : Launch} {E : Ev} (hN : 311 ≤ eN E) {p : Program} {e : Env} {s : State} {m : MethodId} {args : Array Value} {below : List Frame} {meth : Method} {c : Code} (C : Cq E p s m args meth c cX4_laysFlows 4 RX4) {Q : State → Prop} : ∀ (n : Nat) (v1 : Int32) (v2 : Int32) (μ : Mm) (μx : Mm), F_X4_laysFlows_4 n v1 v2 μ = some μx → Gq E p l e rm_X4_laysFlows s m args below meth c 0 0 4 Q 95 [] [] μx → Gq E p l e rm_X4_laysFlows s m args below meth c 0 0 4 Q 4 [(0, .ref (eB E + 295)), (1, .int v1), (2, .int v2)] [] μ := by
  intro n
  induction n with
  | zero =>
    intro v1 v2 μ μx z0 kk
    rw [F_X4_laysFlows_4] at z0
    cases z0
  | succ n ih =>
    intro v1 v2 μ μx z0 kk
    rw [F_X4_laysFlows_4] at z0
    refine gq_iload_n C dX4_laysFlows_4 rfl 2 rfl ?_
    refine gq_aload_n C dX4_laysFlows_5 rfl 0 rfl ?_
    refine gq_get5 C (qn_m 295 (by decide) hN) (by decide) 1 (by decide) wk_6_163 rfl dX4_laysFlows_6 ?_
    refine gq_iconst (v := 0) C dX4_laysFlows_9 (by decide) ?_
    obtain ⟨x1, ex1, z2⟩ := bind_ex z0
    refine gq_ialoadI C (qn_m 296 (by decide) hN) (by decide) ex1 dX4_laysFlows_10 ?_
    rcases ite_ex z2 with ⟨c3, z4⟩ | ⟨c3, z4⟩
    · refine gq_icmp_ge_t (tgt := 95) C dX4_laysFlows_11 (by decide) c3 ?_
      cases z4
      exact gq_widen (Nat.le_of_ble_eq_true rfl) (Nat.le_of_ble_eq_true rfl) (gq_sub [] rfl kk)
    · refine gq_icmp_ge_f (tgt := 95) C dX4_laysFlows_11 (by decide) c3 ?_
      refine gq_aload_n C dX4_laysFlows_14 rfl 0 rfl ?_
      refine gq_iload_n C dX4_laysFlows_15 rfl 2 rfl ?_
      obtain ⟨x7, eo6, z5⟩ := bind_ex z4
      refine gq_V (As := [.int v2]) (rest := []) (j := 5) C (c_X4_comingTo hN  eo6) (qn_m 295 (by decide) hN) (by decide) (by decide) rfl wk_7_155 wk_7_157 ws_X4_comingTo wk_1_9 wk_7_158 hd_X4_comingTo ⟨(Nat.le_of_ble_eq_true rfl), (Nat.le_of_ble_eq_true rfl)⟩ (Nat.le_of_ble_eq_true rfl) ⟨(Nat.le_of_ble_eq_true rfl), (Nat.le_of_ble_eq_true rfl)⟩ dX4_laysFlows_16 rfl rfl ?_
      refine gq_istore_n (lv' := [(3, .int x7), (0, .ref (eB E + 295)), (1, .int v1), (2, .int v2)]) C dX4_laysFlows_19 rfl (by decide) rfl ?_
      refine gq_iload_n C dX4_laysFlows_20 rfl 2 rfl ?_
      refine gq_iload_n C dX4_laysFlows_21 rfl 0 rfl ?_
      refine gq_iadd C dX4_laysFlows_22 ?_
      refine gq_istore_n (lv' := [(1, .int (v1 + x7)), (3, .int x7), (0, .ref (eB E + 295)), (2, .int v2)]) C dX4_laysFlows_23 rfl (by decide) rfl ?_
      refine gq_aload_n C dX4_laysFlows_24 rfl 2 rfl ?_
      refine gq_get5 C (qn_m 295 (by decide) hN) (by decide) 20 (by decide) wk_6_182 rfl dX4_laysFlows_25 ?_
      refine gq_iload_n C dX4_laysFlows_28 rfl 3 rfl ?_
      refine gq_iload_n C dX4_laysFlows_29 rfl 0 rfl ?_
      obtain ⟨m8, em8, z9⟩ := bind_ex z5
      refine gq_iastore C (qn_m 307 (by decide) hN) (by decide) em8 dX4_laysFlows_30 ?_
      refine gq_aload_n C dX4_laysFlows_31 rfl 2 rfl ?_
      refine gq_get5 C (qn_m 295 (by decide) hN) (by decide) 1 (by decide) wk_6_163 rfl dX4_laysFlows_32 ?_
      refine gq_sipush (v := 394) C dX4_laysFlows_35 (by decide) ?_
      refine gq_iconst (v := 5) C dX4_laysFlows_38 (by decide) ?_
      refine gq_iload_n C dX4_laysFlows_39 rfl 3 rfl ?_
      refine gq_imul C dX4_laysFlows_40 ?_
      refine gq_iadd C dX4_laysFlows_41 ?_
      refine gq_iload_n C dX4_laysFlows_42 rfl 1 rfl ?_
      obtain ⟨m10, em10, z11⟩ := bind_ex z9
      refine gq_iastore C (qn_m 296 (by decide) hN) (by decide) em10 dX4_laysFlows_43 ?_
      refine gq_aload_n C dX4_laysFlows_44 rfl 2 rfl ?_
      refine gq_get5 C (qn_m 295 (by decide) hN) (by decide) 1 (by decide) wk_6_163 rfl dX4_laysFlows_45 ?_
      refine gq_sipush (v := 394) C dX4_laysFlows_48 (by decide) ?_
      refine gq_iconst (v := 5) C dX4_laysFlows_51 (by decide) ?_
      refine gq_iload_n C dX4_laysFlows_52 rfl 3 rfl ?_
      refine gq_imul C dX4_laysFlows_53 ?_
      refine gq_iadd C dX4_laysFlows_54 ?_
      refine gq_iconst (v := 1) C dX4_laysFlows_55 (by decide) ?_
      refine gq_iadd C dX4_laysFlows_56 ?_
      refine gq_iload_n C dX4_laysFlows_57 rfl 0 rfl ?_
      obtain ⟨m12, em12, z13⟩ := bind_ex z11
      refine gq_iastore C (qn_m 296 (by decide) hN) (by decide) em12 dX4_laysFlows_58 ?_
      refine gq_aload_n C dX4_laysFlows_59 rfl 2 rfl ?_
      refine gq_get5 C (qn_m 295 (by decide) hN) (by decide) 1 (by decide) wk_6_163 rfl dX4_laysFlows_60 ?_
      refine gq_sipush (v := 394) C dX4_laysFlows_63 (by decide) ?_
      refine gq_iconst (v := 5) C dX4_laysFlows_66 (by decide) ?_
      refine gq_iload_n C dX4_laysFlows_67 rfl 3 rfl ?_
      refine gq_imul C dX4_laysFlows_68 ?_
      refine gq_iadd C dX4_laysFlows_69 ?_
      refine gq_iconst (v := 3) C dX4_laysFlows_70 (by decide) ?_
      refine gq_iadd C dX4_laysFlows_71 ?_
      refine gq_iconst (v := 0) C dX4_laysFlows_72 (by decide) ?_
      obtain ⟨m14, em14, z15⟩ := bind_ex z13
      refine gq_iastore C (qn_m 296 (by decide) hN) (by decide) em14 dX4_laysFlows_73 ?_
      refine gq_aload_n C dX4_laysFlows_74 rfl 2 rfl ?_
      refine gq_get5 C (qn_m 295 (by decide) hN) (by decide) 1 (by decide) wk_6_163 rfl dX4_laysFlows_75 ?_
      refine gq_sipush (v := 394) C dX4_laysFlows_78 (by decide) ?_
      refine gq_iconst (v := 5) C dX4_laysFlows_81 (by decide) ?_
      refine gq_iload_n C dX4_laysFlows_82 rfl 3 rfl ?_
      refine gq_imul C dX4_laysFlows_83 ?_
      refine gq_iadd C dX4_laysFlows_84 ?_
      refine gq_iconst (v := 4) C dX4_laysFlows_85 (by decide) ?_
      refine gq_iadd C dX4_laysFlows_86 ?_
      refine gq_iconst (v := 0) C dX4_laysFlows_87 (by decide) ?_
      obtain ⟨m16, em16, z17⟩ := bind_ex z15
      refine gq_iastore C (qn_m 296 (by decide) hN) (by decide) em16 dX4_laysFlows_88 ?_
      refine gq_iinc (v := (v2 + 1)) (lv' := [(2, .int (v2 + 1)), (1, .int (v1 + x7)), (3, .int x7), (0, .ref (eB E + 295))]) (q := 3) C dX4_laysFlows_89 rfl rfl (by decide) rfl ?_
      refine gq_goto (tgt := 4) C dX4_laysFlows_92 (by decide) ?_
      refine gq_widen (k' := 0) (n' := 0) (Nat.le_of_ble_eq_true rfl) (Nat.le_of_ble_eq_true rfl) (gq_sub [3, 1, 0] rfl ?_)
      exact ih _ _ _ _ z17 kk
set_option maxHeartbeats 4000000 in
set_option maxRecDepth 100000 in
theorem c_X4_laysFlows {l : Launch} {E : Ev} (hN : 311 ≤ eN E) {μ : Mm} {μ' : Mm} (z0 : F_X4_laysFlows  μ = some μ') : Ct l E yX4_laysFlows (Cond.code yX4_laysFlows cX4_laysFlows 4 none :: GW) rm_X4_laysFlows [.ref (eB E + 295)] μ none μ' := by
  refine ct_of (by decide) (Nat.le_of_ble_eq_true rfl) (fun p e s m args below meth c C hr => ?_)
  have C : Cq E p s m args meth c cX4_laysFlows 4 RX4 := C
  refine gq_lv (lv' := [(0, .ref (eB E + 295))]) rfl ?_
  unfold F_X4_laysFlows at z0
  refine gq_iconst (v := 0) C dX4_laysFlows_0 (by decide) ?_
  refine gq_istore_n (lv' := [(1, .int (0 : Int32)), (0, .ref (eB E + 295))]) C dX4_laysFlows_1 rfl (by decide) rfl ?_
  refine gq_iconst (v := 0) C dX4_laysFlows_2 (by decide) ?_
  refine gq_istore_n (lv' := [(2, .int (0 : Int32)), (1, .int (0 : Int32)), (0, .ref (eB E + 295))]) C dX4_laysFlows_3 rfl (by decide) rfl ?_
  obtain ⟨m20, eo19, z18⟩ := bind_ex z0
  refine gq_widen (k' := 0) (n' := 0) (Nat.le_of_ble_eq_true rfl) (Nat.le_of_ble_eq_true rfl) (gq_sub [2, 1, 0] rfl ?_)
  refine l_X4_laysFlows_4 hN C  qFuel _ _ _ _ eo19 ?_
  cases z18
  exact gq_vret C hr dX4_laysFlows_95 (Nat.le_of_ble_eq_true rfl) (Nat.le_of_ble_eq_true rfl)
abbrev rm_X4_part : Room := { frames := 0, cells := 0, slots := 0, locals := 0 }
def F_X4_part (p1 : Int32) (p2 : Int32) (μ : Mm) : Option Int32 :=
  some ((p1 * p2) / (100 : Int32))
set_option maxHeartbeats 4000000 in
set_option maxRecDepth 100000 in
theorem c_X4_part {l : Launch} {E : Ev} (hN : 311 ≤ eN E) {p1 : Int32} {p2 : Int32} {μ : Mm} {r : Int32} (z0 : F_X4_part p1 p2 μ = some r) : Ct l E yX4_part (Cond.code yX4_part cX4_part 2 (some .int) :: GW) rm_X4_part [.int p1, .int p2] μ (some (.int r)) μ := by
  refine ct_of (by decide) (Nat.le_of_ble_eq_true rfl) (fun p e s m args below meth c C hr => ?_)
  have C : Cq E p s m args meth c cX4_part 2 RX4 := C
  refine gq_lv (lv' := [(0, .int p1), (1, .int p2)]) rfl ?_
  unfold F_X4_part at z0
  refine gq_iload_n C dX4_part_0 rfl 0 rfl ?_
  refine gq_iload_n C dX4_part_1 rfl 1 rfl ?_
  refine gq_imul C dX4_part_2 ?_
  refine gq_bipush (v := 100) C dX4_part_3 (by decide) ?_
  refine gq_idiv C dX4_part_5 (by decide) ?_
  cases z0
  exact gq_iret C hr dX4_part_6 (Nat.le_of_ble_eq_true rfl) (Nat.le_of_ble_eq_true rfl)
abbrev rm_X4_lowers : Room := { frames := 0, cells := 0, slots := 0, locals := 0 }
def F_X4_lowers (p1 : Int32) (p2 : Int32) (p3 : Int32) (p4 : Int32) (μ : Mm) : Option Int32 :=
  if p4 < p3 then
  (some p1)
  else
  (some (p1 - p2))
set_option maxHeartbeats 4000000 in
set_option maxRecDepth 100000 in
theorem c_X4_lowers {l : Launch} {E : Ev} (hN : 311 ≤ eN E) {p1 : Int32} {p2 : Int32} {p3 : Int32} {p4 : Int32} {μ : Mm} {r : Int32} (z0 : F_X4_lowers p1 p2 p3 p4 μ = some r) : Ct l E yX4_lowers (Cond.code yX4_lowers cX4_lowers 4 (some .int) :: GW) rm_X4_lowers [.int p1, .int p2, .int p3, .int p4] μ (some (.int r)) μ := by
  refine ct_of (by decide) (Nat.le_of_ble_eq_true rfl) (fun p e s m args below meth c C hr => ?_)
  have C : Cq E p s m args meth c cX4_lowers 4 RX4 := C
  refine gq_lv (lv' := [(0, .int p1), (1, .int p2), (2, .int p3), (3, .int p4)]) rfl ?_
  unfold F_X4_lowers at z0
  refine gq_iload_n C dX4_lowers_0 rfl 3 rfl ?_
  refine gq_iload_n C dX4_lowers_1 rfl 2 rfl ?_
  rcases ite_ex z0 with ⟨c1, z2⟩ | ⟨c1, z2⟩
  · refine gq_icmp_lt_t (tgt := 11) C dX4_lowers_2 (by decide) c1 ?_
    refine gq_iload_n C dX4_lowers_11 rfl 0 rfl ?_
    cases z2
    exact gq_iret C hr dX4_lowers_12 (Nat.le_of_ble_eq_true rfl) (Nat.le_of_ble_eq_true rfl)
  · refine gq_icmp_lt_f (tgt := 11) C dX4_lowers_2 (by decide) c1 ?_
    refine gq_iload_n C dX4_lowers_5 rfl 0 rfl ?_
    refine gq_iload_n C dX4_lowers_6 rfl 1 rfl ?_
    refine gq_isub C dX4_lowers_7 ?_
    refine gq_goto (tgt := 12) C dX4_lowers_8 (by decide) ?_
    cases z2
    exact gq_iret C hr dX4_lowers_12 (Nat.le_of_ble_eq_true rfl) (Nat.le_of_ble_eq_true rfl)
abbrev rm_X4_mayGet : Room := { frames := 1, cells := 0, slots := 0, locals := 23 }
def F_X4_mayGet_3 (u2 : Int32) (u3 : Int32) (u4 : Int32) (μ : Mm) : Nat → Int32 → Option Int32
  | 0, _ => none
  | n + 1, v5 =>
  (aI μ 296 (0 : Int32)).bind fun x1 =>
  if x1 ≤ v5 then
  (some (1 : Int32))
  else
  ((F_X4_lowers u2 u3 u4 v5 μ).bind fun o6 =>
  if o6 ≤ 0 then
  (F_X4_mayGet_3 u2 u3 u4 μ n (v5 + 1))
  else
  ((aI μ 307 v5).bind fun x10 =>
  (aI μ 296 ((14 : Int32) + v5)).bind fun x12 =>
  if x12 ≤ (x10 - o6) then
  (F_X4_mayGet_3 u2 u3 u4 μ n (v5 + 1))
  else
  (some (0 : Int32))))
def F_X4_mayGet (p1 : Int32) (p2 : Int32) (p3 : Int32) (p4 : Int32) (μ : Mm) : Option Int32 :=
  F_X4_mayGet_3 p2 p3 p4 μ qFuel p1
set_option maxHeartbeats 4000000 in
set_option maxRecDepth 100000 in
theorem l_X4_mayGet_3 {l : Launch} {E : Ev} (hN : 311 ≤ eN E) {p : Program} {e : Env} {s : State} {m : MethodId} {args : Array Value} {below : List Frame} {meth : Method} {c : Code} (C : Cq E p s m args meth c cX4_mayGet 7 RX4) (hr : meth.sig.returnType = (some .boolean)) {u2 : Int32} {u3 : Int32} {u4 : Int32} {μ : Mm} : ∀ (n : Nat) (v5 : Int32) (r : Int32), F_X4_mayGet_3 u2 u3 u4 μ n v5 = some r → Gq E p l e rm_X4_mayGet s m args below meth c 0 0 7 (MQ below (qQ E (some (.int r)) μ) args s rm_X4_mayGet.cells rm_X4_mayGet.slots (eA E)) 3 [(0, .ref (eB E + 295)), (2, .int u2), (3, .int u3), (4, .int u4), (5, .int v5)] [] μ := by
  intro n
  induction n with
  | zero =>
    intro v5 r z0
    rw [F_X4_mayGet_3] at z0
    cases z0
  | succ n ih =>
    intro v5 r z0
    rw [F_X4_mayGet_3] at z0
    refine gq_iload C dX4_mayGet_3 4 rfl ?_
    refine gq_aload_n C dX4_mayGet_5 rfl 0 rfl ?_
    refine gq_get5 C (qn_m 295 (by decide) hN) (by decide) 1 (by decide) wk_6_163 rfl dX4_mayGet_6 ?_
    refine gq_iconst (v := 0) C dX4_mayGet_9 (by decide) ?_
    obtain ⟨x1, ex1, z2⟩ := bind_ex z0
    refine gq_ialoadI C (qn_m 296 (by decide) hN) (by decide) ex1 dX4_mayGet_10 ?_
    rcases ite_ex z2 with ⟨c3, z4⟩ | ⟨c3, z4⟩
    · refine gq_icmp_ge_t (tgt := 61) C dX4_mayGet_11 (by decide) c3 ?_
      refine gq_iconst (v := 1) C dX4_mayGet_61 (by decide) ?_
      cases z4
      exact gq_zret C hr (by decide) dX4_mayGet_62 (Nat.le_of_ble_eq_true rfl) (Nat.le_of_ble_eq_true rfl)
    · refine gq_icmp_ge_f (tgt := 61) C dX4_mayGet_11 (by decide) c3 ?_
      refine gq_iload_n C dX4_mayGet_14 rfl 1 rfl ?_
      refine gq_iload_n C dX4_mayGet_15 rfl 2 rfl ?_
      refine gq_iload C dX4_mayGet_16 3 rfl ?_
      refine gq_iload C dX4_mayGet_18 4 rfl ?_
      obtain ⟨x7, eo6, z5⟩ := bind_ex z4
      refine gq_S (As := [.int u2, .int u3, .int u4, .int v5]) (rest := []) C (c_X4_lowers hN  eo6) wk_8_106 wk_8_107 wk_1_9 wk_8_108 hd_X4_lowers ⟨(Nat.le_of_ble_eq_true rfl), (Nat.le_of_ble_eq_true rfl)⟩ (Nat.le_of_ble_eq_true rfl) ⟨(Nat.le_of_ble_eq_true rfl), (Nat.le_of_ble_eq_true rfl)⟩ dX4_mayGet_20 rfl rfl ?_
      refine gq_istore (lv' := [(6, .int x7), (0, .ref (eB E + 295)), (2, .int u2), (3, .int u3), (4, .int u4), (5, .int v5)]) C dX4_mayGet_23 (by decide) rfl ?_
      refine gq_iload C dX4_mayGet_25 0 rfl ?_
      rcases ite_ex z5 with ⟨c8, z9⟩ | ⟨c8, z9⟩
      · refine gq_if_le_t (tgt := 55) C dX4_mayGet_27 (by decide) c8 ?_
        refine gq_iinc (v := (v5 + 1)) (lv' := [(5, .int (v5 + 1)), (6, .int x7), (0, .ref (eB E + 295)), (2, .int u2), (3, .int u3), (4, .int u4)]) (q := 5) C dX4_mayGet_55 rfl rfl (by decide) rfl ?_
        refine gq_goto (tgt := 3) C dX4_mayGet_58 (by decide) ?_
        refine gq_widen (k' := 0) (n' := 0) (Nat.le_of_ble_eq_true rfl) (Nat.le_of_ble_eq_true rfl) (gq_sub [2, 3, 4, 5, 0] rfl ?_)
        exact ih _ _ z9
      · refine gq_if_le_f (tgt := 55) C dX4_mayGet_27 (by decide) c8 ?_
        refine gq_aload_n C dX4_mayGet_30 rfl 1 rfl ?_
        refine gq_get5 C (qn_m 295 (by decide) hN) (by decide) 20 (by decide) wk_6_182 rfl dX4_mayGet_31 ?_
        refine gq_iload C dX4_mayGet_34 5 rfl ?_
        obtain ⟨x10, ex10, z11⟩ := bind_ex z9
        refine gq_ialoadI C (qn_m 307 (by decide) hN) (by decide) ex10 dX4_mayGet_36 ?_
        refine gq_iload C dX4_mayGet_37 0 rfl ?_
        refine gq_isub C dX4_mayGet_39 ?_
        refine gq_aload_n C dX4_mayGet_40 rfl 1 rfl ?_
        refine gq_get5 C (qn_m 295 (by decide) hN) (by decide) 1 (by decide) wk_6_163 rfl dX4_mayGet_41 ?_
        refine gq_bipush (v := 14) C dX4_mayGet_44 (by decide) ?_
        refine gq_iload C dX4_mayGet_46 5 rfl ?_
        refine gq_iadd C dX4_mayGet_48 ?_
        obtain ⟨x12, ex12, z13⟩ := bind_ex z11
        refine gq_ialoadI C (qn_m 296 (by decide) hN) (by decide) ex12 dX4_mayGet_49 ?_
        rcases ite_ex z13 with ⟨c14, z15⟩ | ⟨c14, z15⟩
        · refine gq_icmp_ge_t (tgt := 55) C dX4_mayGet_50 (by decide) c14 ?_
          refine gq_iinc (v := (v5 + 1)) (lv' := [(5, .int (v5 + 1)), (6, .int x7), (0, .ref (eB E + 295)), (2, .int u2), (3, .int u3), (4, .int u4)]) (q := 5) C dX4_mayGet_55 rfl rfl (by decide) rfl ?_
          refine gq_goto (tgt := 3) C dX4_mayGet_58 (by decide) ?_
          refine gq_widen (k' := 0) (n' := 0) (Nat.le_of_ble_eq_true rfl) (Nat.le_of_ble_eq_true rfl) (gq_sub [2, 3, 4, 5, 0] rfl ?_)
          exact ih _ _ z15
        · refine gq_icmp_ge_f (tgt := 55) C dX4_mayGet_50 (by decide) c14 ?_
          refine gq_iconst (v := 0) C dX4_mayGet_53 (by decide) ?_
          cases z15
          exact gq_zret C hr (by decide) dX4_mayGet_54 (Nat.le_of_ble_eq_true rfl) (Nat.le_of_ble_eq_true rfl)
set_option maxHeartbeats 4000000 in
set_option maxRecDepth 100000 in
theorem c_X4_mayGet {l : Launch} {E : Ev} (hN : 311 ≤ eN E) {p1 : Int32} {p2 : Int32} {p3 : Int32} {p4 : Int32} {μ : Mm} {r : Int32} (z0 : F_X4_mayGet p1 p2 p3 p4 μ = some r) : Ct l E yX4_mayGet (Cond.code yX4_mayGet cX4_mayGet 7 (some .boolean) :: GW) rm_X4_mayGet [.ref (eB E + 295), .int p1, .int p2, .int p3, .int p4] μ (some (.int r)) μ := by
  refine ct_of (by decide) (Nat.le_of_ble_eq_true rfl) (fun p e s m args below meth c C hr => ?_)
  have C : Cq E p s m args meth c cX4_mayGet 7 RX4 := C
  refine gq_lv (lv' := [(0, .ref (eB E + 295)), (1, .int p1), (2, .int p2), (3, .int p3), (4, .int p4)]) rfl ?_
  unfold F_X4_mayGet at z0
  refine gq_iload_n C dX4_mayGet_0 rfl 1 rfl ?_
  refine gq_istore (lv' := [(5, .int p1), (0, .ref (eB E + 295)), (1, .int p1), (2, .int p2), (3, .int p3), (4, .int p4)]) C dX4_mayGet_1 (by decide) rfl ?_
  refine gq_widen (k' := 0) (n' := 0) (Nat.le_of_ble_eq_true rfl) (Nat.le_of_ble_eq_true rfl) (gq_sub [1, 3, 4, 5, 0] rfl ?_)
  exact l_X4_mayGet_3 hN C hr  qFuel _ _ z0
abbrev rm_X4_pays : Room := { frames := 0, cells := 0, slots := 0, locals := 0 }
def F_X4_pays (p1 : Int32) (p2 : Int32) (p3 : Int64) (μ : Mm) : Option Mm :=
  (aL μ 300 p1).bind fun x1 =>
  (sL μ 300 p1 (x1 - p3)).bind fun m3 =>
  (aL m3 300 p2).bind fun x5 =>
  (sL m3 300 p2 (x5 + p3)).bind fun m7 =>
  some m7
set_option maxHeartbeats 4000000 in
set_option maxRecDepth 100000 in
theorem c_X4_pays {l : Launch} {E : Ev} (hN : 311 ≤ eN E) {p1 : Int32} {p2 : Int32} {p3 : Int64} {μ : Mm} {μ' : Mm} (z0 : F_X4_pays p1 p2 p3 μ = some μ') : Ct l E yX4_pays (Cond.code yX4_pays cX4_pays 5 none :: GW) rm_X4_pays [.ref (eB E + 295), .int p1, .int p2, .long p3] μ none μ' := by
  refine ct_of (by decide) (Nat.le_of_ble_eq_true rfl) (fun p e s m args below meth c C hr => ?_)
  have C : Cq E p s m args meth c cX4_pays 5 RX4 := C
  refine gq_lv (lv' := [(0, .ref (eB E + 295)), (1, .int p1), (2, .int p2), (3, .long p3)]) rfl ?_
  unfold F_X4_pays at z0
  refine gq_aload_n C dX4_pays_0 rfl 0 rfl ?_
  refine gq_get5 C (qn_m 295 (by decide) hN) (by decide) 5 (by decide) wk_6_167 rfl dX4_pays_1 ?_
  refine gq_iload_n C dX4_pays_4 rfl 1 rfl ?_
  refine gq_dup2 C dX4_pays_5 ?_
  obtain ⟨x1, ex1, z2⟩ := bind_ex z0
  refine gq_laloadL C (qn_m 300 (by decide) hN) (by decide) ex1 dX4_pays_6 ?_
  refine gq_lload_n C dX4_pays_7 rfl 3 rfl ?_
  refine gq_lsub C dX4_pays_8 ?_
  obtain ⟨m3, em3, z4⟩ := bind_ex z2
  refine gq_lastore C (qn_m 300 (by decide) hN) (by decide) em3 dX4_pays_9 ?_
  refine gq_aload_n C dX4_pays_10 rfl 0 rfl ?_
  refine gq_get5 C (qn_m 295 (by decide) hN) (by decide) 5 (by decide) wk_6_167 rfl dX4_pays_11 ?_
  refine gq_iload_n C dX4_pays_14 rfl 2 rfl ?_
  refine gq_dup2 C dX4_pays_15 ?_
  obtain ⟨x5, ex5, z6⟩ := bind_ex z4
  refine gq_laloadL C (qn_m 300 (by decide) hN) (by decide) ex5 dX4_pays_16 ?_
  refine gq_lload_n C dX4_pays_17 rfl 3 rfl ?_
  refine gq_ladd C dX4_pays_18 ?_
  obtain ⟨m7, em7, z8⟩ := bind_ex z6
  refine gq_lastore C (qn_m 300 (by decide) hN) (by decide) em7 dX4_pays_19 ?_
  cases z8
  exact gq_vret C hr dX4_pays_20 (Nat.le_of_ble_eq_true rfl) (Nat.le_of_ble_eq_true rfl)
abbrev rm_X4_serves : Room := { frames := 2, cells := 0, slots := 0, locals := 49 }
def F_X4_serves_45 (u1 : Int32) (u2 : Int32) (u3 : Int32) (u4 : Int32) (u5 : Int32) (u6 : Int32) (u7 : Int32) (u8 : Int32) (u9 : Int32) (μ : Mm) : Nat → Int32 → Option Int32
  | 0, _ => none
  | n + 1, v10 =>
  (F_X4_part v10 u7 μ).bind fun o23 =>
  (F_X4_part (v10 - o23) u8 μ).bind fun o26 =>
  (F_X4_mayGet u4 v10 o26 u9 μ).bind fun o29 =>
  if o29 = 0 then
  (F_X4_serves_45 u1 u2 u3 u4 u5 u6 u7 u8 u9 μ n (v10 + (-1)))
  else
  (some v10)
def F_X4_serves_104 (u1 : Int32) (u2 : Int32) (u3 : Int32) (u4 : Int32) (u5 : Int32) (u6 : Int32) (u9 : Int32) (u10 : Int32) (u11 : Int32) (u12 : Int32) : Nat → Int32 → Mm → Option Mm
  | 0, _, _ => none
  | n + 1, v13, μ =>
  (aI μ 296 (0 : Int32)).bind fun x42 =>
  if x42 ≤ v13 then
  (some μ)
  else
  ((aI μ 307 v13).bind fun x46 =>
  (F_X4_lowers u10 u12 u9 v13 μ).bind fun o49 =>
  (sI μ 307 v13 (x46 - o49)).bind fun m51 =>
  F_X4_serves_104 u1 u2 u3 u4 u5 u6 u9 u10 u11 u12 n (v13 + 1) m51)
def F_X4_serves (p1 : Int32) (p2 : Int32) (p3 : Int32) (p4 : Int32) (p5 : Int32) (p6 : Int32) (μ : Mm) : Option Mm :=
  (if p1 = 0 then
  ((F_X4_rightOf p2 (6 : Int32) μ).bind fun o7 =>
  some o7)
  else
  (some (0 : Int32))).bind fun o9 =>
  (if p1 = 0 then
  ((F_X4_rightOf p2 (4 : Int32) μ).bind fun o16 =>
  some o16)
  else
  (some (0 : Int32))).bind fun o18 =>
  (F_X4_rightOf p2 (5 : Int32) μ).bind fun o20 =>
  (F_X4_serves_45 p1 p2 p3 p4 p5 p6 o9 o18 o20 μ qFuel p5).bind fun o34 =>
  (F_X4_part o34 o9 μ).bind fun o37 =>
  (F_X4_part (o34 - o37) o18 μ).bind fun o40 =>
  (F_X4_serves_104 p1 p2 p3 p4 p5 p6 o20 o34 o37 o40 qFuel p4 μ).bind fun o54 =>
  (aI o54 296 (56 : Int32)).bind fun x56 =>
  (aI o54 296 (56 : Int32)).bind fun x58 =>
  (sI o54 296 (56 : Int32) (x58 + (1 : Int32))).bind fun m60 =>
  (sI m60 296 ((242 : Int32) + ((8 : Int32) * x56)) p1).bind fun m62 =>
  (sI m62 296 (((242 : Int32) + ((8 : Int32) * x56)) + (1 : Int32)) p2).bind fun m64 =>
  (sI m64 296 (((242 : Int32) + ((8 : Int32) * x56)) + (2 : Int32)) p3).bind fun m66 =>
  (sI m66 296 (((242 : Int32) + ((8 : Int32) * x56)) + (3 : Int32)) p4).bind fun m68 =>
  (sI m68 296 (((242 : Int32) + ((8 : Int32) * x56)) + (4 : Int32)) p5).bind fun m70 =>
  (sI m70 296 (((242 : Int32) + ((8 : Int32) * x56)) + (5 : Int32)) o34).bind fun m72 =>
  (sI m72 296 (((242 : Int32) + ((8 : Int32) * x56)) + (6 : Int32)) o37).bind fun m74 =>
  (sI m74 296 (((242 : Int32) + ((8 : Int32) * x56)) + (7 : Int32)) o40).bind fun m76 =>
  (aI m76 296 (((394 : Int32) + ((5 : Int32) * p4)) + (3 : Int32))).bind fun x78 =>
  (sI m76 296 (((394 : Int32) + ((5 : Int32) * p4)) + (3 : Int32)) (x78 + o34)).bind fun m80 =>
  (aI m80 296 (((394 : Int32) + ((5 : Int32) * o20)) + (4 : Int32))).bind fun x82 =>
  (sI m80 296 (((394 : Int32) + ((5 : Int32) * o20)) + (4 : Int32)) (x82 + o40)).bind fun m84 =>
  (F_X4_rightAt p2 (7 : Int32) m84).bind fun o87 =>
  (aI m84 296 o87).bind fun x89 =>
  (sI m84 296 o87 (x89 + o34)).bind fun m91 =>
  (F_X4_rightAt p2 (8 : Int32) m91).bind fun o94 =>
  (aI m91 296 o94).bind fun x96 =>
  (sI m91 296 o94 (x96 + o40)).bind fun m98 =>
  (aI m98 296 ((31 : Int32) + p3)).bind fun x100 =>
  (sI m98 296 ((31 : Int32) + p3) (x100 + o34)).bind fun m102 =>
  (F_X4_rightOf p2 (0 : Int32) m102).bind fun o105 =>
  (aI m102 296 ((26 : Int32) + o105)).bind fun x107 =>
  (sI m102 296 ((26 : Int32) + o105) (x107 + o37)).bind fun m109 =>
  (aI m109 296 (53 : Int32)).bind fun x111 =>
  (sI m109 296 (53 : Int32) (x111 + o37)).bind fun m113 =>
  (aI m113 308 p2).bind fun x115 =>
  (if x115 = 0 then
  (if p5 ≤ o34 then
  (some (0 : Int32))
  else
  (some (1 : Int32)))
  else
  (some (1 : Int32))).bind fun o124 =>
  (sZ m113 308 p2 o124).bind fun m125 =>
  if p1 = 0 then
  (some m125)
  else
  ((F_X4_rightOf p2 (0 : Int32) m125).bind fun o130 =>
  (F_X4_pays p3 o130 ((Int32.toInt64 o34) * (Int32.toInt64 p6)) m125).bind fun o133 =>
  (aL o133 300 ((5 : Int32) + p2)).bind fun x135 =>
  (sL o133 300 ((5 : Int32) + p2) (x135 + ((Int32.toInt64 o34) * (Int32.toInt64 p6)))).bind fun m137 =>
  some m137)
set_option maxHeartbeats 4000000 in
set_option maxRecDepth 100000 in
theorem l_X4_serves_45 {l : Launch} {E : Ev} (hN : 311 ≤ eN E) {p : Program} {e : Env} {s : State} {m : MethodId} {args : Array Value} {below : List Frame} {meth : Method} {c : Code} (C : Cq E p s m args meth c cX4_serves 14 RX4) {Q : State → Prop} {u1 : Int32} {u2 : Int32} {u3 : Int32} {u4 : Int32} {u5 : Int32} {u6 : Int32} {u7 : Int32} {u8 : Int32} {u9 : Int32} {μ : Mm} : ∀ (n : Nat) (v10 : Int32) (w10 : Int32), F_X4_serves_45 u1 u2 u3 u4 u5 u6 u7 u8 u9 μ n v10 = some w10 → Gq E p l e rm_X4_serves s m args below meth c 0 0 14 Q 79 [(0, .ref (eB E + 295)), (1, .int u1), (2, .int u2), (3, .int u3), (4, .int u4), (5, .int u5), (6, .int u6), (7, .int u7), (8, .int u8), (9, .int u9), (10, .int w10)] [] μ → Gq E p l e rm_X4_serves s m args below meth c 0 0 14 Q 45 [(0, .ref (eB E + 295)), (1, .int u1), (2, .int u2), (3, .int u3), (4, .int u4), (5, .int u5), (6, .int u6), (7, .int u7), (8, .int u8), (9, .int u9), (10, .int v10)] [] μ := by
  intro n
  induction n with
  | zero =>
    intro v10 w10 z0 kk
    rw [F_X4_serves_45] at z0
    cases z0
  | succ n ih =>
    intro v10 w10 z0 kk
    rw [F_X4_serves_45] at z0
    refine gq_aload_n C dX4_serves_45 rfl 0 rfl ?_
    refine gq_iload C dX4_serves_46 4 rfl ?_
    refine gq_iload C dX4_serves_48 10 rfl ?_
    refine gq_iload C dX4_serves_50 10 rfl ?_
    refine gq_iload C dX4_serves_52 10 rfl ?_
    refine gq_iload C dX4_serves_54 7 rfl ?_
    obtain ⟨x24, eo23, z22⟩ := bind_ex z0
    refine gq_S (As := [.int v10, .int u7]) (rest := [.int v10, .int v10, .int u4, .ref (eB E + 295)]) C (c_X4_part hN  eo23) wk_8_99 wk_8_100 wk_1_9 wk_8_101 hd_X4_part ⟨(Nat.le_of_ble_eq_true rfl), (Nat.le_of_ble_eq_true rfl)⟩ (Nat.le_of_ble_eq_true rfl) ⟨(Nat.le_of_ble_eq_true rfl), (Nat.le_of_ble_eq_true rfl)⟩ dX4_serves_56 rfl rfl ?_
    refine gq_isub C dX4_serves_59 ?_
    refine gq_iload C dX4_serves_60 8 rfl ?_
    obtain ⟨x27, eo26, z25⟩ := bind_ex z22
    refine gq_S (As := [.int (v10 - x24), .int u8]) (rest := [.int v10, .int u4, .ref (eB E + 295)]) C (c_X4_part hN  eo26) wk_8_99 wk_8_100 wk_1_9 wk_8_101 hd_X4_part ⟨(Nat.le_of_ble_eq_true rfl), (Nat.le_of_ble_eq_true rfl)⟩ (Nat.le_of_ble_eq_true rfl) ⟨(Nat.le_of_ble_eq_true rfl), (Nat.le_of_ble_eq_true rfl)⟩ dX4_serves_62 rfl rfl ?_
    refine gq_iload C dX4_serves_65 9 rfl ?_
    obtain ⟨x30, eo29, z28⟩ := bind_ex z25
    refine gq_V (As := [.int u4, .int v10, .int x27, .int u9]) (rest := []) (j := 5) C (c_X4_mayGet hN  eo29) (qn_m 295 (by decide) hN) (by decide) (by decide) rfl wk_8_102 wk_8_104 ws_X4_mayGet wk_1_9 wk_8_105 hd_X4_mayGet ⟨(Nat.le_of_ble_eq_true rfl), (Nat.le_of_ble_eq_true rfl)⟩ (Nat.le_of_ble_eq_true rfl) ⟨(Nat.le_of_ble_eq_true rfl), (Nat.le_of_ble_eq_true rfl)⟩ dX4_serves_67 rfl rfl ?_
    rcases ite_ex z28 with ⟨c31, z32⟩ | ⟨c31, z32⟩
    · refine gq_if_ne_f (tgt := 79) C dX4_serves_70 (by decide) c31 ?_
      refine gq_iinc (v := (v10 + (-1))) (lv' := [(10, .int (v10 + (-1))), (0, .ref (eB E + 295)), (1, .int u1), (2, .int u2), (3, .int u3), (4, .int u4), (5, .int u5), (6, .int u6), (7, .int u7), (8, .int u8), (9, .int u9)]) (q := 10) C dX4_serves_73 rfl rfl (by decide) rfl ?_
      refine gq_goto (tgt := 45) C dX4_serves_76 (by decide) ?_
      refine gq_widen (k' := 0) (n' := 0) (Nat.le_of_ble_eq_true rfl) (Nat.le_of_ble_eq_true rfl) (gq_sub [1, 2, 3, 4, 5, 6, 7, 8, 9, 10, 0] rfl ?_)
      exact ih _ _ z32 kk
    · refine gq_if_ne_t (tgt := 79) C dX4_serves_70 (by decide) c31 ?_
      cases z32
      exact gq_widen (Nat.le_of_ble_eq_true rfl) (Nat.le_of_ble_eq_true rfl) (gq_sub [0, 1, 2, 3, 4, 5, 6, 7, 8, 9, 10] rfl kk)
set_option maxHeartbeats 4000000 in
set_option maxRecDepth 100000 in
theorem l_X4_serves_104 {l : Launch} {E : Ev} (hN : 311 ≤ eN E) {p : Program} {e : Env} {s : State} {m : MethodId} {args : Array Value} {below : List Frame} {meth : Method} {c : Code} (C : Cq E p s m args meth c cX4_serves 14 RX4) {Q : State → Prop} {u1 : Int32} {u2 : Int32} {u3 : Int32} {u4 : Int32} {u5 : Int32} {u6 : Int32} {u9 : Int32} {u10 : Int32} {u11 : Int32} {u12 : Int32} : ∀ (n : Nat) (v13 : Int32) (μ : Mm) (μx : Mm), F_X4_serves_104 u1 u2 u3 u4 u5 u6 u9 u10 u11 u12 n v13 μ = some μx → Gq E p l e rm_X4_serves s m args below meth c 0 0 14 Q 142 [(0, .ref (eB E + 295)), (1, .int u1), (2, .int u2), (3, .int u3), (4, .int u4), (5, .int u5), (6, .int u6), (9, .int u9), (10, .int u10), (11, .int u11), (12, .int u12)] [] μx → Gq E p l e rm_X4_serves s m args below meth c 0 0 14 Q 104 [(0, .ref (eB E + 295)), (1, .int u1), (2, .int u2), (3, .int u3), (4, .int u4), (5, .int u5), (6, .int u6), (9, .int u9), (10, .int u10), (11, .int u11), (12, .int u12), (13, .int v13)] [] μ := by
  intro n
  induction n with
  | zero =>
    intro v13 μ μx z0 kk
    rw [F_X4_serves_104] at z0
    cases z0
  | succ n ih =>
    intro v13 μ μx z0 kk
    rw [F_X4_serves_104] at z0
    refine gq_iload C dX4_serves_104 11 rfl ?_
    refine gq_aload_n C dX4_serves_106 rfl 0 rfl ?_
    refine gq_get5 C (qn_m 295 (by decide) hN) (by decide) 1 (by decide) wk_6_163 rfl dX4_serves_107 ?_
    refine gq_iconst (v := 0) C dX4_serves_110 (by decide) ?_
    obtain ⟨x42, ex42, z43⟩ := bind_ex z0
    refine gq_ialoadI C (qn_m 296 (by decide) hN) (by decide) ex42 dX4_serves_111 ?_
    rcases ite_ex z43 with ⟨c44, z45⟩ | ⟨c44, z45⟩
    · refine gq_icmp_ge_t (tgt := 142) C dX4_serves_112 (by decide) c44 ?_
      cases z45
      exact gq_widen (Nat.le_of_ble_eq_true rfl) (Nat.le_of_ble_eq_true rfl) (gq_sub [0, 1, 2, 3, 4, 5, 6, 7, 8, 9, 10] rfl kk)
    · refine gq_icmp_ge_f (tgt := 142) C dX4_serves_112 (by decide) c44 ?_
      refine gq_aload_n C dX4_serves_115 rfl 0 rfl ?_
      refine gq_get5 C (qn_m 295 (by decide) hN) (by decide) 20 (by decide) wk_6_182 rfl dX4_serves_116 ?_
      refine gq_iload C dX4_serves_119 11 rfl ?_
      refine gq_dup2 C dX4_serves_121 ?_
      obtain ⟨x46, ex46, z47⟩ := bind_ex z45
      refine gq_ialoadI C (qn_m 307 (by decide) hN) (by decide) ex46 dX4_serves_122 ?_
      refine gq_iload C dX4_serves_123 8 rfl ?_
      refine gq_iload C dX4_serves_125 10 rfl ?_
      refine gq_iload C dX4_serves_127 7 rfl ?_
      refine gq_iload C dX4_serves_129 11 rfl ?_
      obtain ⟨x50, eo49, z48⟩ := bind_ex z47
      refine gq_S (As := [.int u10, .int u12, .int u9, .int v13]) (rest := [.int x46, .int v13, .ref (eB E + 307)]) C (c_X4_lowers hN  eo49) wk_8_106 wk_8_107 wk_1_9 wk_8_108 hd_X4_lowers ⟨(Nat.le_of_ble_eq_true rfl), (Nat.le_of_ble_eq_true rfl)⟩ (Nat.le_of_ble_eq_true rfl) ⟨(Nat.le_of_ble_eq_true rfl), (Nat.le_of_ble_eq_true rfl)⟩ dX4_serves_131 rfl rfl ?_
      refine gq_isub C dX4_serves_134 ?_
      obtain ⟨m51, em51, z52⟩ := bind_ex z48
      refine gq_iastore C (qn_m 307 (by decide) hN) (by decide) em51 dX4_serves_135 ?_
      refine gq_iinc (v := (v13 + 1)) (lv' := [(13, .int (v13 + 1)), (0, .ref (eB E + 295)), (1, .int u1), (2, .int u2), (3, .int u3), (4, .int u4), (5, .int u5), (6, .int u6), (9, .int u9), (10, .int u10), (11, .int u11), (12, .int u12)]) (q := 11) C dX4_serves_136 rfl rfl (by decide) rfl ?_
      refine gq_goto (tgt := 104) C dX4_serves_139 (by decide) ?_
      refine gq_widen (k' := 0) (n' := 0) (Nat.le_of_ble_eq_true rfl) (Nat.le_of_ble_eq_true rfl) (gq_sub [1, 2, 3, 4, 5, 6, 7, 8, 9, 10, 11, 0] rfl ?_)
      exact ih _ _ _ z52 kk
set_option maxHeartbeats 4000000 in
set_option maxRecDepth 100000 in
theorem c_X4_serves {l : Launch} {E : Ev} (hN : 311 ≤ eN E) {p1 : Int32} {p2 : Int32} {p3 : Int32} {p4 : Int32} {p5 : Int32} {p6 : Int32} {μ : Mm} {μ' : Mm} (z0 : F_X4_serves p1 p2 p3 p4 p5 p6 μ = some μ') : Ct l E yX4_serves (Cond.code yX4_serves cX4_serves 14 none :: GW) rm_X4_serves [.ref (eB E + 295), .int p1, .int p2, .int p3, .int p4, .int p5, .int p6] μ none μ' := by
  refine ct_of (by decide) (Nat.le_of_ble_eq_true rfl) (fun p e s m args below meth c C hr => ?_)
  have C : Cq E p s m args meth c cX4_serves 14 RX4 := C
  refine gq_lv (lv' := [(0, .ref (eB E + 295)), (1, .int p1), (2, .int p2), (3, .int p3), (4, .int p4), (5, .int p5), (6, .int p6)]) rfl ?_
  unfold F_X4_serves at z0
  refine gq_iload_n C dX4_serves_0 rfl 1 rfl ?_
  obtain ⟨x1, z2, z3⟩ := bind_ex z0
  refine gq_join (k' := 0) (n' := 0) (pc' := 15) (lv' := [(0, .ref (eB E + 295)), (1, .int p1), (2, .int p2), (3, .int p3), (4, .int p4), (5, .int p5), (6, .int p6)]) (st' := [.int x1]) (μ' := μ) ?_ (fun J15 => ?_)
  · refine gq_istore (lv' := [(7, .int x1), (0, .ref (eB E + 295)), (1, .int p1), (2, .int p2), (3, .int p3), (4, .int p4), (5, .int p5), (6, .int p6)]) C dX4_serves_15 (by decide) rfl ?_
    refine gq_iload_n C dX4_serves_17 rfl 2 rfl ?_
    obtain ⟨x10, z11, z12⟩ := bind_ex z3
    refine gq_join (k' := 0) (n' := 0) (pc' := 31) (lv' := [(0, .ref (eB E + 295)), (1, .int p1), (2, .int p2), (3, .int p3), (4, .int p4), (5, .int p5), (6, .int p6), (7, .int x1)]) (st' := [.int x10]) (μ' := μ) ?_ (fun J31 => ?_)
    · refine gq_istore (lv' := [(8, .int x10), (0, .ref (eB E + 295)), (1, .int p1), (2, .int p2), (3, .int p3), (4, .int p4), (5, .int p5), (6, .int p6), (7, .int x1)]) C dX4_serves_31 (by decide) rfl ?_
      refine gq_aload_n C dX4_serves_33 rfl 1 rfl ?_
      refine gq_iload_n C dX4_serves_34 rfl 3 rfl ?_
      refine gq_iconst (v := 5) C dX4_serves_35 (by decide) ?_
      obtain ⟨x21, eo20, z19⟩ := bind_ex z12
      refine gq_V (As := [.int p2, .int (5 : Int32)]) (rest := []) (j := 5) C (c_X4_rightOf hN  eo20) (qn_m 295 (by decide) hN) (by decide) (by decide) rfl wk_7_179 wk_7_181 ws_X4_rightOf wk_1_9 wk_7_182 hd_X4_rightOf ⟨(Nat.le_of_ble_eq_true rfl), (Nat.le_of_ble_eq_true rfl)⟩ (Nat.le_of_ble_eq_true rfl) ⟨(Nat.le_of_ble_eq_true rfl), (Nat.le_of_ble_eq_true rfl)⟩ dX4_serves_36 rfl rfl ?_
      refine gq_istore (lv' := [(9, .int x21), (8, .int x10), (0, .ref (eB E + 295)), (1, .int p1), (2, .int p2), (3, .int p3), (4, .int p4), (5, .int p5), (6, .int p6), (7, .int x1)]) C dX4_serves_39 (by decide) rfl ?_
      refine gq_iload C dX4_serves_41 7 rfl ?_
      refine gq_istore (lv' := [(10, .int p5), (9, .int x21), (8, .int x10), (0, .ref (eB E + 295)), (1, .int p1), (2, .int p2), (3, .int p3), (4, .int p4), (5, .int p5), (6, .int p6), (7, .int x1)]) C dX4_serves_43 (by decide) rfl ?_
      obtain ⟨x35, eo34, z33⟩ := bind_ex z19
      refine gq_widen (k' := 0) (n' := 0) (Nat.le_of_ble_eq_true rfl) (Nat.le_of_ble_eq_true rfl) (gq_sub [3, 4, 5, 6, 7, 8, 9, 10, 2, 1, 0] rfl ?_)
      refine l_X4_serves_45 hN C  qFuel _ _ eo34 ?_
      refine gq_iload C dX4_serves_79 10 rfl ?_
      refine gq_iload C dX4_serves_81 7 rfl ?_
      obtain ⟨x38, eo37, z36⟩ := bind_ex z33
      refine gq_S (As := [.int x35, .int x1]) (rest := []) C (c_X4_part hN  eo37) wk_8_99 wk_8_100 wk_1_9 wk_8_101 hd_X4_part ⟨(Nat.le_of_ble_eq_true rfl), (Nat.le_of_ble_eq_true rfl)⟩ (Nat.le_of_ble_eq_true rfl) ⟨(Nat.le_of_ble_eq_true rfl), (Nat.le_of_ble_eq_true rfl)⟩ dX4_serves_83 rfl rfl ?_
      refine gq_istore (lv' := [(11, .int x38), (0, .ref (eB E + 295)), (1, .int p1), (2, .int p2), (3, .int p3), (4, .int p4), (5, .int p5), (6, .int p6), (7, .int x1), (8, .int x10), (9, .int x21), (10, .int x35)]) C dX4_serves_86 (by decide) rfl ?_
      refine gq_iload C dX4_serves_88 11 rfl ?_
      refine gq_iload C dX4_serves_90 0 rfl ?_
      refine gq_isub C dX4_serves_92 ?_
      refine gq_iload C dX4_serves_93 9 rfl ?_
      obtain ⟨x41, eo40, z39⟩ := bind_ex z36
      refine gq_S (As := [.int (x35 - x38), .int x10]) (rest := []) C (c_X4_part hN  eo40) wk_8_99 wk_8_100 wk_1_9 wk_8_101 hd_X4_part ⟨(Nat.le_of_ble_eq_true rfl), (Nat.le_of_ble_eq_true rfl)⟩ (Nat.le_of_ble_eq_true rfl) ⟨(Nat.le_of_ble_eq_true rfl), (Nat.le_of_ble_eq_true rfl)⟩ dX4_serves_95 rfl rfl ?_
      refine gq_istore (lv' := [(12, .int x41), (11, .int x38), (0, .ref (eB E + 295)), (1, .int p1), (2, .int p2), (3, .int p3), (4, .int p4), (5, .int p5), (6, .int p6), (7, .int x1), (8, .int x10), (9, .int x21), (10, .int x35)]) C dX4_serves_98 (by decide) rfl ?_
      refine gq_iload C dX4_serves_100 6 rfl ?_
      refine gq_istore (lv' := [(13, .int p4), (12, .int x41), (11, .int x38), (0, .ref (eB E + 295)), (1, .int p1), (2, .int p2), (3, .int p3), (4, .int p4), (5, .int p5), (6, .int p6), (7, .int x1), (8, .int x10), (9, .int x21), (10, .int x35)]) C dX4_serves_102 (by decide) rfl ?_
      obtain ⟨m55, eo54, z53⟩ := bind_ex z39
      refine gq_widen (k' := 0) (n' := 0) (Nat.le_of_ble_eq_true rfl) (Nat.le_of_ble_eq_true rfl) (gq_sub [3, 4, 5, 6, 7, 8, 9, 12, 13, 2, 1, 0] rfl ?_)
      refine l_X4_serves_104 hN C  qFuel _ _ _ eo54 ?_
      refine gq_sipush (v := 242) C dX4_serves_142 (by decide) ?_
      refine gq_bipush (v := 8) C dX4_serves_145 (by decide) ?_
      refine gq_aload_n C dX4_serves_147 rfl 0 rfl ?_
      refine gq_get5 C (qn_m 295 (by decide) hN) (by decide) 1 (by decide) wk_6_163 rfl dX4_serves_148 ?_
      refine gq_bipush (v := 56) C dX4_serves_151 (by decide) ?_
      obtain ⟨x56, ex56, z57⟩ := bind_ex z53
      refine gq_ialoadI C (qn_m 296 (by decide) hN) (by decide) ex56 dX4_serves_153 ?_
      refine gq_imul C dX4_serves_154 ?_
      refine gq_iadd C dX4_serves_155 ?_
      refine gq_istore (lv' := [(13, .int ((242 : Int32) + ((8 : Int32) * x56))), (0, .ref (eB E + 295)), (1, .int p1), (2, .int p2), (3, .int p3), (4, .int p4), (5, .int p5), (6, .int p6), (9, .int x21), (10, .int x35), (11, .int x38), (12, .int x41)]) C dX4_serves_156 (by decide) rfl ?_
      refine gq_aload_n C dX4_serves_158 rfl 1 rfl ?_
      refine gq_get5 C (qn_m 295 (by decide) hN) (by decide) 1 (by decide) wk_6_163 rfl dX4_serves_159 ?_
      refine gq_bipush (v := 56) C dX4_serves_162 (by decide) ?_
      refine gq_dup2 C dX4_serves_164 ?_
      obtain ⟨x58, ex58, z59⟩ := bind_ex z57
      refine gq_ialoadI C (qn_m 296 (by decide) hN) (by decide) ex58 dX4_serves_165 ?_
      refine gq_iconst (v := 1) C dX4_serves_166 (by decide) ?_
      refine gq_iadd C dX4_serves_167 ?_
      obtain ⟨m60, em60, z61⟩ := bind_ex z59
      refine gq_iastore C (qn_m 296 (by decide) hN) (by decide) em60 dX4_serves_168 ?_
      refine gq_aload_n C dX4_serves_169 rfl 1 rfl ?_
      refine gq_get5 C (qn_m 295 (by decide) hN) (by decide) 1 (by decide) wk_6_163 rfl dX4_serves_170 ?_
      refine gq_iload C dX4_serves_173 0 rfl ?_
      refine gq_iload_n C dX4_serves_175 rfl 2 rfl ?_
      obtain ⟨m62, em62, z63⟩ := bind_ex z61
      refine gq_iastore C (qn_m 296 (by decide) hN) (by decide) em62 dX4_serves_176 ?_
      refine gq_aload_n C dX4_serves_177 rfl 1 rfl ?_
      refine gq_get5 C (qn_m 295 (by decide) hN) (by decide) 1 (by decide) wk_6_163 rfl dX4_serves_178 ?_
      refine gq_iload C dX4_serves_181 0 rfl ?_
      refine gq_iconst (v := 1) C dX4_serves_183 (by decide) ?_
      refine gq_iadd C dX4_serves_184 ?_
      refine gq_iload_n C dX4_serves_185 rfl 3 rfl ?_
      obtain ⟨m64, em64, z65⟩ := bind_ex z63
      refine gq_iastore C (qn_m 296 (by decide) hN) (by decide) em64 dX4_serves_186 ?_
      refine gq_aload_n C dX4_serves_187 rfl 1 rfl ?_
      refine gq_get5 C (qn_m 295 (by decide) hN) (by decide) 1 (by decide) wk_6_163 rfl dX4_serves_188 ?_
      refine gq_iload C dX4_serves_191 0 rfl ?_
      refine gq_iconst (v := 2) C dX4_serves_193 (by decide) ?_
      refine gq_iadd C dX4_serves_194 ?_
      refine gq_iload_n C dX4_serves_195 rfl 4 rfl ?_
      obtain ⟨m66, em66, z67⟩ := bind_ex z65
      refine gq_iastore C (qn_m 296 (by decide) hN) (by decide) em66 dX4_serves_196 ?_
      refine gq_aload_n C dX4_serves_197 rfl 1 rfl ?_
      refine gq_get5 C (qn_m 295 (by decide) hN) (by decide) 1 (by decide) wk_6_163 rfl dX4_serves_198 ?_
      refine gq_iload C dX4_serves_201 0 rfl ?_
      refine gq_iconst (v := 3) C dX4_serves_203 (by decide) ?_
      refine gq_iadd C dX4_serves_204 ?_
      refine gq_iload C dX4_serves_205 5 rfl ?_
      obtain ⟨m68, em68, z69⟩ := bind_ex z67
      refine gq_iastore C (qn_m 296 (by decide) hN) (by decide) em68 dX4_serves_207 ?_
      refine gq_aload_n C dX4_serves_208 rfl 1 rfl ?_
      refine gq_get5 C (qn_m 295 (by decide) hN) (by decide) 1 (by decide) wk_6_163 rfl dX4_serves_209 ?_
      refine gq_iload C dX4_serves_212 0 rfl ?_
      refine gq_iconst (v := 4) C dX4_serves_214 (by decide) ?_
      refine gq_iadd C dX4_serves_215 ?_
      refine gq_iload C dX4_serves_216 6 rfl ?_
      obtain ⟨m70, em70, z71⟩ := bind_ex z69
      refine gq_iastore C (qn_m 296 (by decide) hN) (by decide) em70 dX4_serves_218 ?_
      refine gq_aload_n C dX4_serves_219 rfl 1 rfl ?_
      refine gq_get5 C (qn_m 295 (by decide) hN) (by decide) 1 (by decide) wk_6_163 rfl dX4_serves_220 ?_
      refine gq_iload C dX4_serves_223 0 rfl ?_
      refine gq_iconst (v := 5) C dX4_serves_225 (by decide) ?_
      refine gq_iadd C dX4_serves_226 ?_
      refine gq_iload C dX4_serves_227 9 rfl ?_
      obtain ⟨m72, em72, z73⟩ := bind_ex z71
      refine gq_iastore C (qn_m 296 (by decide) hN) (by decide) em72 dX4_serves_229 ?_
      refine gq_aload_n C dX4_serves_230 rfl 1 rfl ?_
      refine gq_get5 C (qn_m 295 (by decide) hN) (by decide) 1 (by decide) wk_6_163 rfl dX4_serves_231 ?_
      refine gq_iload C dX4_serves_234 0 rfl ?_
      refine gq_bipush (v := 6) C dX4_serves_236 (by decide) ?_
      refine gq_iadd C dX4_serves_238 ?_
      refine gq_iload C dX4_serves_239 10 rfl ?_
      obtain ⟨m74, em74, z75⟩ := bind_ex z73
      refine gq_iastore C (qn_m 296 (by decide) hN) (by decide) em74 dX4_serves_241 ?_
      refine gq_aload_n C dX4_serves_242 rfl 1 rfl ?_
      refine gq_get5 C (qn_m 295 (by decide) hN) (by decide) 1 (by decide) wk_6_163 rfl dX4_serves_243 ?_
      refine gq_iload C dX4_serves_246 0 rfl ?_
      refine gq_bipush (v := 7) C dX4_serves_248 (by decide) ?_
      refine gq_iadd C dX4_serves_250 ?_
      refine gq_iload C dX4_serves_251 11 rfl ?_
      obtain ⟨m76, em76, z77⟩ := bind_ex z75
      refine gq_iastore C (qn_m 296 (by decide) hN) (by decide) em76 dX4_serves_253 ?_
      refine gq_aload_n C dX4_serves_254 rfl 1 rfl ?_
      refine gq_get5 C (qn_m 295 (by decide) hN) (by decide) 1 (by decide) wk_6_163 rfl dX4_serves_255 ?_
      refine gq_sipush (v := 394) C dX4_serves_258 (by decide) ?_
      refine gq_iconst (v := 5) C dX4_serves_261 (by decide) ?_
      refine gq_iload C dX4_serves_262 5 rfl ?_
      refine gq_imul C dX4_serves_264 ?_
      refine gq_iadd C dX4_serves_265 ?_
      refine gq_iconst (v := 3) C dX4_serves_266 (by decide) ?_
      refine gq_iadd C dX4_serves_267 ?_
      refine gq_dup2 C dX4_serves_268 ?_
      obtain ⟨x78, ex78, z79⟩ := bind_ex z77
      refine gq_ialoadI C (qn_m 296 (by decide) hN) (by decide) ex78 dX4_serves_269 ?_
      refine gq_iload C dX4_serves_270 9 rfl ?_
      refine gq_iadd C dX4_serves_272 ?_
      obtain ⟨m80, em80, z81⟩ := bind_ex z79
      refine gq_iastore C (qn_m 296 (by decide) hN) (by decide) em80 dX4_serves_273 ?_
      refine gq_aload_n C dX4_serves_274 rfl 1 rfl ?_
      refine gq_get5 C (qn_m 295 (by decide) hN) (by decide) 1 (by decide) wk_6_163 rfl dX4_serves_275 ?_
      refine gq_sipush (v := 394) C dX4_serves_278 (by decide) ?_
      refine gq_iconst (v := 5) C dX4_serves_281 (by decide) ?_
      refine gq_iload C dX4_serves_282 8 rfl ?_
      refine gq_imul C dX4_serves_284 ?_
      refine gq_iadd C dX4_serves_285 ?_
      refine gq_iconst (v := 4) C dX4_serves_286 (by decide) ?_
      refine gq_iadd C dX4_serves_287 ?_
      refine gq_dup2 C dX4_serves_288 ?_
      obtain ⟨x82, ex82, z83⟩ := bind_ex z81
      refine gq_ialoadI C (qn_m 296 (by decide) hN) (by decide) ex82 dX4_serves_289 ?_
      refine gq_iload C dX4_serves_290 11 rfl ?_
      refine gq_iadd C dX4_serves_292 ?_
      obtain ⟨m84, em84, z85⟩ := bind_ex z83
      refine gq_iastore C (qn_m 296 (by decide) hN) (by decide) em84 dX4_serves_293 ?_
      refine gq_aload_n C dX4_serves_294 rfl 1 rfl ?_
      refine gq_get5 C (qn_m 295 (by decide) hN) (by decide) 1 (by decide) wk_6_163 rfl dX4_serves_295 ?_
      refine gq_iload_n C dX4_serves_298 rfl 3 rfl ?_
      refine gq_bipush (v := 7) C dX4_serves_299 (by decide) ?_
      obtain ⟨x88, eo87, z86⟩ := bind_ex z85
      refine gq_S (As := [.int p2, .int (7 : Int32)]) (rest := [.ref (eB E + 296)]) C (c_X4_rightAt hN  eo87) wk_7_88 wk_7_89 wk_1_9 wk_7_90 hd_X4_rightAt ⟨(Nat.le_of_ble_eq_true rfl), (Nat.le_of_ble_eq_true rfl)⟩ (Nat.le_of_ble_eq_true rfl) ⟨(Nat.le_of_ble_eq_true rfl), (Nat.le_of_ble_eq_true rfl)⟩ dX4_serves_301 rfl rfl ?_
      refine gq_dup2 C dX4_serves_304 ?_
      obtain ⟨x89, ex89, z90⟩ := bind_ex z86
      refine gq_ialoadI C (qn_m 296 (by decide) hN) (by decide) ex89 dX4_serves_305 ?_
      refine gq_iload C dX4_serves_306 9 rfl ?_
      refine gq_iadd C dX4_serves_308 ?_
      obtain ⟨m91, em91, z92⟩ := bind_ex z90
      refine gq_iastore C (qn_m 296 (by decide) hN) (by decide) em91 dX4_serves_309 ?_
      refine gq_aload_n C dX4_serves_310 rfl 1 rfl ?_
      refine gq_get5 C (qn_m 295 (by decide) hN) (by decide) 1 (by decide) wk_6_163 rfl dX4_serves_311 ?_
      refine gq_iload_n C dX4_serves_314 rfl 3 rfl ?_
      refine gq_bipush (v := 8) C dX4_serves_315 (by decide) ?_
      obtain ⟨x95, eo94, z93⟩ := bind_ex z92
      refine gq_S (As := [.int p2, .int (8 : Int32)]) (rest := [.ref (eB E + 296)]) C (c_X4_rightAt hN  eo94) wk_7_88 wk_7_89 wk_1_9 wk_7_90 hd_X4_rightAt ⟨(Nat.le_of_ble_eq_true rfl), (Nat.le_of_ble_eq_true rfl)⟩ (Nat.le_of_ble_eq_true rfl) ⟨(Nat.le_of_ble_eq_true rfl), (Nat.le_of_ble_eq_true rfl)⟩ dX4_serves_317 rfl rfl ?_
      refine gq_dup2 C dX4_serves_320 ?_
      obtain ⟨x96, ex96, z97⟩ := bind_ex z93
      refine gq_ialoadI C (qn_m 296 (by decide) hN) (by decide) ex96 dX4_serves_321 ?_
      refine gq_iload C dX4_serves_322 11 rfl ?_
      refine gq_iadd C dX4_serves_324 ?_
      obtain ⟨m98, em98, z99⟩ := bind_ex z97
      refine gq_iastore C (qn_m 296 (by decide) hN) (by decide) em98 dX4_serves_325 ?_
      refine gq_aload_n C dX4_serves_326 rfl 1 rfl ?_
      refine gq_get5 C (qn_m 295 (by decide) hN) (by decide) 1 (by decide) wk_6_163 rfl dX4_serves_327 ?_
      refine gq_bipush (v := 31) C dX4_serves_330 (by decide) ?_
      refine gq_iload_n C dX4_serves_332 rfl 4 rfl ?_
      refine gq_iadd C dX4_serves_333 ?_
      refine gq_dup2 C dX4_serves_334 ?_
      obtain ⟨x100, ex100, z101⟩ := bind_ex z99
      refine gq_ialoadI C (qn_m 296 (by decide) hN) (by decide) ex100 dX4_serves_335 ?_
      refine gq_iload C dX4_serves_336 9 rfl ?_
      refine gq_iadd C dX4_serves_338 ?_
      obtain ⟨m102, em102, z103⟩ := bind_ex z101
      refine gq_iastore C (qn_m 296 (by decide) hN) (by decide) em102 dX4_serves_339 ?_
      refine gq_aload_n C dX4_serves_340 rfl 1 rfl ?_
      refine gq_get5 C (qn_m 295 (by decide) hN) (by decide) 1 (by decide) wk_6_163 rfl dX4_serves_341 ?_
      refine gq_bipush (v := 26) C dX4_serves_344 (by decide) ?_
      refine gq_aload_n C dX4_serves_346 rfl 1 rfl ?_
      refine gq_iload_n C dX4_serves_347 rfl 3 rfl ?_
      refine gq_iconst (v := 0) C dX4_serves_348 (by decide) ?_
      obtain ⟨x106, eo105, z104⟩ := bind_ex z103
      refine gq_V (As := [.int p2, .int (0 : Int32)]) (rest := [.int (26 : Int32), .ref (eB E + 296)]) (j := 5) C (c_X4_rightOf hN  eo105) (qn_m 295 (by decide) hN) (by decide) (by decide) rfl wk_7_179 wk_7_181 ws_X4_rightOf wk_1_9 wk_7_182 hd_X4_rightOf ⟨(Nat.le_of_ble_eq_true rfl), (Nat.le_of_ble_eq_true rfl)⟩ (Nat.le_of_ble_eq_true rfl) ⟨(Nat.le_of_ble_eq_true rfl), (Nat.le_of_ble_eq_true rfl)⟩ dX4_serves_349 rfl rfl ?_
      refine gq_iadd C dX4_serves_352 ?_
      refine gq_dup2 C dX4_serves_353 ?_
      obtain ⟨x107, ex107, z108⟩ := bind_ex z104
      refine gq_ialoadI C (qn_m 296 (by decide) hN) (by decide) ex107 dX4_serves_354 ?_
      refine gq_iload C dX4_serves_355 10 rfl ?_
      refine gq_iadd C dX4_serves_357 ?_
      obtain ⟨m109, em109, z110⟩ := bind_ex z108
      refine gq_iastore C (qn_m 296 (by decide) hN) (by decide) em109 dX4_serves_358 ?_
      refine gq_aload_n C dX4_serves_359 rfl 1 rfl ?_
      refine gq_get5 C (qn_m 295 (by decide) hN) (by decide) 1 (by decide) wk_6_163 rfl dX4_serves_360 ?_
      refine gq_bipush (v := 53) C dX4_serves_363 (by decide) ?_
      refine gq_dup2 C dX4_serves_365 ?_
      obtain ⟨x111, ex111, z112⟩ := bind_ex z110
      refine gq_ialoadI C (qn_m 296 (by decide) hN) (by decide) ex111 dX4_serves_366 ?_
      refine gq_iload C dX4_serves_367 10 rfl ?_
      refine gq_iadd C dX4_serves_369 ?_
      obtain ⟨m113, em113, z114⟩ := bind_ex z112
      refine gq_iastore C (qn_m 296 (by decide) hN) (by decide) em113 dX4_serves_370 ?_
      refine gq_aload_n C dX4_serves_371 rfl 1 rfl ?_
      refine gq_get5 C (qn_m 295 (by decide) hN) (by decide) 21 (by decide) wk_6_183 rfl dX4_serves_372 ?_
      refine gq_iload_n C dX4_serves_375 rfl 3 rfl ?_
      refine gq_aload_n C dX4_serves_376 rfl 1 rfl ?_
      refine gq_get5 C (qn_m 295 (by decide) hN) (by decide) 21 (by decide) wk_6_183 rfl dX4_serves_377 ?_
      refine gq_iload_n C dX4_serves_380 rfl 3 rfl ?_
      obtain ⟨x115, ex115, z116⟩ := bind_ex z114
      refine gq_baloadZ C (qn_m 308 (by decide) hN) (by decide) ex115 dX4_serves_381 ?_
      obtain ⟨x117, z118, z119⟩ := bind_ex z116
      refine gq_join (k' := 0) (n' := 0) (pc' := 397) (lv' := [(0, .ref (eB E + 295)), (1, .int p1), (2, .int p2), (3, .int p3), (6, .int p6), (10, .int x35)]) (st' := [.int x117, .int p2, .ref (eB E + 308)]) (μ' := m113) ?_ (fun J397 => ?_)
      · obtain ⟨m125, em125, z126⟩ := bind_ex z119
        refine gq_bastoreZ C (qn_m 308 (by decide) hN) (by decide) em125 dX4_serves_397 ?_
        refine gq_iload_n C dX4_serves_398 rfl 1 rfl ?_
        rcases ite_ex z126 with ⟨c127, z128⟩ | ⟨c127, z128⟩
        · refine gq_if_eq_t (tgt := 438) C dX4_serves_399 (by decide) c127 ?_
          cases z128
          exact gq_vret C hr dX4_serves_438 (Nat.le_of_ble_eq_true rfl) (Nat.le_of_ble_eq_true rfl)
        · refine gq_if_eq_f (tgt := 438) C dX4_serves_399 (by decide) c127 ?_
          refine gq_aload_n C dX4_serves_402 rfl 0 rfl ?_
          refine gq_iload_n C dX4_serves_403 rfl 3 rfl ?_
          refine gq_aload_n C dX4_serves_404 rfl 0 rfl ?_
          refine gq_iload_n C dX4_serves_405 rfl 2 rfl ?_
          refine gq_iconst (v := 0) C dX4_serves_406 (by decide) ?_
          obtain ⟨x131, eo130, z129⟩ := bind_ex z128
          refine gq_V (As := [.int p2, .int (0 : Int32)]) (rest := [.int p3, .ref (eB E + 295)]) (j := 5) C (c_X4_rightOf hN  eo130) (qn_m 295 (by decide) hN) (by decide) (by decide) rfl wk_7_179 wk_7_181 ws_X4_rightOf wk_1_9 wk_7_182 hd_X4_rightOf ⟨(Nat.le_of_ble_eq_true rfl), (Nat.le_of_ble_eq_true rfl)⟩ (Nat.le_of_ble_eq_true rfl) ⟨(Nat.le_of_ble_eq_true rfl), (Nat.le_of_ble_eq_true rfl)⟩ dX4_serves_407 rfl rfl ?_
          refine gq_iload C dX4_serves_410 5 rfl ?_
          refine gq_i2l C dX4_serves_412 ?_
          refine gq_iload C dX4_serves_413 4 rfl ?_
          refine gq_i2l C dX4_serves_415 ?_
          refine gq_lmul C dX4_serves_416 ?_
          obtain ⟨m134, eo133, z132⟩ := bind_ex z129
          refine gq_V (As := [.int p3, .int x131, .long ((Int32.toInt64 x35) * (Int32.toInt64 p6))]) (rest := []) (j := 5) C (c_X4_pays hN  eo133) (qn_m 295 (by decide) hN) (by decide) (by decide) rfl wk_8_83 wk_8_85 ws_X4_pays wk_1_9 wk_8_86 hd_X4_pays ⟨(Nat.le_of_ble_eq_true rfl), (Nat.le_of_ble_eq_true rfl)⟩ (Nat.le_of_ble_eq_true rfl) ⟨(Nat.le_of_ble_eq_true rfl), (Nat.le_of_ble_eq_true rfl)⟩ dX4_serves_417 rfl rfl ?_
          refine gq_aload_n C dX4_serves_420 rfl 0 rfl ?_
          refine gq_get5 C (qn_m 295 (by decide) hN) (by decide) 5 (by decide) wk_6_167 rfl dX4_serves_421 ?_
          refine gq_iconst (v := 5) C dX4_serves_424 (by decide) ?_
          refine gq_iload_n C dX4_serves_425 rfl 2 rfl ?_
          refine gq_iadd C dX4_serves_426 ?_
          refine gq_dup2 C dX4_serves_427 ?_
          obtain ⟨x135, ex135, z136⟩ := bind_ex z132
          refine gq_laloadL C (qn_m 300 (by decide) hN) (by decide) ex135 dX4_serves_428 ?_
          refine gq_iload C dX4_serves_429 5 rfl ?_
          refine gq_i2l C dX4_serves_431 ?_
          refine gq_iload C dX4_serves_432 4 rfl ?_
          refine gq_i2l C dX4_serves_434 ?_
          refine gq_lmul C dX4_serves_435 ?_
          refine gq_ladd C dX4_serves_436 ?_
          obtain ⟨m137, em137, z138⟩ := bind_ex z136
          refine gq_lastore C (qn_m 300 (by decide) hN) (by decide) em137 dX4_serves_437 ?_
          cases z138
          exact gq_vret C hr dX4_serves_438 (Nat.le_of_ble_eq_true rfl) (Nat.le_of_ble_eq_true rfl)
      · rcases ite_ex z118 with ⟨c120, z121⟩ | ⟨c120, z121⟩
        · refine gq_if_ne_f (tgt := 392) C dX4_serves_382 (by decide) c120 ?_
          refine gq_iload C dX4_serves_385 9 rfl ?_
          refine gq_iload C dX4_serves_387 6 rfl ?_
          rcases ite_ex z121 with ⟨c122, z123⟩ | ⟨c122, z123⟩
          · refine gq_icmp_ge_t (tgt := 396) C dX4_serves_389 (by decide) c122 ?_
            refine gq_iconst (v := 0) C dX4_serves_396 (by decide) ?_
            cases z123
            exact gq_widen (Nat.le_of_ble_eq_true rfl) (Nat.le_of_ble_eq_true rfl) (gq_sub [1, 2, 3, 4, 7, 9] rfl J397)
          · refine gq_icmp_ge_f (tgt := 396) C dX4_serves_389 (by decide) c122 ?_
            refine gq_iconst (v := 1) C dX4_serves_392 (by decide) ?_
            refine gq_goto (tgt := 397) C dX4_serves_393 (by decide) ?_
            cases z123
            exact gq_widen (Nat.le_of_ble_eq_true rfl) (Nat.le_of_ble_eq_true rfl) (gq_sub [1, 2, 3, 4, 7, 9] rfl J397)
        · refine gq_if_ne_t (tgt := 392) C dX4_serves_382 (by decide) c120 ?_
          refine gq_iconst (v := 1) C dX4_serves_392 (by decide) ?_
          refine gq_goto (tgt := 397) C dX4_serves_393 (by decide) ?_
          cases z121
          exact gq_widen (Nat.le_of_ble_eq_true rfl) (Nat.le_of_ble_eq_true rfl) (gq_sub [1, 2, 3, 4, 7, 9] rfl J397)
    · rcases ite_ex z11 with ⟨c13, z14⟩ | ⟨c13, z14⟩
      · refine gq_if_ne_f (tgt := 30) C dX4_serves_18 (by decide) c13 ?_
        refine gq_aload_n C dX4_serves_21 rfl 1 rfl ?_
        refine gq_iload_n C dX4_serves_22 rfl 3 rfl ?_
        refine gq_iconst (v := 4) C dX4_serves_23 (by decide) ?_
        obtain ⟨x17, eo16, z15⟩ := bind_ex z14
        refine gq_V (As := [.int p2, .int (4 : Int32)]) (rest := []) (j := 5) C (c_X4_rightOf hN  eo16) (qn_m 295 (by decide) hN) (by decide) (by decide) rfl wk_7_179 wk_7_181 ws_X4_rightOf wk_1_9 wk_7_182 hd_X4_rightOf ⟨(Nat.le_of_ble_eq_true rfl), (Nat.le_of_ble_eq_true rfl)⟩ (Nat.le_of_ble_eq_true rfl) ⟨(Nat.le_of_ble_eq_true rfl), (Nat.le_of_ble_eq_true rfl)⟩ dX4_serves_24 rfl rfl ?_
        refine gq_goto (tgt := 31) C dX4_serves_27 (by decide) ?_
        cases z15
        exact gq_widen (Nat.le_of_ble_eq_true rfl) (Nat.le_of_ble_eq_true rfl) (gq_sub [1, 2, 3, 4, 5, 6, 7, 0] rfl J31)
      · refine gq_if_ne_t (tgt := 30) C dX4_serves_18 (by decide) c13 ?_
        refine gq_iconst (v := 0) C dX4_serves_30 (by decide) ?_
        cases z14
        exact gq_widen (Nat.le_of_ble_eq_true rfl) (Nat.le_of_ble_eq_true rfl) (gq_sub [1, 2, 3, 4, 5, 6, 7, 0] rfl J31)
  · rcases ite_ex z2 with ⟨c4, z5⟩ | ⟨c4, z5⟩
    · refine gq_if_ne_f (tgt := 14) C dX4_serves_1 (by decide) c4 ?_
      refine gq_aload_n C dX4_serves_4 rfl 0 rfl ?_
      refine gq_iload_n C dX4_serves_5 rfl 2 rfl ?_
      refine gq_bipush (v := 6) C dX4_serves_6 (by decide) ?_
      obtain ⟨x8, eo7, z6⟩ := bind_ex z5
      refine gq_V (As := [.int p2, .int (6 : Int32)]) (rest := []) (j := 5) C (c_X4_rightOf hN  eo7) (qn_m 295 (by decide) hN) (by decide) (by decide) rfl wk_7_179 wk_7_181 ws_X4_rightOf wk_1_9 wk_7_182 hd_X4_rightOf ⟨(Nat.le_of_ble_eq_true rfl), (Nat.le_of_ble_eq_true rfl)⟩ (Nat.le_of_ble_eq_true rfl) ⟨(Nat.le_of_ble_eq_true rfl), (Nat.le_of_ble_eq_true rfl)⟩ dX4_serves_8 rfl rfl ?_
      refine gq_goto (tgt := 15) C dX4_serves_11 (by decide) ?_
      cases z6
      exact gq_widen (Nat.le_of_ble_eq_true rfl) (Nat.le_of_ble_eq_true rfl) (gq_sub [0, 1, 2, 3, 4, 5, 6] rfl J15)
    · refine gq_if_ne_t (tgt := 14) C dX4_serves_1 (by decide) c4 ?_
      refine gq_iconst (v := 0) C dX4_serves_14 (by decide) ?_
      cases z5
      exact gq_widen (Nat.le_of_ble_eq_true rfl) (Nat.le_of_ble_eq_true rfl) (gq_sub [0, 1, 2, 3, 4, 5, 6] rfl J15)
abbrev rm_X4_without : Room := { frames := 2, cells := 0, slots := 0, locals := 43 }
def F_X4_without (p1 : Int32) (p2 : Int32) (μ : Mm) : Option Int32 :=
  (F_X4_rightOf p2 (4 : Int32) μ).bind fun o2 =>
  some ((p1 * ((100 : Int32) - o2)) / (100 : Int32))
set_option maxHeartbeats 4000000 in
set_option maxRecDepth 100000 in
theorem c_X4_without {l : Launch} {E : Ev} (hN : 311 ≤ eN E) {p1 : Int32} {p2 : Int32} {μ : Mm} {r : Int32} (z0 : F_X4_without p1 p2 μ = some r) : Ct l E yX4_without (Cond.code yX4_without cX4_without 3 (some .int) :: GW) rm_X4_without [.ref (eB E + 295), .int p1, .int p2] μ (some (.int r)) μ := by
  refine ct_of (by decide) (Nat.le_of_ble_eq_true rfl) (fun p e s m args below meth c C hr => ?_)
  have C : Cq E p s m args meth c cX4_without 3 RX4 := C
  refine gq_lv (lv' := [(0, .ref (eB E + 295)), (1, .int p1), (2, .int p2)]) rfl ?_
  unfold F_X4_without at z0
  refine gq_iload_n C dX4_without_0 rfl 1 rfl ?_
  refine gq_bipush (v := 100) C dX4_without_1 (by decide) ?_
  refine gq_aload_n C dX4_without_3 rfl 0 rfl ?_
  refine gq_iload_n C dX4_without_4 rfl 2 rfl ?_
  refine gq_iconst (v := 4) C dX4_without_5 (by decide) ?_
  obtain ⟨x3, eo2, z1⟩ := bind_ex z0
  refine gq_V (As := [.int p2, .int (4 : Int32)]) (rest := [.int (100 : Int32), .int p1]) (j := 5) C (c_X4_rightOf hN  eo2) (qn_m 295 (by decide) hN) (by decide) (by decide) rfl wk_7_179 wk_7_181 ws_X4_rightOf wk_1_9 wk_7_182 hd_X4_rightOf ⟨(Nat.le_of_ble_eq_true rfl), (Nat.le_of_ble_eq_true rfl)⟩ (Nat.le_of_ble_eq_true rfl) ⟨(Nat.le_of_ble_eq_true rfl), (Nat.le_of_ble_eq_true rfl)⟩ dX4_without_6 rfl rfl ?_
  refine gq_isub C dX4_without_9 ?_
  refine gq_imul C dX4_without_10 ?_
  refine gq_bipush (v := 100) C dX4_without_11 (by decide) ?_
  refine gq_idiv C dX4_without_13 (by decide) ?_
  cases z1
  exact gq_iret C hr dX4_without_14 (Nat.le_of_ble_eq_true rfl) (Nat.le_of_ble_eq_true rfl)
abbrev rm_X4_optionBy : Room := { frames := 2, cells := 0, slots := 0, locals := 44 }
def F_X4_optionBy_2 (u1 : Int32) (μ : Mm) : Nat → Int32 → Option Int32
  | 0, _ => none
  | n + 1, v2 =>
  (aI μ 296 (4 : Int32)).bind fun x1 =>
  if x1 ≤ v2 then
  (some (-1 : Int32))
  else
  ((F_X4_optionOf v2 (0 : Int32) μ).bind fun o6 =>
  if o6 = u1 then
  ((F_X4_isExercised v2 (0 : Int32) μ).bind fun o11 =>
  if o11 = 0 then
  (F_X4_optionBy_2 u1 μ n (v2 + 1))
  else
  (some v2))
  else
  (F_X4_optionBy_2 u1 μ n (v2 + 1)))
def F_X4_optionBy (p1 : Int32) (μ : Mm) : Option Int32 :=
  F_X4_optionBy_2 p1 μ qFuel (0 : Int32)
set_option maxHeartbeats 4000000 in
set_option maxRecDepth 100000 in
theorem l_X4_optionBy_2 {l : Launch} {E : Ev} (hN : 311 ≤ eN E) {p : Program} {e : Env} {s : State} {m : MethodId} {args : Array Value} {below : List Frame} {meth : Method} {c : Code} (C : Cq E p s m args meth c cX4_optionBy 3 RX4) (hr : meth.sig.returnType = (some .int)) {u1 : Int32} {μ : Mm} : ∀ (n : Nat) (v2 : Int32) (r : Int32), F_X4_optionBy_2 u1 μ n v2 = some r → Gq E p l e rm_X4_optionBy s m args below meth c 0 0 3 (MQ below (qQ E (some (.int r)) μ) args s rm_X4_optionBy.cells rm_X4_optionBy.slots (eA E)) 2 [(0, .ref (eB E + 295)), (1, .int u1), (2, .int v2)] [] μ := by
  intro n
  induction n with
  | zero =>
    intro v2 r z0
    rw [F_X4_optionBy_2] at z0
    cases z0
  | succ n ih =>
    intro v2 r z0
    rw [F_X4_optionBy_2] at z0
    refine gq_iload_n C dX4_optionBy_2 rfl 2 rfl ?_
    refine gq_aload_n C dX4_optionBy_3 rfl 0 rfl ?_
    refine gq_get5 C (qn_m 295 (by decide) hN) (by decide) 1 (by decide) wk_6_163 rfl dX4_optionBy_4 ?_
    refine gq_iconst (v := 4) C dX4_optionBy_7 (by decide) ?_
    obtain ⟨x1, ex1, z2⟩ := bind_ex z0
    refine gq_ialoadI C (qn_m 296 (by decide) hN) (by decide) ex1 dX4_optionBy_8 ?_
    rcases ite_ex z2 with ⟨c3, z4⟩ | ⟨c3, z4⟩
    · refine gq_icmp_ge_t (tgt := 39) C dX4_optionBy_9 (by decide) c3 ?_
      refine gq_iconst (v := -1) C dX4_optionBy_39 (by decide) ?_
      cases z4
      exact gq_iret C hr dX4_optionBy_40 (Nat.le_of_ble_eq_true rfl) (Nat.le_of_ble_eq_true rfl)
    · refine gq_icmp_ge_f (tgt := 39) C dX4_optionBy_9 (by decide) c3 ?_
      refine gq_aload_n C dX4_optionBy_12 rfl 0 rfl ?_
      refine gq_iload_n C dX4_optionBy_13 rfl 2 rfl ?_
      refine gq_iconst (v := 0) C dX4_optionBy_14 (by decide) ?_
      obtain ⟨x7, eo6, z5⟩ := bind_ex z4
      refine gq_V (As := [.int v2, .int (0 : Int32)]) (rest := []) (j := 5) C (c_X4_optionOf hN  eo6) (qn_m 295 (by decide) hN) (by decide) (by decide) rfl wk_7_207 wk_7_209 ws_X4_optionOf wk_1_9 wk_7_210 hd_X4_optionOf ⟨(Nat.le_of_ble_eq_true rfl), (Nat.le_of_ble_eq_true rfl)⟩ (Nat.le_of_ble_eq_true rfl) ⟨(Nat.le_of_ble_eq_true rfl), (Nat.le_of_ble_eq_true rfl)⟩ dX4_optionBy_15 rfl rfl ?_
      refine gq_iload_n C dX4_optionBy_18 rfl 1 rfl ?_
      rcases ite_ex z5 with ⟨c8, z9⟩ | ⟨c8, z9⟩
      · refine gq_icmp_ne_f (tgt := 33) C dX4_optionBy_19 (by decide) c8 ?_
        refine gq_aload_n C dX4_optionBy_22 rfl 0 rfl ?_
        refine gq_iload_n C dX4_optionBy_23 rfl 2 rfl ?_
        refine gq_iconst (v := 0) C dX4_optionBy_24 (by decide) ?_
        obtain ⟨x12, eo11, z10⟩ := bind_ex z9
        refine gq_V (As := [.int v2, .int (0 : Int32)]) (rest := []) (j := 5) C (c_X4_isExercised hN  eo11) (qn_m 295 (by decide) hN) (by decide) (by decide) rfl wk_7_211 wk_7_213 ws_X4_isExercised wk_1_9 wk_7_214 hd_X4_isExercised ⟨(Nat.le_of_ble_eq_true rfl), (Nat.le_of_ble_eq_true rfl)⟩ (Nat.le_of_ble_eq_true rfl) ⟨(Nat.le_of_ble_eq_true rfl), (Nat.le_of_ble_eq_true rfl)⟩ dX4_optionBy_25 rfl rfl ?_
        rcases ite_ex z10 with ⟨c13, z14⟩ | ⟨c13, z14⟩
        · refine gq_if_eq_t (tgt := 33) C dX4_optionBy_28 (by decide) c13 ?_
          refine gq_iinc (v := (v2 + 1)) (lv' := [(2, .int (v2 + 1)), (0, .ref (eB E + 295)), (1, .int u1)]) (q := 2) C dX4_optionBy_33 rfl rfl (by decide) rfl ?_
          refine gq_goto (tgt := 2) C dX4_optionBy_36 (by decide) ?_
          refine gq_widen (k' := 0) (n' := 0) (Nat.le_of_ble_eq_true rfl) (Nat.le_of_ble_eq_true rfl) (gq_sub [1, 2, 0] rfl ?_)
          exact ih _ _ z14
        · refine gq_if_eq_f (tgt := 33) C dX4_optionBy_28 (by decide) c13 ?_
          refine gq_iload_n C dX4_optionBy_31 rfl 2 rfl ?_
          cases z14
          exact gq_iret C hr dX4_optionBy_32 (Nat.le_of_ble_eq_true rfl) (Nat.le_of_ble_eq_true rfl)
      · refine gq_icmp_ne_t (tgt := 33) C dX4_optionBy_19 (by decide) c8 ?_
        refine gq_iinc (v := (v2 + 1)) (lv' := [(2, .int (v2 + 1)), (0, .ref (eB E + 295)), (1, .int u1)]) (q := 2) C dX4_optionBy_33 rfl rfl (by decide) rfl ?_
        refine gq_goto (tgt := 2) C dX4_optionBy_36 (by decide) ?_
        refine gq_widen (k' := 0) (n' := 0) (Nat.le_of_ble_eq_true rfl) (Nat.le_of_ble_eq_true rfl) (gq_sub [1, 2, 0] rfl ?_)
        exact ih _ _ z9
set_option maxHeartbeats 4000000 in
set_option maxRecDepth 100000 in
theorem c_X4_optionBy {l : Launch} {E : Ev} (hN : 311 ≤ eN E) {p1 : Int32} {μ : Mm} {r : Int32} (z0 : F_X4_optionBy p1 μ = some r) : Ct l E yX4_optionBy (Cond.code yX4_optionBy cX4_optionBy 3 (some .int) :: GW) rm_X4_optionBy [.ref (eB E + 295), .int p1] μ (some (.int r)) μ := by
  refine ct_of (by decide) (Nat.le_of_ble_eq_true rfl) (fun p e s m args below meth c C hr => ?_)
  have C : Cq E p s m args meth c cX4_optionBy 3 RX4 := C
  refine gq_lv (lv' := [(0, .ref (eB E + 295)), (1, .int p1)]) rfl ?_
  unfold F_X4_optionBy at z0
  refine gq_iconst (v := 0) C dX4_optionBy_0 (by decide) ?_
  refine gq_istore_n (lv' := [(2, .int (0 : Int32)), (0, .ref (eB E + 295)), (1, .int p1)]) C dX4_optionBy_1 rfl (by decide) rfl ?_
  refine gq_widen (k' := 0) (n' := 0) (Nat.le_of_ble_eq_true rfl) (Nat.le_of_ble_eq_true rfl) (gq_sub [1, 2, 0] rfl ?_)
  exact l_X4_optionBy_2 hN C hr  qFuel _ _ z0
abbrev rm_X4_claimsOf : Room := { frames := 3, cells := 0, slots := 0, locals := 82 }
def F_X4_claimsOf_57 (u1 : Int32) : Nat → Int32 → Int32 → Mm → Option (Int32 × Mm)
  | 0, _, _, _ => none
  | n + 1, v2, v3, μ =>
  (aI μ 296 (3 : Int32)).bind fun x19 =>
  if x19 ≤ v3 then
  (some (v2, μ))
  else
  ((F_X4_leaseOf v3 (0 : Int32) μ).bind fun o24 =>
  (if o24 = u1 then
  ((F_X4_leaseOf v3 (3 : Int32) μ).bind fun o33 =>
  (F_X4_lesser o33 v2 μ).bind fun o36 =>
  (F_X4_leaseOf v3 (1 : Int32) μ).bind fun o39 =>
  (F_X4_leaseOf v3 (2 : Int32) μ).bind fun o42 =>
  (F_X4_without o36 u1 μ).bind fun o45 =>
  (F_X4_leaseOf v3 (4 : Int32) μ).bind fun o48 =>
  (F_X4_serves (1 : Int32) u1 o39 o42 o45 o48 μ).bind fun o51 =>
  some ((v2 - o36), o51))
  else
  (some (v2, μ))).bind fun o53 =>
  F_X4_claimsOf_57 u1 n o53.1 (v3 + 1) o53.2)
def F_X4_claimsOf (p1 : Int32) (μ : Mm) : Option Mm :=
  (F_X4_rightOf p1 (3 : Int32) μ).bind fun o2 =>
  (sZ μ 308 p1 (0 : Int32)).bind fun m4 =>
  if p1 = (m4.1 295 26) then
  (some m4)
  else
  (if p1 = (m4.1 295 22) then
  ((F_X4_rightOf p1 (0 : Int32) m4).bind fun o11 =>
  (F_X4_without o2 p1 m4).bind fun o14 =>
  (F_X4_serves (1 : Int32) p1 o11 (m4.1 295 23) o14 (0 : Int32) m4).bind fun o17 =>
  some o17)
  else
  ((F_X4_claimsOf_57 p1 qFuel o2 (0 : Int32) m4).bind fun o55 =>
  (if p1 = (o55.2.1 295 24) then
  ((F_X4_lesser (o55.2.1 295 25) o55.1 o55.2).bind fun o65 =>
  (F_X4_rightOf p1 (0 : Int32) o55.2).bind fun o68 =>
  (F_X4_without o65 p1 o55.2).bind fun o71 =>
  (F_X4_serves (1 : Int32) p1 o68 (o55.2.1 295 23) o71 (0 : Int32) o55.2).bind fun o74 =>
  some ((o55.1 - o65), o74))
  else
  (some (o55.1, o55.2))).bind fun o76 =>
  (F_X4_optionBy p1 o76.2).bind fun o78 =>
  if o78 = (-1 : Int32) then
  ((F_X4_rightOf p1 (0 : Int32) o76.2).bind fun o83 =>
  (F_X4_rightOf p1 (1 : Int32) o76.2).bind fun o86 =>
  (F_X4_serves (0 : Int32) p1 o83 o86 o76.1 (0 : Int32) o76.2).bind fun o89 =>
  some o89)
  else
  ((F_X4_optionOf o78 (1 : Int32) o76.2).bind fun o92 =>
  (F_X4_optionOf o78 (2 : Int32) o76.2).bind fun o95 =>
  (F_X4_without o76.1 p1 o76.2).bind fun o98 =>
  (F_X4_optionOf o78 (5 : Int32) o76.2).bind fun o101 =>
  (F_X4_serves (2 : Int32) p1 o92 o95 o98 o101 o76.2).bind fun o104 =>
  some o104)))
set_option maxHeartbeats 4000000 in
set_option maxRecDepth 100000 in
theorem l_X4_claimsOf_57 {l : Launch} {E : Ev} (hN : 311 ≤ eN E) {p : Program} {e : Env} {s : State} {m : MethodId} {args : Array Value} {below : List Frame} {meth : Method} {c : Code} (C : Cq E p s m args meth c cX4_claimsOf 5 RX4) {Q : State → Prop} {u1 : Int32} : ∀ (n : Nat) (v2 : Int32) (v3 : Int32) (μ : Mm) (w2 : Int32) (μx : Mm), F_X4_claimsOf_57 u1 n v2 v3 μ = some (w2, μx) → Gq E p l e rm_X4_claimsOf s m args below meth c 0 0 5 Q 131 [(0, .ref (eB E + 295)), (1, .int u1), (2, .int w2)] [] μx → Gq E p l e rm_X4_claimsOf s m args below meth c 0 0 5 Q 57 [(0, .ref (eB E + 295)), (1, .int u1), (2, .int v2), (3, .int v3)] [] μ := by
  intro n
  induction n with
  | zero =>
    intro v2 v3 μ w2 μx z0 kk
    rw [F_X4_claimsOf_57] at z0
    cases z0
  | succ n ih =>
    intro v2 v3 μ w2 μx z0 kk
    rw [F_X4_claimsOf_57] at z0
    refine gq_iload_n C dX4_claimsOf_57 rfl 3 rfl ?_
    refine gq_aload_n C dX4_claimsOf_58 rfl 0 rfl ?_
    refine gq_get5 C (qn_m 295 (by decide) hN) (by decide) 1 (by decide) wk_6_163 rfl dX4_claimsOf_59 ?_
    refine gq_iconst (v := 3) C dX4_claimsOf_62 (by decide) ?_
    obtain ⟨x19, ex19, z20⟩ := bind_ex z0
    refine gq_ialoadI C (qn_m 296 (by decide) hN) (by decide) ex19 dX4_claimsOf_63 ?_
    rcases ite_ex z20 with ⟨c21, z22⟩ | ⟨c21, z22⟩
    · refine gq_icmp_ge_t (tgt := 131) C dX4_claimsOf_64 (by decide) c21 ?_
      cases z22
      exact gq_widen (Nat.le_of_ble_eq_true rfl) (Nat.le_of_ble_eq_true rfl) (gq_sub [0, 1, 2] rfl kk)
    · refine gq_icmp_ge_f (tgt := 131) C dX4_claimsOf_64 (by decide) c21 ?_
      refine gq_aload_n C dX4_claimsOf_67 rfl 0 rfl ?_
      refine gq_iload_n C dX4_claimsOf_68 rfl 3 rfl ?_
      refine gq_iconst (v := 0) C dX4_claimsOf_69 (by decide) ?_
      obtain ⟨x25, eo24, z23⟩ := bind_ex z22
      refine gq_V (As := [.int v3, .int (0 : Int32)]) (rest := []) (j := 5) C (c_X4_leaseOf hN  eo24) (qn_m 295 (by decide) hN) (by decide) (by decide) rfl wk_7_199 wk_7_201 ws_X4_leaseOf wk_1_9 wk_7_202 hd_X4_leaseOf ⟨(Nat.le_of_ble_eq_true rfl), (Nat.le_of_ble_eq_true rfl)⟩ (Nat.le_of_ble_eq_true rfl) ⟨(Nat.le_of_ble_eq_true rfl), (Nat.le_of_ble_eq_true rfl)⟩ dX4_claimsOf_70 rfl rfl ?_
      refine gq_iload_n C dX4_claimsOf_73 rfl 1 rfl ?_
      obtain ⟨⟨x26, m27⟩, z28, z29⟩ := bind_ex z23
      dsimp only at z29
      refine gq_join (k' := 0) (n' := 0) (pc' := 125) (lv' := [(0, .ref (eB E + 295)), (1, .int u1), (2, .int x26), (3, .int v3)]) (st' := []) (μ' := m27) ?_ (fun J125 => ?_)
      · refine gq_iinc (v := (v3 + 1)) (lv' := [(3, .int (v3 + 1)), (0, .ref (eB E + 295)), (1, .int u1), (2, .int x26)]) (q := 3) C dX4_claimsOf_125 rfl rfl (by decide) rfl ?_
        refine gq_goto (tgt := 57) C dX4_claimsOf_128 (by decide) ?_
        refine gq_widen (k' := 0) (n' := 0) (Nat.le_of_ble_eq_true rfl) (Nat.le_of_ble_eq_true rfl) (gq_sub [1, 2, 3, 0] rfl ?_)
        exact ih _ _ _ _ _ z29 kk
      · rcases ite_ex z28 with ⟨c30, z31⟩ | ⟨c30, z31⟩
        · refine gq_icmp_ne_f (tgt := 125) C dX4_claimsOf_74 (by decide) c30 ?_
          refine gq_aload_n C dX4_claimsOf_77 rfl 0 rfl ?_
          refine gq_iload_n C dX4_claimsOf_78 rfl 3 rfl ?_
          refine gq_iconst (v := 3) C dX4_claimsOf_79 (by decide) ?_
          obtain ⟨x34, eo33, z32⟩ := bind_ex z31
          refine gq_V (As := [.int v3, .int (3 : Int32)]) (rest := []) (j := 5) C (c_X4_leaseOf hN  eo33) (qn_m 295 (by decide) hN) (by decide) (by decide) rfl wk_7_199 wk_7_201 ws_X4_leaseOf wk_1_9 wk_7_202 hd_X4_leaseOf ⟨(Nat.le_of_ble_eq_true rfl), (Nat.le_of_ble_eq_true rfl)⟩ (Nat.le_of_ble_eq_true rfl) ⟨(Nat.le_of_ble_eq_true rfl), (Nat.le_of_ble_eq_true rfl)⟩ dX4_claimsOf_80 rfl rfl ?_
          refine gq_iload_n C dX4_claimsOf_83 rfl 2 rfl ?_
          obtain ⟨x37, eo36, z35⟩ := bind_ex z32
          refine gq_S (As := [.int x34, .int v2]) (rest := []) C (c_X4_lesser hN  eo36) wk_8_109 wk_8_110 wk_1_9 wk_8_111 hd_X4_lesser ⟨(Nat.le_of_ble_eq_true rfl), (Nat.le_of_ble_eq_true rfl)⟩ (Nat.le_of_ble_eq_true rfl) ⟨(Nat.le_of_ble_eq_true rfl), (Nat.le_of_ble_eq_true rfl)⟩ dX4_claimsOf_84 rfl rfl ?_
          refine gq_istore (lv' := [(4, .int x37), (0, .ref (eB E + 295)), (1, .int u1), (2, .int v2), (3, .int v3)]) C dX4_claimsOf_87 (by decide) rfl ?_
          refine gq_iload_n C dX4_claimsOf_89 rfl 3 rfl ?_
          refine gq_iload C dX4_claimsOf_90 0 rfl ?_
          refine gq_isub C dX4_claimsOf_92 ?_
          refine gq_istore_n (lv' := [(2, .int (v2 - x37)), (4, .int x37), (0, .ref (eB E + 295)), (1, .int u1), (3, .int v3)]) C dX4_claimsOf_93 rfl (by decide) rfl ?_
          refine gq_aload_n C dX4_claimsOf_94 rfl 2 rfl ?_
          refine gq_iconst (v := 1) C dX4_claimsOf_95 (by decide) ?_
          refine gq_iload_n C dX4_claimsOf_96 rfl 3 rfl ?_
          refine gq_aload_n C dX4_claimsOf_97 rfl 2 rfl ?_
          refine gq_iload_n C dX4_claimsOf_98 rfl 4 rfl ?_
          refine gq_iconst (v := 1) C dX4_claimsOf_99 (by decide) ?_
          obtain ⟨x40, eo39, z38⟩ := bind_ex z35
          refine gq_V (As := [.int v3, .int (1 : Int32)]) (rest := [.int u1, .int (1 : Int32), .ref (eB E + 295)]) (j := 5) C (c_X4_leaseOf hN  eo39) (qn_m 295 (by decide) hN) (by decide) (by decide) rfl wk_7_199 wk_7_201 ws_X4_leaseOf wk_1_9 wk_7_202 hd_X4_leaseOf ⟨(Nat.le_of_ble_eq_true rfl), (Nat.le_of_ble_eq_true rfl)⟩ (Nat.le_of_ble_eq_true rfl) ⟨(Nat.le_of_ble_eq_true rfl), (Nat.le_of_ble_eq_true rfl)⟩ dX4_claimsOf_100 rfl rfl ?_
          refine gq_aload_n C dX4_claimsOf_103 rfl 2 rfl ?_
          refine gq_iload_n C dX4_claimsOf_104 rfl 4 rfl ?_
          refine gq_iconst (v := 2) C dX4_claimsOf_105 (by decide) ?_
          obtain ⟨x43, eo42, z41⟩ := bind_ex z38
          refine gq_V (As := [.int v3, .int (2 : Int32)]) (rest := [.int x40, .int u1, .int (1 : Int32), .ref (eB E + 295)]) (j := 5) C (c_X4_leaseOf hN  eo42) (qn_m 295 (by decide) hN) (by decide) (by decide) rfl wk_7_199 wk_7_201 ws_X4_leaseOf wk_1_9 wk_7_202 hd_X4_leaseOf ⟨(Nat.le_of_ble_eq_true rfl), (Nat.le_of_ble_eq_true rfl)⟩ (Nat.le_of_ble_eq_true rfl) ⟨(Nat.le_of_ble_eq_true rfl), (Nat.le_of_ble_eq_true rfl)⟩ dX4_claimsOf_106 rfl rfl ?_
          refine gq_aload_n C dX4_claimsOf_109 rfl 2 rfl ?_
          refine gq_iload C dX4_claimsOf_110 1 rfl ?_
          refine gq_iload_n C dX4_claimsOf_112 rfl 3 rfl ?_
          obtain ⟨x46, eo45, z44⟩ := bind_ex z41
          refine gq_V (As := [.int x37, .int u1]) (rest := [.int x43, .int x40, .int u1, .int (1 : Int32), .ref (eB E + 295)]) (j := 5) C (c_X4_without hN  eo45) (qn_m 295 (by decide) hN) (by decide) (by decide) rfl wk_8_91 wk_8_93 ws_X4_without wk_1_9 wk_8_94 hd_X4_without ⟨(Nat.le_of_ble_eq_true rfl), (Nat.le_of_ble_eq_true rfl)⟩ (Nat.le_of_ble_eq_true rfl) ⟨(Nat.le_of_ble_eq_true rfl), (Nat.le_of_ble_eq_true rfl)⟩ dX4_claimsOf_113 rfl rfl ?_
          refine gq_aload_n C dX4_claimsOf_116 rfl 2 rfl ?_
          refine gq_iload_n C dX4_claimsOf_117 rfl 4 rfl ?_
          refine gq_iconst (v := 4) C dX4_claimsOf_118 (by decide) ?_
          obtain ⟨x49, eo48, z47⟩ := bind_ex z44
          refine gq_V (As := [.int v3, .int (4 : Int32)]) (rest := [.int x46, .int x43, .int x40, .int u1, .int (1 : Int32), .ref (eB E + 295)]) (j := 5) C (c_X4_leaseOf hN  eo48) (qn_m 295 (by decide) hN) (by decide) (by decide) rfl wk_7_199 wk_7_201 ws_X4_leaseOf wk_1_9 wk_7_202 hd_X4_leaseOf ⟨(Nat.le_of_ble_eq_true rfl), (Nat.le_of_ble_eq_true rfl)⟩ (Nat.le_of_ble_eq_true rfl) ⟨(Nat.le_of_ble_eq_true rfl), (Nat.le_of_ble_eq_true rfl)⟩ dX4_claimsOf_119 rfl rfl ?_
          obtain ⟨m52, eo51, z50⟩ := bind_ex z47
          refine gq_V (As := [.int (1 : Int32), .int u1, .int x40, .int x43, .int x46, .int x49]) (rest := []) (j := 5) C (c_X4_serves hN  eo51) (qn_m 295 (by decide) hN) (by decide) (by decide) rfl wk_8_95 wk_8_97 ws_X4_serves wk_1_9 wk_8_98 hd_X4_serves ⟨(Nat.le_of_ble_eq_true rfl), (Nat.le_of_ble_eq_true rfl)⟩ (Nat.le_of_ble_eq_true rfl) ⟨(Nat.le_of_ble_eq_true rfl), (Nat.le_of_ble_eq_true rfl)⟩ dX4_claimsOf_122 rfl rfl ?_
          cases z50
          exact gq_widen (Nat.le_of_ble_eq_true rfl) (Nat.le_of_ble_eq_true rfl) (gq_sub [2, 3, 0, 4] rfl J125)
        · refine gq_icmp_ne_t (tgt := 125) C dX4_claimsOf_74 (by decide) c30 ?_
          cases z31
          exact gq_widen (Nat.le_of_ble_eq_true rfl) (Nat.le_of_ble_eq_true rfl) (gq_sub [0, 1, 2, 3] rfl J125)
set_option maxHeartbeats 4000000 in
set_option maxRecDepth 100000 in
theorem c_X4_claimsOf {l : Launch} {E : Ev} (hN : 311 ≤ eN E) {p1 : Int32} {μ : Mm} {μ' : Mm} (z0 : F_X4_claimsOf p1 μ = some μ') : Ct l E yX4_claimsOf (Cond.code yX4_claimsOf cX4_claimsOf 5 none :: GW) rm_X4_claimsOf [.ref (eB E + 295), .int p1] μ none μ' := by
  refine ct_of (by decide) (Nat.le_of_ble_eq_true rfl) (fun p e s m args below meth c C hr => ?_)
  have C : Cq E p s m args meth c cX4_claimsOf 5 RX4 := C
  refine gq_lv (lv' := [(0, .ref (eB E + 295)), (1, .int p1)]) rfl ?_
  unfold F_X4_claimsOf at z0
  refine gq_aload_n C dX4_claimsOf_0 rfl 0 rfl ?_
  refine gq_iload_n C dX4_claimsOf_1 rfl 1 rfl ?_
  refine gq_iconst (v := 3) C dX4_claimsOf_2 (by decide) ?_
  obtain ⟨x3, eo2, z1⟩ := bind_ex z0
  refine gq_V (As := [.int p1, .int (3 : Int32)]) (rest := []) (j := 5) C (c_X4_rightOf hN  eo2) (qn_m 295 (by decide) hN) (by decide) (by decide) rfl wk_7_179 wk_7_181 ws_X4_rightOf wk_1_9 wk_7_182 hd_X4_rightOf ⟨(Nat.le_of_ble_eq_true rfl), (Nat.le_of_ble_eq_true rfl)⟩ (Nat.le_of_ble_eq_true rfl) ⟨(Nat.le_of_ble_eq_true rfl), (Nat.le_of_ble_eq_true rfl)⟩ dX4_claimsOf_3 rfl rfl ?_
  refine gq_istore_n (lv' := [(2, .int x3), (0, .ref (eB E + 295)), (1, .int p1)]) C dX4_claimsOf_6 rfl (by decide) rfl ?_
  refine gq_aload_n C dX4_claimsOf_7 rfl 1 rfl ?_
  refine gq_get5 C (qn_m 295 (by decide) hN) (by decide) 21 (by decide) wk_6_183 rfl dX4_claimsOf_8 ?_
  refine gq_iload_n C dX4_claimsOf_11 rfl 2 rfl ?_
  refine gq_iconst (v := 0) C dX4_claimsOf_12 (by decide) ?_
  obtain ⟨m4, em4, z5⟩ := bind_ex z1
  refine gq_bastoreZ C (qn_m 308 (by decide) hN) (by decide) em4 dX4_claimsOf_13 ?_
  refine gq_iload_n C dX4_claimsOf_14 rfl 2 rfl ?_
  refine gq_aload_n C dX4_claimsOf_15 rfl 1 rfl ?_
  refine gq_get5 C (qn_m 295 (by decide) hN) (by decide) 26 (by decide) wk_6_188 rfl dX4_claimsOf_16 ?_
  rcases ite_ex z5 with ⟨c6, z7⟩ | ⟨c6, z7⟩
  · refine gq_icmp_ne_f (tgt := 23) C dX4_claimsOf_19 (by decide) c6 ?_
    cases z7
    exact gq_vret C hr dX4_claimsOf_22 (Nat.le_of_ble_eq_true rfl) (Nat.le_of_ble_eq_true rfl)
  · refine gq_icmp_ne_t (tgt := 23) C dX4_claimsOf_19 (by decide) c6 ?_
    refine gq_iload_n C dX4_claimsOf_23 rfl 2 rfl ?_
    refine gq_aload_n C dX4_claimsOf_24 rfl 1 rfl ?_
    refine gq_get5 C (qn_m 295 (by decide) hN) (by decide) 22 (by decide) wk_6_184 rfl dX4_claimsOf_25 ?_
    rcases ite_ex z7 with ⟨c8, z9⟩ | ⟨c8, z9⟩
    · refine gq_icmp_ne_f (tgt := 55) C dX4_claimsOf_28 (by decide) c8 ?_
      refine gq_aload_n C dX4_claimsOf_31 rfl 1 rfl ?_
      refine gq_iconst (v := 1) C dX4_claimsOf_32 (by decide) ?_
      refine gq_iload_n C dX4_claimsOf_33 rfl 2 rfl ?_
      refine gq_aload_n C dX4_claimsOf_34 rfl 1 rfl ?_
      refine gq_iload_n C dX4_claimsOf_35 rfl 2 rfl ?_
      refine gq_iconst (v := 0) C dX4_claimsOf_36 (by decide) ?_
      obtain ⟨x12, eo11, z10⟩ := bind_ex z9
      refine gq_V (As := [.int p1, .int (0 : Int32)]) (rest := [.int p1, .int (1 : Int32), .ref (eB E + 295)]) (j := 5) C (c_X4_rightOf hN  eo11) (qn_m 295 (by decide) hN) (by decide) (by decide) rfl wk_7_179 wk_7_181 ws_X4_rightOf wk_1_9 wk_7_182 hd_X4_rightOf ⟨(Nat.le_of_ble_eq_true rfl), (Nat.le_of_ble_eq_true rfl)⟩ (Nat.le_of_ble_eq_true rfl) ⟨(Nat.le_of_ble_eq_true rfl), (Nat.le_of_ble_eq_true rfl)⟩ dX4_claimsOf_37 rfl rfl ?_
      refine gq_aload_n C dX4_claimsOf_40 rfl 1 rfl ?_
      refine gq_get5 C (qn_m 295 (by decide) hN) (by decide) 23 (by decide) wk_6_185 rfl dX4_claimsOf_41 ?_
      refine gq_aload_n C dX4_claimsOf_44 rfl 1 rfl ?_
      refine gq_iload_n C dX4_claimsOf_45 rfl 0 rfl ?_
      refine gq_iload_n C dX4_claimsOf_46 rfl 2 rfl ?_
      obtain ⟨x15, eo14, z13⟩ := bind_ex z10
      refine gq_V (As := [.int x3, .int p1]) (rest := [.int (m4.1 295 23), .int x12, .int p1, .int (1 : Int32), .ref (eB E + 295)]) (j := 5) C (c_X4_without hN  eo14) (qn_m 295 (by decide) hN) (by decide) (by decide) rfl wk_8_91 wk_8_93 ws_X4_without wk_1_9 wk_8_94 hd_X4_without ⟨(Nat.le_of_ble_eq_true rfl), (Nat.le_of_ble_eq_true rfl)⟩ (Nat.le_of_ble_eq_true rfl) ⟨(Nat.le_of_ble_eq_true rfl), (Nat.le_of_ble_eq_true rfl)⟩ dX4_claimsOf_47 rfl rfl ?_
      refine gq_iconst (v := 0) C dX4_claimsOf_50 (by decide) ?_
      obtain ⟨m18, eo17, z16⟩ := bind_ex z13
      refine gq_V (As := [.int (1 : Int32), .int p1, .int x12, .int (m4.1 295 23), .int x15, .int (0 : Int32)]) (rest := []) (j := 5) C (c_X4_serves hN  eo17) (qn_m 295 (by decide) hN) (by decide) (by decide) rfl wk_8_95 wk_8_97 ws_X4_serves wk_1_9 wk_8_98 hd_X4_serves ⟨(Nat.le_of_ble_eq_true rfl), (Nat.le_of_ble_eq_true rfl)⟩ (Nat.le_of_ble_eq_true rfl) ⟨(Nat.le_of_ble_eq_true rfl), (Nat.le_of_ble_eq_true rfl)⟩ dX4_claimsOf_51 rfl rfl ?_
      cases z16
      exact gq_vret C hr dX4_claimsOf_54 (Nat.le_of_ble_eq_true rfl) (Nat.le_of_ble_eq_true rfl)
    · refine gq_icmp_ne_t (tgt := 55) C dX4_claimsOf_28 (by decide) c8 ?_
      refine gq_iconst (v := 0) C dX4_claimsOf_55 (by decide) ?_
      refine gq_istore_n (lv' := [(3, .int (0 : Int32)), (2, .int x3), (0, .ref (eB E + 295)), (1, .int p1)]) C dX4_claimsOf_56 rfl (by decide) rfl ?_
      obtain ⟨⟨x56, m57⟩, eo55, z54⟩ := bind_ex z9
      dsimp only at z54
      refine gq_widen (k' := 0) (n' := 0) (Nat.le_of_ble_eq_true rfl) (Nat.le_of_ble_eq_true rfl) (gq_sub [2, 3, 1, 0] rfl ?_)
      refine l_X4_claimsOf_57 hN C  qFuel _ _ _ _ _ eo55 ?_
      refine gq_iload_n C dX4_claimsOf_131 rfl 1 rfl ?_
      refine gq_aload_n C dX4_claimsOf_132 rfl 0 rfl ?_
      refine gq_get5 C (qn_m 295 (by decide) hN) (by decide) 24 (by decide) wk_6_186 rfl dX4_claimsOf_133 ?_
      obtain ⟨⟨x58, m59⟩, z60, z61⟩ := bind_ex z54
      dsimp only at z61
      refine gq_join (k' := 0) (n' := 0) (pc' := 175) (lv' := [(0, .ref (eB E + 295)), (1, .int p1), (2, .int x58)]) (st' := []) (μ' := m59) ?_ (fun J175 => ?_)
      · refine gq_aload_n C dX4_claimsOf_175 rfl 0 rfl ?_
        refine gq_iload_n C dX4_claimsOf_176 rfl 1 rfl ?_
        obtain ⟨x79, eo78, z77⟩ := bind_ex z61
        refine gq_V (As := [.int p1]) (rest := []) (j := 5) C (c_X4_optionBy hN  eo78) (qn_m 295 (by decide) hN) (by decide) (by decide) rfl wk_8_112 wk_8_114 ws_X4_optionBy wk_1_9 wk_8_115 hd_X4_optionBy ⟨(Nat.le_of_ble_eq_true rfl), (Nat.le_of_ble_eq_true rfl)⟩ (Nat.le_of_ble_eq_true rfl) ⟨(Nat.le_of_ble_eq_true rfl), (Nat.le_of_ble_eq_true rfl)⟩ dX4_claimsOf_177 rfl rfl ?_
        refine gq_istore_n (lv' := [(3, .int x79), (0, .ref (eB E + 295)), (1, .int p1), (2, .int x58)]) C dX4_claimsOf_180 rfl (by decide) rfl ?_
        refine gq_iload_n C dX4_claimsOf_181 rfl 0 rfl ?_
        refine gq_iconst (v := -1) C dX4_claimsOf_182 (by decide) ?_
        rcases ite_ex z77 with ⟨c80, z81⟩ | ⟨c80, z81⟩
        · refine gq_icmp_eq_t (tgt := 219) C dX4_claimsOf_183 (by decide) c80 ?_
          refine gq_aload_n C dX4_claimsOf_219 rfl 1 rfl ?_
          refine gq_iconst (v := 0) C dX4_claimsOf_220 (by decide) ?_
          refine gq_iload_n C dX4_claimsOf_221 rfl 2 rfl ?_
          refine gq_aload_n C dX4_claimsOf_222 rfl 1 rfl ?_
          refine gq_iload_n C dX4_claimsOf_223 rfl 2 rfl ?_
          refine gq_iconst (v := 0) C dX4_claimsOf_224 (by decide) ?_
          obtain ⟨x84, eo83, z82⟩ := bind_ex z81
          refine gq_V (As := [.int p1, .int (0 : Int32)]) (rest := [.int p1, .int (0 : Int32), .ref (eB E + 295)]) (j := 5) C (c_X4_rightOf hN  eo83) (qn_m 295 (by decide) hN) (by decide) (by decide) rfl wk_7_179 wk_7_181 ws_X4_rightOf wk_1_9 wk_7_182 hd_X4_rightOf ⟨(Nat.le_of_ble_eq_true rfl), (Nat.le_of_ble_eq_true rfl)⟩ (Nat.le_of_ble_eq_true rfl) ⟨(Nat.le_of_ble_eq_true rfl), (Nat.le_of_ble_eq_true rfl)⟩ dX4_claimsOf_225 rfl rfl ?_
          refine gq_aload_n C dX4_claimsOf_228 rfl 1 rfl ?_
          refine gq_iload_n C dX4_claimsOf_229 rfl 2 rfl ?_
          refine gq_iconst (v := 1) C dX4_claimsOf_230 (by decide) ?_
          obtain ⟨x87, eo86, z85⟩ := bind_ex z82
          refine gq_V (As := [.int p1, .int (1 : Int32)]) (rest := [.int x84, .int p1, .int (0 : Int32), .ref (eB E + 295)]) (j := 5) C (c_X4_rightOf hN  eo86) (qn_m 295 (by decide) hN) (by decide) (by decide) rfl wk_7_179 wk_7_181 ws_X4_rightOf wk_1_9 wk_7_182 hd_X4_rightOf ⟨(Nat.le_of_ble_eq_true rfl), (Nat.le_of_ble_eq_true rfl)⟩ (Nat.le_of_ble_eq_true rfl) ⟨(Nat.le_of_ble_eq_true rfl), (Nat.le_of_ble_eq_true rfl)⟩ dX4_claimsOf_231 rfl rfl ?_
          refine gq_iload_n C dX4_claimsOf_234 rfl 3 rfl ?_
          refine gq_iconst (v := 0) C dX4_claimsOf_235 (by decide) ?_
          obtain ⟨m90, eo89, z88⟩ := bind_ex z85
          refine gq_V (As := [.int (0 : Int32), .int p1, .int x84, .int x87, .int x58, .int (0 : Int32)]) (rest := []) (j := 5) C (c_X4_serves hN  eo89) (qn_m 295 (by decide) hN) (by decide) (by decide) rfl wk_8_95 wk_8_97 ws_X4_serves wk_1_9 wk_8_98 hd_X4_serves ⟨(Nat.le_of_ble_eq_true rfl), (Nat.le_of_ble_eq_true rfl)⟩ (Nat.le_of_ble_eq_true rfl) ⟨(Nat.le_of_ble_eq_true rfl), (Nat.le_of_ble_eq_true rfl)⟩ dX4_claimsOf_236 rfl rfl ?_
          cases z88
          exact gq_vret C hr dX4_claimsOf_239 (Nat.le_of_ble_eq_true rfl) (Nat.le_of_ble_eq_true rfl)
        · refine gq_icmp_eq_f (tgt := 219) C dX4_claimsOf_183 (by decide) c80 ?_
          refine gq_aload_n C dX4_claimsOf_186 rfl 1 rfl ?_
          refine gq_iconst (v := 2) C dX4_claimsOf_187 (by decide) ?_
          refine gq_iload_n C dX4_claimsOf_188 rfl 2 rfl ?_
          refine gq_aload_n C dX4_claimsOf_189 rfl 1 rfl ?_
          refine gq_iload_n C dX4_claimsOf_190 rfl 0 rfl ?_
          refine gq_iconst (v := 1) C dX4_claimsOf_191 (by decide) ?_
          obtain ⟨x93, eo92, z91⟩ := bind_ex z81
          refine gq_V (As := [.int x79, .int (1 : Int32)]) (rest := [.int p1, .int (2 : Int32), .ref (eB E + 295)]) (j := 5) C (c_X4_optionOf hN  eo92) (qn_m 295 (by decide) hN) (by decide) (by decide) rfl wk_7_207 wk_7_209 ws_X4_optionOf wk_1_9 wk_7_210 hd_X4_optionOf ⟨(Nat.le_of_ble_eq_true rfl), (Nat.le_of_ble_eq_true rfl)⟩ (Nat.le_of_ble_eq_true rfl) ⟨(Nat.le_of_ble_eq_true rfl), (Nat.le_of_ble_eq_true rfl)⟩ dX4_claimsOf_192 rfl rfl ?_
          refine gq_aload_n C dX4_claimsOf_195 rfl 1 rfl ?_
          refine gq_iload_n C dX4_claimsOf_196 rfl 0 rfl ?_
          refine gq_iconst (v := 2) C dX4_claimsOf_197 (by decide) ?_
          obtain ⟨x96, eo95, z94⟩ := bind_ex z91
          refine gq_V (As := [.int x79, .int (2 : Int32)]) (rest := [.int x93, .int p1, .int (2 : Int32), .ref (eB E + 295)]) (j := 5) C (c_X4_optionOf hN  eo95) (qn_m 295 (by decide) hN) (by decide) (by decide) rfl wk_7_207 wk_7_209 ws_X4_optionOf wk_1_9 wk_7_210 hd_X4_optionOf ⟨(Nat.le_of_ble_eq_true rfl), (Nat.le_of_ble_eq_true rfl)⟩ (Nat.le_of_ble_eq_true rfl) ⟨(Nat.le_of_ble_eq_true rfl), (Nat.le_of_ble_eq_true rfl)⟩ dX4_claimsOf_198 rfl rfl ?_
          refine gq_aload_n C dX4_claimsOf_201 rfl 1 rfl ?_
          refine gq_iload_n C dX4_claimsOf_202 rfl 3 rfl ?_
          refine gq_iload_n C dX4_claimsOf_203 rfl 2 rfl ?_
          obtain ⟨x99, eo98, z97⟩ := bind_ex z94
          refine gq_V (As := [.int x58, .int p1]) (rest := [.int x96, .int x93, .int p1, .int (2 : Int32), .ref (eB E + 295)]) (j := 5) C (c_X4_without hN  eo98) (qn_m 295 (by decide) hN) (by decide) (by decide) rfl wk_8_91 wk_8_93 ws_X4_without wk_1_9 wk_8_94 hd_X4_without ⟨(Nat.le_of_ble_eq_true rfl), (Nat.le_of_ble_eq_true rfl)⟩ (Nat.le_of_ble_eq_true rfl) ⟨(Nat.le_of_ble_eq_true rfl), (Nat.le_of_ble_eq_true rfl)⟩ dX4_claimsOf_204 rfl rfl ?_
          refine gq_aload_n C dX4_claimsOf_207 rfl 1 rfl ?_
          refine gq_iload_n C dX4_claimsOf_208 rfl 0 rfl ?_
          refine gq_iconst (v := 5) C dX4_claimsOf_209 (by decide) ?_
          obtain ⟨x102, eo101, z100⟩ := bind_ex z97
          refine gq_V (As := [.int x79, .int (5 : Int32)]) (rest := [.int x99, .int x96, .int x93, .int p1, .int (2 : Int32), .ref (eB E + 295)]) (j := 5) C (c_X4_optionOf hN  eo101) (qn_m 295 (by decide) hN) (by decide) (by decide) rfl wk_7_207 wk_7_209 ws_X4_optionOf wk_1_9 wk_7_210 hd_X4_optionOf ⟨(Nat.le_of_ble_eq_true rfl), (Nat.le_of_ble_eq_true rfl)⟩ (Nat.le_of_ble_eq_true rfl) ⟨(Nat.le_of_ble_eq_true rfl), (Nat.le_of_ble_eq_true rfl)⟩ dX4_claimsOf_210 rfl rfl ?_
          obtain ⟨m105, eo104, z103⟩ := bind_ex z100
          refine gq_V (As := [.int (2 : Int32), .int p1, .int x93, .int x96, .int x99, .int x102]) (rest := []) (j := 5) C (c_X4_serves hN  eo104) (qn_m 295 (by decide) hN) (by decide) (by decide) rfl wk_8_95 wk_8_97 ws_X4_serves wk_1_9 wk_8_98 hd_X4_serves ⟨(Nat.le_of_ble_eq_true rfl), (Nat.le_of_ble_eq_true rfl)⟩ (Nat.le_of_ble_eq_true rfl) ⟨(Nat.le_of_ble_eq_true rfl), (Nat.le_of_ble_eq_true rfl)⟩ dX4_claimsOf_213 rfl rfl ?_
          refine gq_goto (tgt := 239) C dX4_claimsOf_216 (by decide) ?_
          cases z103
          exact gq_vret C hr dX4_claimsOf_239 (Nat.le_of_ble_eq_true rfl) (Nat.le_of_ble_eq_true rfl)
      · rcases ite_ex z60 with ⟨c62, z63⟩ | ⟨c62, z63⟩
        · refine gq_icmp_ne_f (tgt := 175) C dX4_claimsOf_136 (by decide) c62 ?_
          refine gq_aload_n C dX4_claimsOf_139 rfl 0 rfl ?_
          refine gq_get5 C (qn_m 295 (by decide) hN) (by decide) 25 (by decide) wk_6_187 rfl dX4_claimsOf_140 ?_
          refine gq_iload_n C dX4_claimsOf_143 rfl 2 rfl ?_
          obtain ⟨x66, eo65, z64⟩ := bind_ex z63
          refine gq_S (As := [.int (m57.1 295 25), .int x56]) (rest := []) C (c_X4_lesser hN  eo65) wk_8_109 wk_8_110 wk_1_9 wk_8_111 hd_X4_lesser ⟨(Nat.le_of_ble_eq_true rfl), (Nat.le_of_ble_eq_true rfl)⟩ (Nat.le_of_ble_eq_true rfl) ⟨(Nat.le_of_ble_eq_true rfl), (Nat.le_of_ble_eq_true rfl)⟩ dX4_claimsOf_144 rfl rfl ?_
          refine gq_istore_n (lv' := [(3, .int x66), (0, .ref (eB E + 295)), (1, .int p1), (2, .int x56)]) C dX4_claimsOf_147 rfl (by decide) rfl ?_
          refine gq_iload_n C dX4_claimsOf_148 rfl 3 rfl ?_
          refine gq_iload_n C dX4_claimsOf_149 rfl 0 rfl ?_
          refine gq_isub C dX4_claimsOf_150 ?_
          refine gq_istore_n (lv' := [(2, .int (x56 - x66)), (3, .int x66), (0, .ref (eB E + 295)), (1, .int p1)]) C dX4_claimsOf_151 rfl (by decide) rfl ?_
          refine gq_aload_n C dX4_claimsOf_152 rfl 2 rfl ?_
          refine gq_iconst (v := 1) C dX4_claimsOf_153 (by decide) ?_
          refine gq_iload_n C dX4_claimsOf_154 rfl 3 rfl ?_
          refine gq_aload_n C dX4_claimsOf_155 rfl 2 rfl ?_
          refine gq_iload_n C dX4_claimsOf_156 rfl 3 rfl ?_
          refine gq_iconst (v := 0) C dX4_claimsOf_157 (by decide) ?_
          obtain ⟨x69, eo68, z67⟩ := bind_ex z64
          refine gq_V (As := [.int p1, .int (0 : Int32)]) (rest := [.int p1, .int (1 : Int32), .ref (eB E + 295)]) (j := 5) C (c_X4_rightOf hN  eo68) (qn_m 295 (by decide) hN) (by decide) (by decide) rfl wk_7_179 wk_7_181 ws_X4_rightOf wk_1_9 wk_7_182 hd_X4_rightOf ⟨(Nat.le_of_ble_eq_true rfl), (Nat.le_of_ble_eq_true rfl)⟩ (Nat.le_of_ble_eq_true rfl) ⟨(Nat.le_of_ble_eq_true rfl), (Nat.le_of_ble_eq_true rfl)⟩ dX4_claimsOf_158 rfl rfl ?_
          refine gq_aload_n C dX4_claimsOf_161 rfl 2 rfl ?_
          refine gq_get5 C (qn_m 295 (by decide) hN) (by decide) 23 (by decide) wk_6_185 rfl dX4_claimsOf_162 ?_
          refine gq_aload_n C dX4_claimsOf_165 rfl 2 rfl ?_
          refine gq_iload_n C dX4_claimsOf_166 rfl 1 rfl ?_
          refine gq_iload_n C dX4_claimsOf_167 rfl 3 rfl ?_
          obtain ⟨x72, eo71, z70⟩ := bind_ex z67
          refine gq_V (As := [.int x66, .int p1]) (rest := [.int (m57.1 295 23), .int x69, .int p1, .int (1 : Int32), .ref (eB E + 295)]) (j := 5) C (c_X4_without hN  eo71) (qn_m 295 (by decide) hN) (by decide) (by decide) rfl wk_8_91 wk_8_93 ws_X4_without wk_1_9 wk_8_94 hd_X4_without ⟨(Nat.le_of_ble_eq_true rfl), (Nat.le_of_ble_eq_true rfl)⟩ (Nat.le_of_ble_eq_true rfl) ⟨(Nat.le_of_ble_eq_true rfl), (Nat.le_of_ble_eq_true rfl)⟩ dX4_claimsOf_168 rfl rfl ?_
          refine gq_iconst (v := 0) C dX4_claimsOf_171 (by decide) ?_
          obtain ⟨m75, eo74, z73⟩ := bind_ex z70
          refine gq_V (As := [.int (1 : Int32), .int p1, .int x69, .int (m57.1 295 23), .int x72, .int (0 : Int32)]) (rest := []) (j := 5) C (c_X4_serves hN  eo74) (qn_m 295 (by decide) hN) (by decide) (by decide) rfl wk_8_95 wk_8_97 ws_X4_serves wk_1_9 wk_8_98 hd_X4_serves ⟨(Nat.le_of_ble_eq_true rfl), (Nat.le_of_ble_eq_true rfl)⟩ (Nat.le_of_ble_eq_true rfl) ⟨(Nat.le_of_ble_eq_true rfl), (Nat.le_of_ble_eq_true rfl)⟩ dX4_claimsOf_172 rfl rfl ?_
          cases z73
          exact gq_widen (Nat.le_of_ble_eq_true rfl) (Nat.le_of_ble_eq_true rfl) (gq_sub [2, 3, 0] rfl J175)
        · refine gq_icmp_ne_t (tgt := 175) C dX4_claimsOf_136 (by decide) c62 ?_
          cases z63
          exact gq_widen (Nat.le_of_ble_eq_true rfl) (Nat.le_of_ble_eq_true rfl) (gq_sub [0, 1, 2] rfl J175)
abbrev rm_X4_endsMonth : Room := { frames := 1, cells := 0, slots := 0, locals := 22 }
def F_X4_endsMonth_26 (u1 : Int32) (u2 : Int32) (u3 : Int32) : Nat → Int32 → Mm → Option Mm
  | 0, _, _ => none
  | n + 1, v4, μ =>
  if (6 : Int32) ≤ v4 then
  (some μ)
  else
  (if u3 ≤ 0 then
  (some μ)
  else
  ((if v4 = (5 : Int32) then
  (some u3)
  else
  ((F_X4_leaseOf u2 v4 μ).bind fun o18 =>
  some o18)).bind fun o20 =>
  (sI μ 296 (((158 : Int32) + ((6 : Int32) * u1)) + v4) o20).bind fun m21 =>
  F_X4_endsMonth_26 u1 u2 u3 n (v4 + 1) m21))
def F_X4_endsMonth_4  : Nat → Int32 → Int32 → Mm → Option (Int32 × Mm)
  | 0, _, _, _ => none
  | n + 1, v1, v2, μ =>
  (aI μ 296 (3 : Int32)).bind fun x1 =>
  if x1 ≤ v2 then
  (some (v1, μ))
  else
  ((F_X4_leaseOf v2 (5 : Int32) μ).bind fun o6 =>
  (F_X4_endsMonth_26 v1 v2 (o6 - (1 : Int32)) qFuel (0 : Int32) μ).bind fun o24 =>
  (if (o6 - (1 : Int32)) ≤ 0 then
  (some (0 : Int32))
  else
  (some (1 : Int32))).bind fun o31 =>
  F_X4_endsMonth_4 n (v1 + o31) (v2 + 1) o24)
def F_X4_endsMonth_103  : Nat → Int32 → Mm → Option Mm
  | 0, _, _ => none
  | n + 1, v2, μ =>
  (aI μ 296 (1 : Int32)).bind fun x38 =>
  if x38 ≤ v2 then
  (some μ)
  else
  ((aI μ 296 ((26 : Int32) + v2)).bind fun x42 =>
  (aI μ 296 (6 : Int32)).bind fun x44 =>
  (aI μ 296 ((26 : Int32) + v2)).bind fun x46 =>
  (sI μ 296 ((26 : Int32) + v2) (x46 - (((x42 * x44) + (99 : Int32)) / (100 : Int32)))).bind fun m48 =>
  (aI m48 296 (54 : Int32)).bind fun x50 =>
  (sI m48 296 (54 : Int32) (x50 + (((x42 * x44) + (99 : Int32)) / (100 : Int32)))).bind fun m52 =>
  F_X4_endsMonth_103 n (v2 + 1) m52)
def F_X4_endsMonth_169  : Nat → Int32 → Mm → Option Mm
  | 0, _, _ => none
  | n + 1, v2, μ =>
  (aI μ 296 (0 : Int32)).bind fun x57 =>
  if x57 ≤ v2 then
  (some μ)
  else
  ((aI μ 307 v2).bind fun x61 =>
  (sI μ 296 (((394 : Int32) + ((5 : Int32) * v2)) + (2 : Int32)) x61).bind fun m63 =>
  (sI m63 296 ((20 : Int32) + v2) (0 : Int32)).bind fun m65 =>
  F_X4_endsMonth_169 n (v2 + 1) m65)
def F_X4_endsMonth  (μ : Mm) : Option Mm :=
  (F_X4_endsMonth_4 qFuel (0 : Int32) (0 : Int32) μ).bind fun o33 =>
  (sI o33.2 296 (3 : Int32) o33.1).bind fun m36 =>
  (F_X4_endsMonth_103 qFuel (0 : Int32) m36).bind fun o55 =>
  (F_X4_endsMonth_169 qFuel (0 : Int32) o55).bind fun o68 =>
  (aI o68 296 (5 : Int32)).bind fun x70 =>
  (sI o68 296 (5 : Int32) (x70 + (1 : Int32))).bind fun m72 =>
  (sI m72 296 (57 : Int32) (1 : Int32)).bind fun m74 =>
  some m74
set_option maxHeartbeats 4000000 in
set_option maxRecDepth 100000 in
theorem l_X4_endsMonth_26 {l : Launch} {E : Ev} (hN : 311 ≤ eN E) {p : Program} {e : Env} {s : State} {m : MethodId} {args : Array Value} {below : List Frame} {meth : Method} {c : Code} (C : Cq E p s m args meth c cX4_endsMonth 5 RX4) {Q : State → Prop} {u1 : Int32} {u2 : Int32} {u3 : Int32} : ∀ (n : Nat) (v4 : Int32) (μ : Mm) (μx : Mm), F_X4_endsMonth_26 u1 u2 u3 n v4 μ = some μx → Gq E p l e rm_X4_endsMonth s m args below meth c 0 0 5 Q 76 [(0, .ref (eB E + 295)), (1, .int u1), (2, .int u2), (3, .int u3)] [] μx → Gq E p l e rm_X4_endsMonth s m args below meth c 0 0 5 Q 26 [(0, .ref (eB E + 295)), (1, .int u1), (2, .int u2), (3, .int u3), (4, .int v4)] [] μ := by
  intro n
  induction n with
  | zero =>
    intro v4 μ μx z0 kk
    rw [F_X4_endsMonth_26] at z0
    cases z0
  | succ n ih =>
    intro v4 μ μx z0 kk
    rw [F_X4_endsMonth_26] at z0
    refine gq_iload C dX4_endsMonth_26 4 rfl ?_
    refine gq_bipush (v := 6) C dX4_endsMonth_28 (by decide) ?_
    rcases ite_ex z0 with ⟨c8, z9⟩ | ⟨c8, z9⟩
    · refine gq_icmp_ge_t (tgt := 76) C dX4_endsMonth_30 (by decide) c8 ?_
      cases z9
      exact gq_widen (Nat.le_of_ble_eq_true rfl) (Nat.le_of_ble_eq_true rfl) (gq_sub [0, 1, 2, 3] rfl kk)
    · refine gq_icmp_ge_f (tgt := 76) C dX4_endsMonth_30 (by decide) c8 ?_
      refine gq_iload_n C dX4_endsMonth_33 rfl 3 rfl ?_
      rcases ite_ex z9 with ⟨c10, z11⟩ | ⟨c10, z11⟩
      · refine gq_if_le_t (tgt := 76) C dX4_endsMonth_34 (by decide) c10 ?_
        cases z11
        exact gq_widen (Nat.le_of_ble_eq_true rfl) (Nat.le_of_ble_eq_true rfl) (gq_sub [0, 1, 2, 3] rfl kk)
      · refine gq_if_le_f (tgt := 76) C dX4_endsMonth_34 (by decide) c10 ?_
        refine gq_aload_n C dX4_endsMonth_37 rfl 0 rfl ?_
        refine gq_get5 C (qn_m 295 (by decide) hN) (by decide) 1 (by decide) wk_6_163 rfl dX4_endsMonth_38 ?_
        refine gq_sipush (v := 158) C dX4_endsMonth_41 (by decide) ?_
        refine gq_bipush (v := 6) C dX4_endsMonth_44 (by decide) ?_
        refine gq_iload_n C dX4_endsMonth_46 rfl 1 rfl ?_
        refine gq_imul C dX4_endsMonth_47 ?_
        refine gq_iadd C dX4_endsMonth_48 ?_
        refine gq_iload C dX4_endsMonth_49 4 rfl ?_
        refine gq_iadd C dX4_endsMonth_51 ?_
        refine gq_iload C dX4_endsMonth_52 4 rfl ?_
        refine gq_iconst (v := 5) C dX4_endsMonth_54 (by decide) ?_
        obtain ⟨x12, z13, z14⟩ := bind_ex z11
        refine gq_join (k' := 0) (n' := 0) (pc' := 69) (lv' := [(0, .ref (eB E + 295)), (1, .int u1), (2, .int u2), (3, .int u3), (4, .int v4)]) (st' := [.int x12, .int (((158 : Int32) + ((6 : Int32) * u1)) + v4), .ref (eB E + 296)]) (μ' := μ) ?_ (fun J69 => ?_)
        · obtain ⟨m21, em21, z22⟩ := bind_ex z14
          refine gq_iastore C (qn_m 296 (by decide) hN) (by decide) em21 dX4_endsMonth_69 ?_
          refine gq_iinc (v := (v4 + 1)) (lv' := [(4, .int (v4 + 1)), (0, .ref (eB E + 295)), (1, .int u1), (2, .int u2), (3, .int u3)]) (q := 4) C dX4_endsMonth_70 rfl rfl (by decide) rfl ?_
          refine gq_goto (tgt := 26) C dX4_endsMonth_73 (by decide) ?_
          refine gq_widen (k' := 0) (n' := 0) (Nat.le_of_ble_eq_true rfl) (Nat.le_of_ble_eq_true rfl) (gq_sub [1, 2, 3, 4, 0] rfl ?_)
          exact ih _ _ _ z22 kk
        · rcases ite_ex z13 with ⟨c15, z16⟩ | ⟨c15, z16⟩
          · refine gq_icmp_ne_f (tgt := 62) C dX4_endsMonth_55 (by decide) c15 ?_
            refine gq_iload_n C dX4_endsMonth_58 rfl 3 rfl ?_
            refine gq_goto (tgt := 69) C dX4_endsMonth_59 (by decide) ?_
            cases z16
            exact gq_widen (Nat.le_of_ble_eq_true rfl) (Nat.le_of_ble_eq_true rfl) (gq_sub [0, 1, 2, 3, 4] rfl J69)
          · refine gq_icmp_ne_t (tgt := 62) C dX4_endsMonth_55 (by decide) c15 ?_
            refine gq_aload_n C dX4_endsMonth_62 rfl 0 rfl ?_
            refine gq_iload_n C dX4_endsMonth_63 rfl 2 rfl ?_
            refine gq_iload C dX4_endsMonth_64 4 rfl ?_
            obtain ⟨x19, eo18, z17⟩ := bind_ex z16
            refine gq_V (As := [.int u2, .int v4]) (rest := [.int (((158 : Int32) + ((6 : Int32) * u1)) + v4), .ref (eB E + 296)]) (j := 5) C (c_X4_leaseOf hN  eo18) (qn_m 295 (by decide) hN) (by decide) (by decide) rfl wk_7_199 wk_7_201 ws_X4_leaseOf wk_1_9 wk_7_202 hd_X4_leaseOf ⟨(Nat.le_of_ble_eq_true rfl), (Nat.le_of_ble_eq_true rfl)⟩ (Nat.le_of_ble_eq_true rfl) ⟨(Nat.le_of_ble_eq_true rfl), (Nat.le_of_ble_eq_true rfl)⟩ dX4_endsMonth_66 rfl rfl ?_
            cases z17
            exact gq_widen (Nat.le_of_ble_eq_true rfl) (Nat.le_of_ble_eq_true rfl) (gq_sub [0, 1, 2, 3, 4] rfl J69)
set_option maxHeartbeats 4000000 in
set_option maxRecDepth 100000 in
theorem l_X4_endsMonth_4 {l : Launch} {E : Ev} (hN : 311 ≤ eN E) {p : Program} {e : Env} {s : State} {m : MethodId} {args : Array Value} {below : List Frame} {meth : Method} {c : Code} (C : Cq E p s m args meth c cX4_endsMonth 5 RX4) {Q : State → Prop} : ∀ (n : Nat) (v1 : Int32) (v2 : Int32) (μ : Mm) (w1 : Int32) (μx : Mm), F_X4_endsMonth_4 n v1 v2 μ = some (w1, μx) → Gq E p l e rm_X4_endsMonth s m args below meth c 0 0 5 Q 94 [(0, .ref (eB E + 295)), (1, .int w1)] [] μx → Gq E p l e rm_X4_endsMonth s m args below meth c 0 0 5 Q 4 [(0, .ref (eB E + 295)), (1, .int v1), (2, .int v2)] [] μ := by
  intro n
  induction n with
  | zero =>
    intro v1 v2 μ w1 μx z0 kk
    rw [F_X4_endsMonth_4] at z0
    cases z0
  | succ n ih =>
    intro v1 v2 μ w1 μx z0 kk
    rw [F_X4_endsMonth_4] at z0
    refine gq_iload_n C dX4_endsMonth_4 rfl 2 rfl ?_
    refine gq_aload_n C dX4_endsMonth_5 rfl 0 rfl ?_
    refine gq_get5 C (qn_m 295 (by decide) hN) (by decide) 1 (by decide) wk_6_163 rfl dX4_endsMonth_6 ?_
    refine gq_iconst (v := 3) C dX4_endsMonth_9 (by decide) ?_
    obtain ⟨x1, ex1, z2⟩ := bind_ex z0
    refine gq_ialoadI C (qn_m 296 (by decide) hN) (by decide) ex1 dX4_endsMonth_10 ?_
    rcases ite_ex z2 with ⟨c3, z4⟩ | ⟨c3, z4⟩
    · refine gq_icmp_ge_t (tgt := 94) C dX4_endsMonth_11 (by decide) c3 ?_
      cases z4
      exact gq_widen (Nat.le_of_ble_eq_true rfl) (Nat.le_of_ble_eq_true rfl) (gq_sub [0, 1] rfl kk)
    · refine gq_icmp_ge_f (tgt := 94) C dX4_endsMonth_11 (by decide) c3 ?_
      refine gq_aload_n C dX4_endsMonth_14 rfl 0 rfl ?_
      refine gq_iload_n C dX4_endsMonth_15 rfl 2 rfl ?_
      refine gq_iconst (v := 5) C dX4_endsMonth_16 (by decide) ?_
      obtain ⟨x7, eo6, z5⟩ := bind_ex z4
      refine gq_V (As := [.int v2, .int (5 : Int32)]) (rest := []) (j := 5) C (c_X4_leaseOf hN  eo6) (qn_m 295 (by decide) hN) (by decide) (by decide) rfl wk_7_199 wk_7_201 ws_X4_leaseOf wk_1_9 wk_7_202 hd_X4_leaseOf ⟨(Nat.le_of_ble_eq_true rfl), (Nat.le_of_ble_eq_true rfl)⟩ (Nat.le_of_ble_eq_true rfl) ⟨(Nat.le_of_ble_eq_true rfl), (Nat.le_of_ble_eq_true rfl)⟩ dX4_endsMonth_17 rfl rfl ?_
      refine gq_iconst (v := 1) C dX4_endsMonth_20 (by decide) ?_
      refine gq_isub C dX4_endsMonth_21 ?_
      refine gq_istore_n (lv' := [(3, .int (x7 - (1 : Int32))), (0, .ref (eB E + 295)), (1, .int v1), (2, .int v2)]) C dX4_endsMonth_22 rfl (by decide) rfl ?_
      refine gq_iconst (v := 0) C dX4_endsMonth_23 (by decide) ?_
      refine gq_istore (lv' := [(4, .int (0 : Int32)), (3, .int (x7 - (1 : Int32))), (0, .ref (eB E + 295)), (1, .int v1), (2, .int v2)]) C dX4_endsMonth_24 (by decide) rfl ?_
      obtain ⟨m25, eo24, z23⟩ := bind_ex z5
      refine gq_widen (k' := 0) (n' := 0) (Nat.le_of_ble_eq_true rfl) (Nat.le_of_ble_eq_true rfl) (gq_sub [2, 3, 4, 1, 0] rfl ?_)
      refine l_X4_endsMonth_26 hN C  qFuel _ _ _ eo24 ?_
      refine gq_iload_n C dX4_endsMonth_76 rfl 1 rfl ?_
      refine gq_iload_n C dX4_endsMonth_77 rfl 3 rfl ?_
      obtain ⟨x26, z27, z28⟩ := bind_ex z23
      refine gq_join (k' := 0) (n' := 0) (pc' := 86) (lv' := [(0, .ref (eB E + 295)), (2, .int v2)]) (st' := [.int x26, .int v1]) (μ' := m25) ?_ (fun J86 => ?_)
      · refine gq_iadd C dX4_endsMonth_86 ?_
        refine gq_istore_n (lv' := [(1, .int (v1 + x26)), (0, .ref (eB E + 295)), (2, .int v2)]) C dX4_endsMonth_87 rfl (by decide) rfl ?_
        refine gq_iinc (v := (v2 + 1)) (lv' := [(2, .int (v2 + 1)), (1, .int (v1 + x26)), (0, .ref (eB E + 295))]) (q := 2) C dX4_endsMonth_88 rfl rfl (by decide) rfl ?_
        refine gq_goto (tgt := 4) C dX4_endsMonth_91 (by decide) ?_
        refine gq_widen (k' := 0) (n' := 0) (Nat.le_of_ble_eq_true rfl) (Nat.le_of_ble_eq_true rfl) (gq_sub [2, 1, 0] rfl ?_)
        exact ih _ _ _ _ _ z28 kk
      · rcases ite_ex z27 with ⟨c29, z30⟩ | ⟨c29, z30⟩
        · refine gq_if_le_t (tgt := 85) C dX4_endsMonth_78 (by decide) c29 ?_
          refine gq_iconst (v := 0) C dX4_endsMonth_85 (by decide) ?_
          cases z30
          exact gq_widen (Nat.le_of_ble_eq_true rfl) (Nat.le_of_ble_eq_true rfl) (gq_sub [0, 2] rfl J86)
        · refine gq_if_le_f (tgt := 85) C dX4_endsMonth_78 (by decide) c29 ?_
          refine gq_iconst (v := 1) C dX4_endsMonth_81 (by decide) ?_
          refine gq_goto (tgt := 86) C dX4_endsMonth_82 (by decide) ?_
          cases z30
          exact gq_widen (Nat.le_of_ble_eq_true rfl) (Nat.le_of_ble_eq_true rfl) (gq_sub [0, 2] rfl J86)
set_option maxHeartbeats 4000000 in
set_option maxRecDepth 100000 in
theorem l_X4_endsMonth_103 {l : Launch} {E : Ev} (hN : 311 ≤ eN E) {p : Program} {e : Env} {s : State} {m : MethodId} {args : Array Value} {below : List Frame} {meth : Method} {c : Code} (C : Cq E p s m args meth c cX4_endsMonth 5 RX4) {Q : State → Prop} : ∀ (n : Nat) (v2 : Int32) (μ : Mm) (μx : Mm), F_X4_endsMonth_103 n v2 μ = some μx → Gq E p l e rm_X4_endsMonth s m args below meth c 0 0 5 Q 167 [(0, .ref (eB E + 295))] [] μx → Gq E p l e rm_X4_endsMonth s m args below meth c 0 0 5 Q 103 [(0, .ref (eB E + 295)), (2, .int v2)] [] μ := by
  intro n
  induction n with
  | zero =>
    intro v2 μ μx z0 kk
    rw [F_X4_endsMonth_103] at z0
    cases z0
  | succ n ih =>
    intro v2 μ μx z0 kk
    rw [F_X4_endsMonth_103] at z0
    refine gq_iload_n C dX4_endsMonth_103 rfl 1 rfl ?_
    refine gq_aload_n C dX4_endsMonth_104 rfl 0 rfl ?_
    refine gq_get5 C (qn_m 295 (by decide) hN) (by decide) 1 (by decide) wk_6_163 rfl dX4_endsMonth_105 ?_
    refine gq_iconst (v := 1) C dX4_endsMonth_108 (by decide) ?_
    obtain ⟨x38, ex38, z39⟩ := bind_ex z0
    refine gq_ialoadI C (qn_m 296 (by decide) hN) (by decide) ex38 dX4_endsMonth_109 ?_
    rcases ite_ex z39 with ⟨c40, z41⟩ | ⟨c40, z41⟩
    · refine gq_icmp_ge_t (tgt := 167) C dX4_endsMonth_110 (by decide) c40 ?_
      cases z41
      exact gq_widen (Nat.le_of_ble_eq_true rfl) (Nat.le_of_ble_eq_true rfl) (gq_sub [0] rfl kk)
    · refine gq_icmp_ge_f (tgt := 167) C dX4_endsMonth_110 (by decide) c40 ?_
      refine gq_aload_n C dX4_endsMonth_113 rfl 0 rfl ?_
      refine gq_get5 C (qn_m 295 (by decide) hN) (by decide) 1 (by decide) wk_6_163 rfl dX4_endsMonth_114 ?_
      refine gq_bipush (v := 26) C dX4_endsMonth_117 (by decide) ?_
      refine gq_iload_n C dX4_endsMonth_119 rfl 1 rfl ?_
      refine gq_iadd C dX4_endsMonth_120 ?_
      obtain ⟨x42, ex42, z43⟩ := bind_ex z41
      refine gq_ialoadI C (qn_m 296 (by decide) hN) (by decide) ex42 dX4_endsMonth_121 ?_
      refine gq_aload_n C dX4_endsMonth_122 rfl 0 rfl ?_
      refine gq_get5 C (qn_m 295 (by decide) hN) (by decide) 1 (by decide) wk_6_163 rfl dX4_endsMonth_123 ?_
      refine gq_bipush (v := 6) C dX4_endsMonth_126 (by decide) ?_
      obtain ⟨x44, ex44, z45⟩ := bind_ex z43
      refine gq_ialoadI C (qn_m 296 (by decide) hN) (by decide) ex44 dX4_endsMonth_128 ?_
      refine gq_imul C dX4_endsMonth_129 ?_
      refine gq_bipush (v := 99) C dX4_endsMonth_130 (by decide) ?_
      refine gq_iadd C dX4_endsMonth_132 ?_
      refine gq_bipush (v := 100) C dX4_endsMonth_133 (by decide) ?_
      refine gq_idiv C dX4_endsMonth_135 (by decide) ?_
      refine gq_istore_n (lv' := [(3, .int (((x42 * x44) + (99 : Int32)) / (100 : Int32))), (0, .ref (eB E + 295)), (2, .int v2)]) C dX4_endsMonth_136 rfl (by decide) rfl ?_
      refine gq_aload_n C dX4_endsMonth_137 rfl 1 rfl ?_
      refine gq_get5 C (qn_m 295 (by decide) hN) (by decide) 1 (by decide) wk_6_163 rfl dX4_endsMonth_138 ?_
      refine gq_bipush (v := 26) C dX4_endsMonth_141 (by decide) ?_
      refine gq_iload_n C dX4_endsMonth_143 rfl 2 rfl ?_
      refine gq_iadd C dX4_endsMonth_144 ?_
      refine gq_dup2 C dX4_endsMonth_145 ?_
      obtain ⟨x46, ex46, z47⟩ := bind_ex z45
      refine gq_ialoadI C (qn_m 296 (by decide) hN) (by decide) ex46 dX4_endsMonth_146 ?_
      refine gq_iload_n C dX4_endsMonth_147 rfl 0 rfl ?_
      refine gq_isub C dX4_endsMonth_148 ?_
      obtain ⟨m48, em48, z49⟩ := bind_ex z47
      refine gq_iastore C (qn_m 296 (by decide) hN) (by decide) em48 dX4_endsMonth_149 ?_
      refine gq_aload_n C dX4_endsMonth_150 rfl 1 rfl ?_
      refine gq_get5 C (qn_m 295 (by decide) hN) (by decide) 1 (by decide) wk_6_163 rfl dX4_endsMonth_151 ?_
      refine gq_bipush (v := 54) C dX4_endsMonth_154 (by decide) ?_
      refine gq_dup2 C dX4_endsMonth_156 ?_
      obtain ⟨x50, ex50, z51⟩ := bind_ex z49
      refine gq_ialoadI C (qn_m 296 (by decide) hN) (by decide) ex50 dX4_endsMonth_157 ?_
      refine gq_iload_n C dX4_endsMonth_158 rfl 0 rfl ?_
      refine gq_iadd C dX4_endsMonth_159 ?_
      obtain ⟨m52, em52, z53⟩ := bind_ex z51
      refine gq_iastore C (qn_m 296 (by decide) hN) (by decide) em52 dX4_endsMonth_160 ?_
      refine gq_iinc (v := (v2 + 1)) (lv' := [(2, .int (v2 + 1)), (3, .int (((x42 * x44) + (99 : Int32)) / (100 : Int32))), (0, .ref (eB E + 295))]) (q := 2) C dX4_endsMonth_161 rfl rfl (by decide) rfl ?_
      refine gq_goto (tgt := 103) C dX4_endsMonth_164 (by decide) ?_
      refine gq_widen (k' := 0) (n' := 0) (Nat.le_of_ble_eq_true rfl) (Nat.le_of_ble_eq_true rfl) (gq_sub [2, 0] rfl ?_)
      exact ih _ _ _ z53 kk
set_option maxHeartbeats 4000000 in
set_option maxRecDepth 100000 in
theorem l_X4_endsMonth_169 {l : Launch} {E : Ev} (hN : 311 ≤ eN E) {p : Program} {e : Env} {s : State} {m : MethodId} {args : Array Value} {below : List Frame} {meth : Method} {c : Code} (C : Cq E p s m args meth c cX4_endsMonth 5 RX4) {Q : State → Prop} : ∀ (n : Nat) (v2 : Int32) (μ : Mm) (μx : Mm), F_X4_endsMonth_169 n v2 μ = some μx → Gq E p l e rm_X4_endsMonth s m args below meth c 0 0 5 Q 215 [(0, .ref (eB E + 295))] [] μx → Gq E p l e rm_X4_endsMonth s m args below meth c 0 0 5 Q 169 [(0, .ref (eB E + 295)), (2, .int v2)] [] μ := by
  intro n
  induction n with
  | zero =>
    intro v2 μ μx z0 kk
    rw [F_X4_endsMonth_169] at z0
    cases z0
  | succ n ih =>
    intro v2 μ μx z0 kk
    rw [F_X4_endsMonth_169] at z0
    refine gq_iload_n C dX4_endsMonth_169 rfl 1 rfl ?_
    refine gq_aload_n C dX4_endsMonth_170 rfl 0 rfl ?_
    refine gq_get5 C (qn_m 295 (by decide) hN) (by decide) 1 (by decide) wk_6_163 rfl dX4_endsMonth_171 ?_
    refine gq_iconst (v := 0) C dX4_endsMonth_174 (by decide) ?_
    obtain ⟨x57, ex57, z58⟩ := bind_ex z0
    refine gq_ialoadI C (qn_m 296 (by decide) hN) (by decide) ex57 dX4_endsMonth_175 ?_
    rcases ite_ex z58 with ⟨c59, z60⟩ | ⟨c59, z60⟩
    · refine gq_icmp_ge_t (tgt := 215) C dX4_endsMonth_176 (by decide) c59 ?_
      cases z60
      exact gq_widen (Nat.le_of_ble_eq_true rfl) (Nat.le_of_ble_eq_true rfl) (gq_sub [0] rfl kk)
    · refine gq_icmp_ge_f (tgt := 215) C dX4_endsMonth_176 (by decide) c59 ?_
      refine gq_aload_n C dX4_endsMonth_179 rfl 0 rfl ?_
      refine gq_get5 C (qn_m 295 (by decide) hN) (by decide) 1 (by decide) wk_6_163 rfl dX4_endsMonth_180 ?_
      refine gq_sipush (v := 394) C dX4_endsMonth_183 (by decide) ?_
      refine gq_iconst (v := 5) C dX4_endsMonth_186 (by decide) ?_
      refine gq_iload_n C dX4_endsMonth_187 rfl 1 rfl ?_
      refine gq_imul C dX4_endsMonth_188 ?_
      refine gq_iadd C dX4_endsMonth_189 ?_
      refine gq_iconst (v := 2) C dX4_endsMonth_190 (by decide) ?_
      refine gq_iadd C dX4_endsMonth_191 ?_
      refine gq_aload_n C dX4_endsMonth_192 rfl 0 rfl ?_
      refine gq_get5 C (qn_m 295 (by decide) hN) (by decide) 20 (by decide) wk_6_182 rfl dX4_endsMonth_193 ?_
      refine gq_iload_n C dX4_endsMonth_196 rfl 1 rfl ?_
      obtain ⟨x61, ex61, z62⟩ := bind_ex z60
      refine gq_ialoadI C (qn_m 307 (by decide) hN) (by decide) ex61 dX4_endsMonth_197 ?_
      obtain ⟨m63, em63, z64⟩ := bind_ex z62
      refine gq_iastore C (qn_m 296 (by decide) hN) (by decide) em63 dX4_endsMonth_198 ?_
      refine gq_aload_n C dX4_endsMonth_199 rfl 0 rfl ?_
      refine gq_get5 C (qn_m 295 (by decide) hN) (by decide) 1 (by decide) wk_6_163 rfl dX4_endsMonth_200 ?_
      refine gq_bipush (v := 20) C dX4_endsMonth_203 (by decide) ?_
      refine gq_iload_n C dX4_endsMonth_205 rfl 1 rfl ?_
      refine gq_iadd C dX4_endsMonth_206 ?_
      refine gq_iconst (v := 0) C dX4_endsMonth_207 (by decide) ?_
      obtain ⟨m65, em65, z66⟩ := bind_ex z64
      refine gq_iastore C (qn_m 296 (by decide) hN) (by decide) em65 dX4_endsMonth_208 ?_
      refine gq_iinc (v := (v2 + 1)) (lv' := [(2, .int (v2 + 1)), (0, .ref (eB E + 295))]) (q := 1) C dX4_endsMonth_209 rfl rfl (by decide) rfl ?_
      refine gq_goto (tgt := 169) C dX4_endsMonth_212 (by decide) ?_
      refine gq_widen (k' := 0) (n' := 0) (Nat.le_of_ble_eq_true rfl) (Nat.le_of_ble_eq_true rfl) (gq_sub [1, 0] rfl ?_)
      exact ih _ _ _ z66 kk
set_option maxHeartbeats 4000000 in
set_option maxRecDepth 100000 in
theorem c_X4_endsMonth {l : Launch} {E : Ev} (hN : 311 ≤ eN E) {μ : Mm} {μ' : Mm} (z0 : F_X4_endsMonth  μ = some μ') : Ct l E yX4_endsMonth (Cond.code yX4_endsMonth cX4_endsMonth 5 none :: GW) rm_X4_endsMonth [.ref (eB E + 295)] μ none μ' := by
  refine ct_of (by decide) (Nat.le_of_ble_eq_true rfl) (fun p e s m args below meth c C hr => ?_)
  have C : Cq E p s m args meth c cX4_endsMonth 5 RX4 := C
  refine gq_lv (lv' := [(0, .ref (eB E + 295))]) rfl ?_
  unfold F_X4_endsMonth at z0
  refine gq_iconst (v := 0) C dX4_endsMonth_0 (by decide) ?_
  refine gq_istore_n (lv' := [(1, .int (0 : Int32)), (0, .ref (eB E + 295))]) C dX4_endsMonth_1 rfl (by decide) rfl ?_
  refine gq_iconst (v := 0) C dX4_endsMonth_2 (by decide) ?_
  refine gq_istore_n (lv' := [(2, .int (0 : Int32)), (1, .int (0 : Int32)), (0, .ref (eB E + 295))]) C dX4_endsMonth_3 rfl (by decide) rfl ?_
  obtain ⟨⟨x34, m35⟩, eo33, z32⟩ := bind_ex z0
  dsimp only at z32
  refine gq_widen (k' := 0) (n' := 0) (Nat.le_of_ble_eq_true rfl) (Nat.le_of_ble_eq_true rfl) (gq_sub [2, 1, 0] rfl ?_)
  refine l_X4_endsMonth_4 hN C  qFuel _ _ _ _ _ eo33 ?_
  refine gq_aload_n C dX4_endsMonth_94 rfl 0 rfl ?_
  refine gq_get5 C (qn_m 295 (by decide) hN) (by decide) 1 (by decide) wk_6_163 rfl dX4_endsMonth_95 ?_
  refine gq_iconst (v := 3) C dX4_endsMonth_98 (by decide) ?_
  refine gq_iload_n C dX4_endsMonth_99 rfl 1 rfl ?_
  obtain ⟨m36, em36, z37⟩ := bind_ex z32
  refine gq_iastore C (qn_m 296 (by decide) hN) (by decide) em36 dX4_endsMonth_100 ?_
  refine gq_iconst (v := 0) C dX4_endsMonth_101 (by decide) ?_
  refine gq_istore_n (lv' := [(2, .int (0 : Int32)), (0, .ref (eB E + 295)), (1, .int x34)]) C dX4_endsMonth_102 rfl (by decide) rfl ?_
  obtain ⟨m56, eo55, z54⟩ := bind_ex z37
  refine gq_widen (k' := 0) (n' := 0) (Nat.le_of_ble_eq_true rfl) (Nat.le_of_ble_eq_true rfl) (gq_sub [1, 0] rfl ?_)
  refine l_X4_endsMonth_103 hN C  qFuel _ _ _ eo55 ?_
  refine gq_iconst (v := 0) C dX4_endsMonth_167 (by decide) ?_
  refine gq_istore_n (lv' := [(2, .int (0 : Int32)), (0, .ref (eB E + 295))]) C dX4_endsMonth_168 rfl (by decide) rfl ?_
  obtain ⟨m69, eo68, z67⟩ := bind_ex z54
  refine gq_widen (k' := 0) (n' := 0) (Nat.le_of_ble_eq_true rfl) (Nat.le_of_ble_eq_true rfl) (gq_sub [1, 0] rfl ?_)
  refine l_X4_endsMonth_169 hN C  qFuel _ _ _ eo68 ?_
  refine gq_aload_n C dX4_endsMonth_215 rfl 0 rfl ?_
  refine gq_get5 C (qn_m 295 (by decide) hN) (by decide) 1 (by decide) wk_6_163 rfl dX4_endsMonth_216 ?_
  refine gq_iconst (v := 5) C dX4_endsMonth_219 (by decide) ?_
  refine gq_dup2 C dX4_endsMonth_220 ?_
  obtain ⟨x70, ex70, z71⟩ := bind_ex z67
  refine gq_ialoadI C (qn_m 296 (by decide) hN) (by decide) ex70 dX4_endsMonth_221 ?_
  refine gq_iconst (v := 1) C dX4_endsMonth_222 (by decide) ?_
  refine gq_iadd C dX4_endsMonth_223 ?_
  obtain ⟨m72, em72, z73⟩ := bind_ex z71
  refine gq_iastore C (qn_m 296 (by decide) hN) (by decide) em72 dX4_endsMonth_224 ?_
  refine gq_aload_n C dX4_endsMonth_225 rfl 0 rfl ?_
  refine gq_get5 C (qn_m 295 (by decide) hN) (by decide) 1 (by decide) wk_6_163 rfl dX4_endsMonth_226 ?_
  refine gq_bipush (v := 57) C dX4_endsMonth_229 (by decide) ?_
  refine gq_iconst (v := 1) C dX4_endsMonth_231 (by decide) ?_
  obtain ⟨m74, em74, z75⟩ := bind_ex z73
  refine gq_iastore C (qn_m 296 (by decide) hN) (by decide) em74 dX4_endsMonth_232 ?_
  cases z75
  exact gq_vret C hr dX4_endsMonth_233 (Nat.le_of_ble_eq_true rfl) (Nat.le_of_ble_eq_true rfl)
abbrev rm_X4_claimOf : Room := { frames := 0, cells := 0, slots := 0, locals := 0 }
def F_X4_claimOf (p1 : Int32) (p2 : Int32) (μ : Mm) : Option Int32 :=
  (aI μ 296 (((242 : Int32) + ((8 : Int32) * p1)) + p2)).bind fun x1 =>
  some x1
set_option maxHeartbeats 4000000 in
set_option maxRecDepth 100000 in
theorem c_X4_claimOf {l : Launch} {E : Ev} (hN : 311 ≤ eN E) {p1 : Int32} {p2 : Int32} {μ : Mm} {r : Int32} (z0 : F_X4_claimOf p1 p2 μ = some r) : Ct l E yX4_claimOf (Cond.code yX4_claimOf cX4_claimOf 3 (some .int) :: GW) rm_X4_claimOf [.ref (eB E + 295), .int p1, .int p2] μ (some (.int r)) μ := by
  refine ct_of (by decide) (Nat.le_of_ble_eq_true rfl) (fun p e s m args below meth c C hr => ?_)
  have C : Cq E p s m args meth c cX4_claimOf 3 RX4 := C
  refine gq_lv (lv' := [(0, .ref (eB E + 295)), (1, .int p1), (2, .int p2)]) rfl ?_
  unfold F_X4_claimOf at z0
  refine gq_aload_n C dX4_claimOf_0 rfl 0 rfl ?_
  refine gq_get5 C (qn_m 295 (by decide) hN) (by decide) 1 (by decide) wk_6_163 rfl dX4_claimOf_1 ?_
  refine gq_sipush (v := 242) C dX4_claimOf_4 (by decide) ?_
  refine gq_bipush (v := 8) C dX4_claimOf_7 (by decide) ?_
  refine gq_iload_n C dX4_claimOf_9 rfl 1 rfl ?_
  refine gq_imul C dX4_claimOf_10 ?_
  refine gq_iadd C dX4_claimOf_11 ?_
  refine gq_iload_n C dX4_claimOf_12 rfl 2 rfl ?_
  refine gq_iadd C dX4_claimOf_13 ?_
  obtain ⟨x1, ex1, z2⟩ := bind_ex z0
  refine gq_ialoadI C (qn_m 296 (by decide) hN) (by decide) ex1 dX4_claimOf_14 ?_
  cases z2
  exact gq_iret C hr dX4_claimOf_15 (Nat.le_of_ble_eq_true rfl) (Nat.le_of_ble_eq_true rfl)
abbrev rm_X4_outflowNow : Room := { frames := 1, cells := 0, slots := 0, locals := 22 }
def F_X4_outflowNow  (μ : Mm) : Option Int32 :=
  (aI μ 296 (0 : Int32)).bind fun x1 =>
  if x1 = 0 then
  (some (0 : Int32))
  else
  ((aI μ 296 (0 : Int32)).bind fun x5 =>
  (F_X4_gaugeOf (x5 - (1 : Int32)) (2 : Int32) μ).bind fun o8 =>
  some o8)
set_option maxHeartbeats 4000000 in
set_option maxRecDepth 100000 in
theorem c_X4_outflowNow {l : Launch} {E : Ev} (hN : 311 ≤ eN E) {μ : Mm} {r : Int32} (z0 : F_X4_outflowNow  μ = some r) : Ct l E yX4_outflowNow (Cond.code yX4_outflowNow cX4_outflowNow 1 (some .int) :: GW) rm_X4_outflowNow [.ref (eB E + 295)] μ (some (.int r)) μ := by
  refine ct_of (by decide) (Nat.le_of_ble_eq_true rfl) (fun p e s m args below meth c C hr => ?_)
  have C : Cq E p s m args meth c cX4_outflowNow 1 RX4 := C
  refine gq_lv (lv' := [(0, .ref (eB E + 295))]) rfl ?_
  unfold F_X4_outflowNow at z0
  refine gq_aload_n C dX4_outflowNow_0 rfl 0 rfl ?_
  refine gq_get5 C (qn_m 295 (by decide) hN) (by decide) 1 (by decide) wk_6_163 rfl dX4_outflowNow_1 ?_
  refine gq_iconst (v := 0) C dX4_outflowNow_4 (by decide) ?_
  obtain ⟨x1, ex1, z2⟩ := bind_ex z0
  refine gq_ialoadI C (qn_m 296 (by decide) hN) (by decide) ex1 dX4_outflowNow_5 ?_
  rcases ite_ex z2 with ⟨c3, z4⟩ | ⟨c3, z4⟩
  · refine gq_if_ne_f (tgt := 13) C dX4_outflowNow_6 (by decide) c3 ?_
    refine gq_iconst (v := 0) C dX4_outflowNow_9 (by decide) ?_
    refine gq_goto (tgt := 26) C dX4_outflowNow_10 (by decide) ?_
    cases z4
    exact gq_iret C hr dX4_outflowNow_26 (Nat.le_of_ble_eq_true rfl) (Nat.le_of_ble_eq_true rfl)
  · refine gq_if_ne_t (tgt := 13) C dX4_outflowNow_6 (by decide) c3 ?_
    refine gq_aload_n C dX4_outflowNow_13 rfl 0 rfl ?_
    refine gq_aload_n C dX4_outflowNow_14 rfl 0 rfl ?_
    refine gq_get5 C (qn_m 295 (by decide) hN) (by decide) 1 (by decide) wk_6_163 rfl dX4_outflowNow_15 ?_
    refine gq_iconst (v := 0) C dX4_outflowNow_18 (by decide) ?_
    obtain ⟨x5, ex5, z6⟩ := bind_ex z4
    refine gq_ialoadI C (qn_m 296 (by decide) hN) (by decide) ex5 dX4_outflowNow_19 ?_
    refine gq_iconst (v := 1) C dX4_outflowNow_20 (by decide) ?_
    refine gq_isub C dX4_outflowNow_21 ?_
    refine gq_iconst (v := 2) C dX4_outflowNow_22 (by decide) ?_
    obtain ⟨x9, eo8, z7⟩ := bind_ex z6
    refine gq_V (As := [.int (x5 - (1 : Int32)), .int (2 : Int32)]) (rest := []) (j := 5) C (c_X4_gaugeOf hN  eo8) (qn_m 295 (by decide) hN) (by decide) (by decide) rfl wk_7_231 wk_7_233 ws_X4_gaugeOf wk_1_9 wk_7_234 hd_X4_gaugeOf ⟨(Nat.le_of_ble_eq_true rfl), (Nat.le_of_ble_eq_true rfl)⟩ (Nat.le_of_ble_eq_true rfl) ⟨(Nat.le_of_ble_eq_true rfl), (Nat.le_of_ble_eq_true rfl)⟩ dX4_outflowNow_23 rfl rfl ?_
    cases z7
    exact gq_iret C hr dX4_outflowNow_26 (Nat.le_of_ble_eq_true rfl) (Nat.le_of_ble_eq_true rfl)
abbrev rm_X4_calledNow : Room := { frames := 2, cells := 0, slots := 0, locals := 43 }
def F_X4_calledNow_4  (μ : Mm) : Nat → Int32 → Int32 → Option Int32
  | 0, _, _ => none
  | n + 1, v1, v2 =>
  (aI μ 296 (56 : Int32)).bind fun x1 =>
  if x1 ≤ v2 then
  (some v1)
  else
  ((F_X4_claimOf v2 (1 : Int32) μ).bind fun o6 =>
  (F_X4_rightOf o6 (2 : Int32) μ).bind fun o9 =>
  (F_X4_claimOf v2 (5 : Int32) μ).bind fun o12 =>
  (F_X4_claimOf v2 (4 : Int32) μ).bind fun o15 =>
  (if o15 ≤ o12 then
  (some v1)
  else
  (if v1 = (-1 : Int32) then
  (some o9)
  else
  (if v1 ≤ o9 then
  (some v1)
  else
  (some o9)))).bind fun o26 =>
  F_X4_calledNow_4 μ n o26 (v2 + 1))
def F_X4_calledNow  (μ : Mm) : Option Int32 :=
  (F_X4_calledNow_4 μ qFuel (-1 : Int32) (0 : Int32)).bind fun o28 =>
  some o28
set_option maxHeartbeats 4000000 in
set_option maxRecDepth 100000 in
theorem l_X4_calledNow_4 {l : Launch} {E : Ev} (hN : 311 ≤ eN E) {p : Program} {e : Env} {s : State} {m : MethodId} {args : Array Value} {below : List Frame} {meth : Method} {c : Code} (C : Cq E p s m args meth c cX4_calledNow 4 RX4) {Q : State → Prop} {μ : Mm} : ∀ (n : Nat) (v1 : Int32) (v2 : Int32) (w1 : Int32), F_X4_calledNow_4 μ n v1 v2 = some w1 → Gq E p l e rm_X4_calledNow s m args below meth c 0 0 4 Q 64 [(1, .int w1)] [] μ → Gq E p l e rm_X4_calledNow s m args below meth c 0 0 4 Q 4 [(0, .ref (eB E + 295)), (1, .int v1), (2, .int v2)] [] μ := by
  intro n
  induction n with
  | zero =>
    intro v1 v2 w1 z0 kk
    rw [F_X4_calledNow_4] at z0
    cases z0
  | succ n ih =>
    intro v1 v2 w1 z0 kk
    rw [F_X4_calledNow_4] at z0
    refine gq_iload_n C dX4_calledNow_4 rfl 2 rfl ?_
    refine gq_aload_n C dX4_calledNow_5 rfl 0 rfl ?_
    refine gq_get5 C (qn_m 295 (by decide) hN) (by decide) 1 (by decide) wk_6_163 rfl dX4_calledNow_6 ?_
    refine gq_bipush (v := 56) C dX4_calledNow_9 (by decide) ?_
    obtain ⟨x1, ex1, z2⟩ := bind_ex z0
    refine gq_ialoadI C (qn_m 296 (by decide) hN) (by decide) ex1 dX4_calledNow_11 ?_
    rcases ite_ex z2 with ⟨c3, z4⟩ | ⟨c3, z4⟩
    · refine gq_icmp_ge_t (tgt := 64) C dX4_calledNow_12 (by decide) c3 ?_
      cases z4
      exact gq_widen (Nat.le_of_ble_eq_true rfl) (Nat.le_of_ble_eq_true rfl) (gq_sub [1] rfl kk)
    · refine gq_icmp_ge_f (tgt := 64) C dX4_calledNow_12 (by decide) c3 ?_
      refine gq_aload_n C dX4_calledNow_15 rfl 0 rfl ?_
      refine gq_aload_n C dX4_calledNow_16 rfl 0 rfl ?_
      refine gq_iload_n C dX4_calledNow_17 rfl 2 rfl ?_
      refine gq_iconst (v := 1) C dX4_calledNow_18 (by decide) ?_
      obtain ⟨x7, eo6, z5⟩ := bind_ex z4
      refine gq_V (As := [.int v2, .int (1 : Int32)]) (rest := [.ref (eB E + 295)]) (j := 5) C (c_X4_claimOf hN  eo6) (qn_m 295 (by decide) hN) (by decide) (by decide) rfl wk_7_223 wk_7_225 ws_X4_claimOf wk_1_9 wk_7_226 hd_X4_claimOf ⟨(Nat.le_of_ble_eq_true rfl), (Nat.le_of_ble_eq_true rfl)⟩ (Nat.le_of_ble_eq_true rfl) ⟨(Nat.le_of_ble_eq_true rfl), (Nat.le_of_ble_eq_true rfl)⟩ dX4_calledNow_19 rfl rfl ?_
      refine gq_iconst (v := 2) C dX4_calledNow_22 (by decide) ?_
      obtain ⟨x10, eo9, z8⟩ := bind_ex z5
      refine gq_V (As := [.int x7, .int (2 : Int32)]) (rest := []) (j := 5) C (c_X4_rightOf hN  eo9) (qn_m 295 (by decide) hN) (by decide) (by decide) rfl wk_7_179 wk_7_181 ws_X4_rightOf wk_1_9 wk_7_182 hd_X4_rightOf ⟨(Nat.le_of_ble_eq_true rfl), (Nat.le_of_ble_eq_true rfl)⟩ (Nat.le_of_ble_eq_true rfl) ⟨(Nat.le_of_ble_eq_true rfl), (Nat.le_of_ble_eq_true rfl)⟩ dX4_calledNow_23 rfl rfl ?_
      refine gq_istore_n (lv' := [(3, .int x10), (0, .ref (eB E + 295)), (1, .int v1), (2, .int v2)]) C dX4_calledNow_26 rfl (by decide) rfl ?_
      refine gq_aload_n C dX4_calledNow_27 rfl 1 rfl ?_
      refine gq_iload_n C dX4_calledNow_28 rfl 3 rfl ?_
      refine gq_iconst (v := 5) C dX4_calledNow_29 (by decide) ?_
      obtain ⟨x13, eo12, z11⟩ := bind_ex z8
      refine gq_V (As := [.int v2, .int (5 : Int32)]) (rest := []) (j := 5) C (c_X4_claimOf hN  eo12) (qn_m 295 (by decide) hN) (by decide) (by decide) rfl wk_7_223 wk_7_225 ws_X4_claimOf wk_1_9 wk_7_226 hd_X4_claimOf ⟨(Nat.le_of_ble_eq_true rfl), (Nat.le_of_ble_eq_true rfl)⟩ (Nat.le_of_ble_eq_true rfl) ⟨(Nat.le_of_ble_eq_true rfl), (Nat.le_of_ble_eq_true rfl)⟩ dX4_calledNow_30 rfl rfl ?_
      refine gq_aload_n C dX4_calledNow_33 rfl 1 rfl ?_
      refine gq_iload_n C dX4_calledNow_34 rfl 3 rfl ?_
      refine gq_iconst (v := 4) C dX4_calledNow_35 (by decide) ?_
      obtain ⟨x16, eo15, z14⟩ := bind_ex z11
      refine gq_V (As := [.int v2, .int (4 : Int32)]) (rest := [.int x13]) (j := 5) C (c_X4_claimOf hN  eo15) (qn_m 295 (by decide) hN) (by decide) (by decide) rfl wk_7_223 wk_7_225 ws_X4_claimOf wk_1_9 wk_7_226 hd_X4_claimOf ⟨(Nat.le_of_ble_eq_true rfl), (Nat.le_of_ble_eq_true rfl)⟩ (Nat.le_of_ble_eq_true rfl) ⟨(Nat.le_of_ble_eq_true rfl), (Nat.le_of_ble_eq_true rfl)⟩ dX4_calledNow_36 rfl rfl ?_
      obtain ⟨x17, z18, z19⟩ := bind_ex z14
      refine gq_join (k' := 0) (n' := 0) (pc' := 57) (lv' := [(0, .ref (eB E + 295)), (2, .int v2)]) (st' := [.int x17]) (μ' := μ) ?_ (fun J57 => ?_)
      · refine gq_istore_n (lv' := [(1, .int x17), (0, .ref (eB E + 295)), (2, .int v2)]) C dX4_calledNow_57 rfl (by decide) rfl ?_
        refine gq_iinc (v := (v2 + 1)) (lv' := [(2, .int (v2 + 1)), (1, .int x17), (0, .ref (eB E + 295))]) (q := 2) C dX4_calledNow_58 rfl rfl (by decide) rfl ?_
        refine gq_goto (tgt := 4) C dX4_calledNow_61 (by decide) ?_
        refine gq_widen (k' := 0) (n' := 0) (Nat.le_of_ble_eq_true rfl) (Nat.le_of_ble_eq_true rfl) (gq_sub [2, 1, 0] rfl ?_)
        exact ih _ _ _ z19 kk
      · rcases ite_ex z18 with ⟨c20, z21⟩ | ⟨c20, z21⟩
        · refine gq_icmp_ge_t (tgt := 56) C dX4_calledNow_39 (by decide) c20 ?_
          refine gq_iload_n C dX4_calledNow_56 rfl 2 rfl ?_
          cases z21
          exact gq_widen (Nat.le_of_ble_eq_true rfl) (Nat.le_of_ble_eq_true rfl) (gq_sub [1, 3] rfl J57)
        · refine gq_icmp_ge_f (tgt := 56) C dX4_calledNow_39 (by decide) c20 ?_
          refine gq_iload_n C dX4_calledNow_42 rfl 2 rfl ?_
          refine gq_iconst (v := -1) C dX4_calledNow_43 (by decide) ?_
          rcases ite_ex z21 with ⟨c22, z23⟩ | ⟨c22, z23⟩
          · refine gq_icmp_eq_t (tgt := 52) C dX4_calledNow_44 (by decide) c22 ?_
            refine gq_iload_n C dX4_calledNow_52 rfl 0 rfl ?_
            refine gq_goto (tgt := 57) C dX4_calledNow_53 (by decide) ?_
            cases z23
            exact gq_widen (Nat.le_of_ble_eq_true rfl) (Nat.le_of_ble_eq_true rfl) (gq_sub [1, 3] rfl J57)
          · refine gq_icmp_eq_f (tgt := 52) C dX4_calledNow_44 (by decide) c22 ?_
            refine gq_iload_n C dX4_calledNow_47 rfl 0 rfl ?_
            refine gq_iload_n C dX4_calledNow_48 rfl 2 rfl ?_
            rcases ite_ex z23 with ⟨c24, z25⟩ | ⟨c24, z25⟩
            · refine gq_icmp_ge_t (tgt := 56) C dX4_calledNow_49 (by decide) c24 ?_
              refine gq_iload_n C dX4_calledNow_56 rfl 2 rfl ?_
              cases z25
              exact gq_widen (Nat.le_of_ble_eq_true rfl) (Nat.le_of_ble_eq_true rfl) (gq_sub [1, 3] rfl J57)
            · refine gq_icmp_ge_f (tgt := 56) C dX4_calledNow_49 (by decide) c24 ?_
              refine gq_iload_n C dX4_calledNow_52 rfl 0 rfl ?_
              refine gq_goto (tgt := 57) C dX4_calledNow_53 (by decide) ?_
              cases z25
              exact gq_widen (Nat.le_of_ble_eq_true rfl) (Nat.le_of_ble_eq_true rfl) (gq_sub [1, 3] rfl J57)
set_option maxHeartbeats 4000000 in
set_option maxRecDepth 100000 in
theorem c_X4_calledNow {l : Launch} {E : Ev} (hN : 311 ≤ eN E) {μ : Mm} {r : Int32} (z0 : F_X4_calledNow  μ = some r) : Ct l E yX4_calledNow (Cond.code yX4_calledNow cX4_calledNow 4 (some .int) :: GW) rm_X4_calledNow [.ref (eB E + 295)] μ (some (.int r)) μ := by
  refine ct_of (by decide) (Nat.le_of_ble_eq_true rfl) (fun p e s m args below meth c C hr => ?_)
  have C : Cq E p s m args meth c cX4_calledNow 4 RX4 := C
  refine gq_lv (lv' := [(0, .ref (eB E + 295))]) rfl ?_
  unfold F_X4_calledNow at z0
  refine gq_iconst (v := -1) C dX4_calledNow_0 (by decide) ?_
  refine gq_istore_n (lv' := [(1, .int (-1 : Int32)), (0, .ref (eB E + 295))]) C dX4_calledNow_1 rfl (by decide) rfl ?_
  refine gq_iconst (v := 0) C dX4_calledNow_2 (by decide) ?_
  refine gq_istore_n (lv' := [(2, .int (0 : Int32)), (1, .int (-1 : Int32)), (0, .ref (eB E + 295))]) C dX4_calledNow_3 rfl (by decide) rfl ?_
  obtain ⟨x29, eo28, z27⟩ := bind_ex z0
  refine gq_widen (k' := 0) (n' := 0) (Nat.le_of_ble_eq_true rfl) (Nat.le_of_ble_eq_true rfl) (gq_sub [2, 1, 0] rfl ?_)
  refine l_X4_calledNow_4 hN C  qFuel _ _ _ eo28 ?_
  refine gq_iload_n C dX4_calledNow_64 rfl 0 rfl ?_
  cases z27
  exact gq_iret C hr dX4_calledNow_65 (Nat.le_of_ble_eq_true rfl) (Nat.le_of_ble_eq_true rfl)
