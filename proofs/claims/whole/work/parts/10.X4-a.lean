abbrev rm_X4_thrown : Room := { frames := 0, cells := 0, slots := 0, locals := 0 }
def F_X4_thrown  (μ : Mm) : Option Int32 :=
  some (μ.1 295 0)
set_option maxHeartbeats 4000000 in
set_option maxRecDepth 100000 in
theorem c_X4_thrown {l : Launch} {E : Ev} (hN : 311 ≤ eN E) {μ : Mm} {r : Int32} (z0 : F_X4_thrown  μ = some r) : Ct l E yX4_thrown (Cond.code yX4_thrown cX4_thrown 1 (some .int) :: GW) rm_X4_thrown [.ref (eB E + 295)] μ (some (.int r)) μ := by
  refine ct_of (by decide) (Nat.le_of_ble_eq_true rfl) (fun p e s m args below meth c C hr => ?_)
  have C : Cq E p s m args meth c cX4_thrown 1 RX4 := C
  refine gq_lv (lv' := [(0, .ref (eB E + 295))]) rfl ?_
  unfold F_X4_thrown at z0
  refine gq_aload_n C dX4_thrown_0 rfl 0 rfl ?_
  refine gq_get5 C (qn_m 295 (by decide) hN) (by decide) 0 (by decide) wk_6_162 rfl dX4_thrown_1 ?_
  cases z0
  exact gq_iret C hr dX4_thrown_4 (Nat.le_of_ble_eq_true rfl) (Nat.le_of_ble_eq_true rfl)
abbrev rm_X4_inRange : Room := { frames := 0, cells := 0, slots := 0, locals := 0 }
def F_X4_inRange (p1 : Int32) (p2 : Int32) (p3 : Int32) (μ : Mm) : Option Int32 :=
  if p1 < p2 then
  (some (0 : Int32))
  else
  (if p3 < p1 then
  (some (0 : Int32))
  else
  (some (1 : Int32)))
set_option maxHeartbeats 4000000 in
set_option maxRecDepth 100000 in
theorem c_X4_inRange {l : Launch} {E : Ev} (hN : 311 ≤ eN E) {p1 : Int32} {p2 : Int32} {p3 : Int32} {μ : Mm} {r : Int32} (z0 : F_X4_inRange p1 p2 p3 μ = some r) : Ct l E yX4_inRange (Cond.code yX4_inRange cX4_inRange 3 (some .boolean) :: GW) rm_X4_inRange [.int p1, .int p2, .int p3] μ (some (.int r)) μ := by
  refine ct_of (by decide) (Nat.le_of_ble_eq_true rfl) (fun p e s m args below meth c C hr => ?_)
  have C : Cq E p s m args meth c cX4_inRange 3 RX4 := C
  refine gq_lv (lv' := [(0, .int p1), (1, .int p2), (2, .int p3)]) rfl ?_
  unfold F_X4_inRange at z0
  refine gq_iload_n C dX4_inRange_0 rfl 0 rfl ?_
  refine gq_iload_n C dX4_inRange_1 rfl 1 rfl ?_
  rcases ite_ex z0 with ⟨c1, z2⟩ | ⟨c1, z2⟩
  · refine gq_icmp_lt_t (tgt := 14) C dX4_inRange_2 (by decide) c1 ?_
    refine gq_iconst (v := 0) C dX4_inRange_14 (by decide) ?_
    cases z2
    exact gq_zret C hr (by decide) dX4_inRange_15 (Nat.le_of_ble_eq_true rfl) (Nat.le_of_ble_eq_true rfl)
  · refine gq_icmp_lt_f (tgt := 14) C dX4_inRange_2 (by decide) c1 ?_
    refine gq_iload_n C dX4_inRange_5 rfl 0 rfl ?_
    refine gq_iload_n C dX4_inRange_6 rfl 2 rfl ?_
    rcases ite_ex z2 with ⟨c3, z4⟩ | ⟨c3, z4⟩
    · refine gq_icmp_gt_t (tgt := 14) C dX4_inRange_7 (by decide) c3 ?_
      refine gq_iconst (v := 0) C dX4_inRange_14 (by decide) ?_
      cases z4
      exact gq_zret C hr (by decide) dX4_inRange_15 (Nat.le_of_ble_eq_true rfl) (Nat.le_of_ble_eq_true rfl)
    · refine gq_icmp_gt_f (tgt := 14) C dX4_inRange_7 (by decide) c3 ?_
      refine gq_iconst (v := 1) C dX4_inRange_10 (by decide) ?_
      refine gq_goto (tgt := 15) C dX4_inRange_11 (by decide) ?_
      cases z4
      exact gq_zret C hr (by decide) dX4_inRange_15 (Nat.le_of_ble_eq_true rfl) (Nat.le_of_ble_eq_true rfl)
abbrev rm_X4_lesser : Room := { frames := 0, cells := 0, slots := 0, locals := 0 }
def F_X4_lesser (p1 : Int32) (p2 : Int32) (μ : Mm) : Option Int32 :=
  if p2 ≤ p1 then
  (some p2)
  else
  (some p1)
set_option maxHeartbeats 4000000 in
set_option maxRecDepth 100000 in
theorem c_X4_lesser {l : Launch} {E : Ev} (hN : 311 ≤ eN E) {p1 : Int32} {p2 : Int32} {μ : Mm} {r : Int32} (z0 : F_X4_lesser p1 p2 μ = some r) : Ct l E yX4_lesser (Cond.code yX4_lesser cX4_lesser 2 (some .int) :: GW) rm_X4_lesser [.int p1, .int p2] μ (some (.int r)) μ := by
  refine ct_of (by decide) (Nat.le_of_ble_eq_true rfl) (fun p e s m args below meth c C hr => ?_)
  have C : Cq E p s m args meth c cX4_lesser 2 RX4 := C
  refine gq_lv (lv' := [(0, .int p1), (1, .int p2)]) rfl ?_
  unfold F_X4_lesser at z0
  refine gq_iload_n C dX4_lesser_0 rfl 0 rfl ?_
  refine gq_iload_n C dX4_lesser_1 rfl 1 rfl ?_
  rcases ite_ex z0 with ⟨c1, z2⟩ | ⟨c1, z2⟩
  · refine gq_icmp_ge_t (tgt := 9) C dX4_lesser_2 (by decide) c1 ?_
    refine gq_iload_n C dX4_lesser_9 rfl 1 rfl ?_
    cases z2
    exact gq_iret C hr dX4_lesser_10 (Nat.le_of_ble_eq_true rfl) (Nat.le_of_ble_eq_true rfl)
  · refine gq_icmp_ge_f (tgt := 9) C dX4_lesser_2 (by decide) c1 ?_
    refine gq_iload_n C dX4_lesser_5 rfl 0 rfl ?_
    refine gq_goto (tgt := 10) C dX4_lesser_6 (by decide) ?_
    cases z2
    exact gq_iret C hr dX4_lesser_10 (Nat.le_of_ble_eq_true rfl) (Nat.le_of_ble_eq_true rfl)
abbrev rm_X4_rightAt : Room := { frames := 0, cells := 0, slots := 0, locals := 0 }
def F_X4_rightAt (p1 : Int32) (p2 : Int32) (μ : Mm) : Option Int32 :=
  some (((58 : Int32) + ((10 : Int32) * p1)) + p2)
set_option maxHeartbeats 4000000 in
set_option maxRecDepth 100000 in
theorem c_X4_rightAt {l : Launch} {E : Ev} (hN : 311 ≤ eN E) {p1 : Int32} {p2 : Int32} {μ : Mm} {r : Int32} (z0 : F_X4_rightAt p1 p2 μ = some r) : Ct l E yX4_rightAt (Cond.code yX4_rightAt cX4_rightAt 2 (some .int) :: GW) rm_X4_rightAt [.int p1, .int p2] μ (some (.int r)) μ := by
  refine ct_of (by decide) (Nat.le_of_ble_eq_true rfl) (fun p e s m args below meth c C hr => ?_)
  have C : Cq E p s m args meth c cX4_rightAt 2 RX4 := C
  refine gq_lv (lv' := [(0, .int p1), (1, .int p2)]) rfl ?_
  unfold F_X4_rightAt at z0
  refine gq_bipush (v := 58) C dX4_rightAt_0 (by decide) ?_
  refine gq_bipush (v := 10) C dX4_rightAt_2 (by decide) ?_
  refine gq_iload_n C dX4_rightAt_4 rfl 0 rfl ?_
  refine gq_imul C dX4_rightAt_5 ?_
  refine gq_iadd C dX4_rightAt_6 ?_
  refine gq_iload_n C dX4_rightAt_7 rfl 1 rfl ?_
  refine gq_iadd C dX4_rightAt_8 ?_
  cases z0
  exact gq_iret C hr dX4_rightAt_9 (Nat.le_of_ble_eq_true rfl) (Nat.le_of_ble_eq_true rfl)
abbrev rm_X4_rightOf : Room := { frames := 1, cells := 0, slots := 0, locals := 21 }
def F_X4_rightOf (p1 : Int32) (p2 : Int32) (μ : Mm) : Option Int32 :=
  (F_X4_rightAt p1 p2 μ).bind fun o2 =>
  (aI μ 296 o2).bind fun x4 =>
  some x4
set_option maxHeartbeats 4000000 in
set_option maxRecDepth 100000 in
theorem c_X4_rightOf {l : Launch} {E : Ev} (hN : 311 ≤ eN E) {p1 : Int32} {p2 : Int32} {μ : Mm} {r : Int32} (z0 : F_X4_rightOf p1 p2 μ = some r) : Ct l E yX4_rightOf (Cond.code yX4_rightOf cX4_rightOf 3 (some .int) :: GW) rm_X4_rightOf [.ref (eB E + 295), .int p1, .int p2] μ (some (.int r)) μ := by
  refine ct_of (by decide) (Nat.le_of_ble_eq_true rfl) (fun p e s m args below meth c C hr => ?_)
  have C : Cq E p s m args meth c cX4_rightOf 3 RX4 := C
  refine gq_lv (lv' := [(0, .ref (eB E + 295)), (1, .int p1), (2, .int p2)]) rfl ?_
  unfold F_X4_rightOf at z0
  refine gq_aload_n C dX4_rightOf_0 rfl 0 rfl ?_
  refine gq_get5 C (qn_m 295 (by decide) hN) (by decide) 1 (by decide) wk_6_163 rfl dX4_rightOf_1 ?_
  refine gq_iload_n C dX4_rightOf_4 rfl 1 rfl ?_
  refine gq_iload_n C dX4_rightOf_5 rfl 2 rfl ?_
  obtain ⟨x3, eo2, z1⟩ := bind_ex z0
  refine gq_S (As := [.int p1, .int p2]) (rest := [.ref (eB E + 296)]) C (c_X4_rightAt hN  eo2) wk_7_88 wk_7_89 wk_1_9 wk_7_90 hd_X4_rightAt ⟨(Nat.le_of_ble_eq_true rfl), (Nat.le_of_ble_eq_true rfl)⟩ (Nat.le_of_ble_eq_true rfl) ⟨(Nat.le_of_ble_eq_true rfl), (Nat.le_of_ble_eq_true rfl)⟩ dX4_rightOf_6 rfl rfl ?_
  obtain ⟨x4, ex4, z5⟩ := bind_ex z1
  refine gq_ialoadI C (qn_m 296 (by decide) hN) (by decide) ex4 dX4_rightOf_9 ?_
  cases z5
  exact gq_iret C hr dX4_rightOf_10 (Nat.le_of_ble_eq_true rfl) (Nat.le_of_ble_eq_true rfl)
abbrev rm_X4_leaseOf : Room := { frames := 0, cells := 0, slots := 0, locals := 0 }
def F_X4_leaseOf (p1 : Int32) (p2 : Int32) (μ : Mm) : Option Int32 :=
  (aI μ 296 (((158 : Int32) + ((6 : Int32) * p1)) + p2)).bind fun x1 =>
  some x1
set_option maxHeartbeats 4000000 in
set_option maxRecDepth 100000 in
theorem c_X4_leaseOf {l : Launch} {E : Ev} (hN : 311 ≤ eN E) {p1 : Int32} {p2 : Int32} {μ : Mm} {r : Int32} (z0 : F_X4_leaseOf p1 p2 μ = some r) : Ct l E yX4_leaseOf (Cond.code yX4_leaseOf cX4_leaseOf 3 (some .int) :: GW) rm_X4_leaseOf [.ref (eB E + 295), .int p1, .int p2] μ (some (.int r)) μ := by
  refine ct_of (by decide) (Nat.le_of_ble_eq_true rfl) (fun p e s m args below meth c C hr => ?_)
  have C : Cq E p s m args meth c cX4_leaseOf 3 RX4 := C
  refine gq_lv (lv' := [(0, .ref (eB E + 295)), (1, .int p1), (2, .int p2)]) rfl ?_
  unfold F_X4_leaseOf at z0
  refine gq_aload_n C dX4_leaseOf_0 rfl 0 rfl ?_
  refine gq_get5 C (qn_m 295 (by decide) hN) (by decide) 1 (by decide) wk_6_163 rfl dX4_leaseOf_1 ?_
  refine gq_sipush (v := 158) C dX4_leaseOf_4 (by decide) ?_
  refine gq_bipush (v := 6) C dX4_leaseOf_7 (by decide) ?_
  refine gq_iload_n C dX4_leaseOf_9 rfl 1 rfl ?_
  refine gq_imul C dX4_leaseOf_10 ?_
  refine gq_iadd C dX4_leaseOf_11 ?_
  refine gq_iload_n C dX4_leaseOf_12 rfl 2 rfl ?_
  refine gq_iadd C dX4_leaseOf_13 ?_
  obtain ⟨x1, ex1, z2⟩ := bind_ex z0
  refine gq_ialoadI C (qn_m 296 (by decide) hN) (by decide) ex1 dX4_leaseOf_14 ?_
  cases z2
  exact gq_iret C hr dX4_leaseOf_15 (Nat.le_of_ble_eq_true rfl) (Nat.le_of_ble_eq_true rfl)
abbrev rm_X4_optionOf : Room := { frames := 0, cells := 0, slots := 0, locals := 0 }
def F_X4_optionOf (p1 : Int32) (p2 : Int32) (μ : Mm) : Option Int32 :=
  (aI μ 296 (((206 : Int32) + ((6 : Int32) * p1)) + p2)).bind fun x1 =>
  some x1
set_option maxHeartbeats 4000000 in
set_option maxRecDepth 100000 in
theorem c_X4_optionOf {l : Launch} {E : Ev} (hN : 311 ≤ eN E) {p1 : Int32} {p2 : Int32} {μ : Mm} {r : Int32} (z0 : F_X4_optionOf p1 p2 μ = some r) : Ct l E yX4_optionOf (Cond.code yX4_optionOf cX4_optionOf 3 (some .int) :: GW) rm_X4_optionOf [.ref (eB E + 295), .int p1, .int p2] μ (some (.int r)) μ := by
  refine ct_of (by decide) (Nat.le_of_ble_eq_true rfl) (fun p e s m args below meth c C hr => ?_)
  have C : Cq E p s m args meth c cX4_optionOf 3 RX4 := C
  refine gq_lv (lv' := [(0, .ref (eB E + 295)), (1, .int p1), (2, .int p2)]) rfl ?_
  unfold F_X4_optionOf at z0
  refine gq_aload_n C dX4_optionOf_0 rfl 0 rfl ?_
  refine gq_get5 C (qn_m 295 (by decide) hN) (by decide) 1 (by decide) wk_6_163 rfl dX4_optionOf_1 ?_
  refine gq_sipush (v := 206) C dX4_optionOf_4 (by decide) ?_
  refine gq_bipush (v := 6) C dX4_optionOf_7 (by decide) ?_
  refine gq_iload_n C dX4_optionOf_9 rfl 1 rfl ?_
  refine gq_imul C dX4_optionOf_10 ?_
  refine gq_iadd C dX4_optionOf_11 ?_
  refine gq_iload_n C dX4_optionOf_12 rfl 2 rfl ?_
  refine gq_iadd C dX4_optionOf_13 ?_
  obtain ⟨x1, ex1, z2⟩ := bind_ex z0
  refine gq_ialoadI C (qn_m 296 (by decide) hN) (by decide) ex1 dX4_optionOf_14 ?_
  cases z2
  exact gq_iret C hr dX4_optionOf_15 (Nat.le_of_ble_eq_true rfl) (Nat.le_of_ble_eq_true rfl)
abbrev rm_X4_append : Room := { frames := 0, cells := 0, slots := 0, locals := 0 }
def F_X4_append_23 (u1 : Int32) (u2 : Int32) (u3 : Int32) (u4 : Int32) (u5 : Int32) : Nat → Int32 → Mm → Option Mm
  | 0, _, _ => none
  | n + 1, v6, μ =>
  if (20 : Int32) ≤ v6 then
  (some μ)
  else
  ((if (4 : Int32) ≤ v6 then
  (if (8 : Int32) ≤ v6 then
  (if (12 : Int32) ≤ v6 then
  (if (16 : Int32) ≤ v6 then
  (some u5)
  else
  (some u4))
  else
  (some u3))
  else
  (some u2))
  else
  (some u1)).bind fun o18 =>
  (sB μ 306 (μ.1 295 13) (Int8.toInt32 (Int32.toInt8 (o18 >>> (((24 : Int32) - ((8 : Int32) * (v6 - v6 / (4 : Int32) * (4 : Int32)))) &&& 31))))).bind fun m19 =>
  (some (uI m19 295 13 ((m19.1 295 13) + (1 : Int32)))).bind fun m21 =>
  F_X4_append_23 u1 u2 u3 u4 u5 n (v6 + 1) m21)
def F_X4_append (p1 : Int32) (p2 : Int32) (p3 : Int32) (p4 : Int32) (p5 : Int32) (μ : Mm) : Option (Int32 × Mm) :=
  (some (uI μ 295 0 (0 : Int32))).bind fun m1 =>
  if ((m1.1 295 13) + (20 : Int32)) ≤ (900 : Int32) then
  ((F_X4_append_23 p1 p2 p3 p4 p5 qFuel (0 : Int32) m1).bind fun o24 =>
  some ((o24.1 295 13), o24))
  else
  (some ((-1 : Int32), m1))
set_option maxHeartbeats 4000000 in
set_option maxRecDepth 100000 in
theorem l_X4_append_23 {l : Launch} {E : Ev} (hN : 311 ≤ eN E) {p : Program} {e : Env} {s : State} {m : MethodId} {args : Array Value} {below : List Frame} {meth : Method} {c : Code} (C : Cq E p s m args meth c cX4_append 8 RX4) {Q : State → Prop} {u1 : Int32} {u2 : Int32} {u3 : Int32} {u4 : Int32} {u5 : Int32} : ∀ (n : Nat) (v6 : Int32) (μ : Mm) (μx : Mm), F_X4_append_23 u1 u2 u3 u4 u5 n v6 μ = some μx → Gq E p l e rm_X4_append s m args below meth c 0 0 8 Q 117 [(0, .ref (eB E + 295))] [] μx → Gq E p l e rm_X4_append s m args below meth c 0 0 8 Q 23 [(0, .ref (eB E + 295)), (1, .int u1), (2, .int u2), (3, .int u3), (4, .int u4), (5, .int u5), (6, .int v6)] [] μ := by
  intro n
  induction n with
  | zero =>
    intro v6 μ μx z0 kk
    rw [F_X4_append_23] at z0
    cases z0
  | succ n ih =>
    intro v6 μ μx z0 kk
    rw [F_X4_append_23] at z0
    refine gq_iload C dX4_append_23 6 rfl ?_
    refine gq_bipush (v := 20) C dX4_append_25 (by decide) ?_
    rcases ite_ex z0 with ⟨c5, z6⟩ | ⟨c5, z6⟩
    · refine gq_icmp_ge_t (tgt := 117) C dX4_append_27 (by decide) c5 ?_
      cases z6
      exact gq_widen (Nat.le_of_ble_eq_true rfl) (Nat.le_of_ble_eq_true rfl) (gq_sub [0] rfl kk)
    · refine gq_icmp_ge_f (tgt := 117) C dX4_append_27 (by decide) c5 ?_
      refine gq_iload C dX4_append_30 6 rfl ?_
      refine gq_iconst (v := 4) C dX4_append_32 (by decide) ?_
      obtain ⟨x7, z8, z9⟩ := bind_ex z6
      refine gq_join (k' := 0) (n' := 0) (pc' := 76) (lv' := [(0, .ref (eB E + 295)), (1, .int u1), (2, .int u2), (3, .int u3), (4, .int u4), (5, .int u5), (6, .int v6)]) (st' := [.int x7]) (μ' := μ) ?_ (fun J76 => ?_)
      · refine gq_istore (lv' := [(7, .int x7), (0, .ref (eB E + 295)), (1, .int u1), (2, .int u2), (3, .int u3), (4, .int u4), (5, .int u5), (6, .int v6)]) C dX4_append_76 (by decide) rfl ?_
        refine gq_aload_n C dX4_append_78 rfl 1 rfl ?_
        refine gq_get5 C (qn_m 295 (by decide) hN) (by decide) 12 (by decide) wk_6_174 rfl dX4_append_79 ?_
        refine gq_aload_n C dX4_append_82 rfl 1 rfl ?_
        refine gq_get5 C (qn_m 295 (by decide) hN) (by decide) 13 (by decide) wk_6_175 rfl dX4_append_83 ?_
        refine gq_iload C dX4_append_86 0 rfl ?_
        refine gq_bipush (v := 24) C dX4_append_88 (by decide) ?_
        refine gq_bipush (v := 8) C dX4_append_90 (by decide) ?_
        refine gq_iload C dX4_append_92 7 rfl ?_
        refine gq_iconst (v := 4) C dX4_append_94 (by decide) ?_
        refine gq_irem C dX4_append_95 (by decide) ?_
        refine gq_imul C dX4_append_96 ?_
        refine gq_isub C dX4_append_97 ?_
        refine gq_ishr C dX4_append_98 ?_
        refine gq_i2b C dX4_append_99 ?_
        obtain ⟨m19, em19, z20⟩ := bind_ex z9
        refine gq_bastoreB C (qn_m 306 (by decide) hN) (by decide) em19 dX4_append_100 ?_
        refine gq_aload_n C dX4_append_101 rfl 1 rfl ?_
        refine gq_dupr C dX4_append_102 ?_
        refine gq_get5 C (qn_m 295 (by decide) hN) (by decide) 13 (by decide) wk_6_175 rfl dX4_append_103 ?_
        refine gq_iconst (v := 1) C dX4_append_106 (by decide) ?_
        refine gq_iadd C dX4_append_107 ?_
        obtain ⟨m21, em21, z22⟩ := bind_ex z20
        refine gq_put5_13 C (qn_m 295 (by decide) hN) (by decide) wk_6_175 (Option.some.inj em21).symm dX4_append_108 ?_
        refine gq_iinc (v := (v6 + 1)) (lv' := [(6, .int (v6 + 1)), (7, .int x7), (0, .ref (eB E + 295)), (1, .int u1), (2, .int u2), (3, .int u3), (4, .int u4), (5, .int u5)]) (q := 7) C dX4_append_111 rfl rfl (by decide) rfl ?_
        refine gq_goto (tgt := 23) C dX4_append_114 (by decide) ?_
        refine gq_widen (k' := 0) (n' := 0) (Nat.le_of_ble_eq_true rfl) (Nat.le_of_ble_eq_true rfl) (gq_sub [2, 3, 4, 5, 6, 7, 0] rfl ?_)
        exact ih _ _ _ z22 kk
      · rcases ite_ex z8 with ⟨c10, z11⟩ | ⟨c10, z11⟩
        · refine gq_icmp_ge_t (tgt := 40) C dX4_append_33 (by decide) c10 ?_
          refine gq_iload C dX4_append_40 6 rfl ?_
          refine gq_bipush (v := 8) C dX4_append_42 (by decide) ?_
          rcases ite_ex z11 with ⟨c12, z13⟩ | ⟨c12, z13⟩
          · refine gq_icmp_ge_t (tgt := 51) C dX4_append_44 (by decide) c12 ?_
            refine gq_iload C dX4_append_51 6 rfl ?_
            refine gq_bipush (v := 12) C dX4_append_53 (by decide) ?_
            rcases ite_ex z13 with ⟨c14, z15⟩ | ⟨c14, z15⟩
            · refine gq_icmp_ge_t (tgt := 62) C dX4_append_55 (by decide) c14 ?_
              refine gq_iload C dX4_append_62 6 rfl ?_
              refine gq_bipush (v := 16) C dX4_append_64 (by decide) ?_
              rcases ite_ex z15 with ⟨c16, z17⟩ | ⟨c16, z17⟩
              · refine gq_icmp_ge_t (tgt := 74) C dX4_append_66 (by decide) c16 ?_
                refine gq_iload C dX4_append_74 5 rfl ?_
                cases z17
                exact gq_widen (Nat.le_of_ble_eq_true rfl) (Nat.le_of_ble_eq_true rfl) (gq_sub [0, 1, 2, 3, 4, 5, 6] rfl J76)
              · refine gq_icmp_ge_f (tgt := 74) C dX4_append_66 (by decide) c16 ?_
                refine gq_iload C dX4_append_69 4 rfl ?_
                refine gq_goto (tgt := 76) C dX4_append_71 (by decide) ?_
                cases z17
                exact gq_widen (Nat.le_of_ble_eq_true rfl) (Nat.le_of_ble_eq_true rfl) (gq_sub [0, 1, 2, 3, 4, 5, 6] rfl J76)
            · refine gq_icmp_ge_f (tgt := 62) C dX4_append_55 (by decide) c14 ?_
              refine gq_iload_n C dX4_append_58 rfl 3 rfl ?_
              refine gq_goto (tgt := 76) C dX4_append_59 (by decide) ?_
              cases z15
              exact gq_widen (Nat.le_of_ble_eq_true rfl) (Nat.le_of_ble_eq_true rfl) (gq_sub [0, 1, 2, 3, 4, 5, 6] rfl J76)
          · refine gq_icmp_ge_f (tgt := 51) C dX4_append_44 (by decide) c12 ?_
            refine gq_iload_n C dX4_append_47 rfl 2 rfl ?_
            refine gq_goto (tgt := 76) C dX4_append_48 (by decide) ?_
            cases z13
            exact gq_widen (Nat.le_of_ble_eq_true rfl) (Nat.le_of_ble_eq_true rfl) (gq_sub [0, 1, 2, 3, 4, 5, 6] rfl J76)
        · refine gq_icmp_ge_f (tgt := 40) C dX4_append_33 (by decide) c10 ?_
          refine gq_iload_n C dX4_append_36 rfl 1 rfl ?_
          refine gq_goto (tgt := 76) C dX4_append_37 (by decide) ?_
          cases z11
          exact gq_widen (Nat.le_of_ble_eq_true rfl) (Nat.le_of_ble_eq_true rfl) (gq_sub [0, 1, 2, 3, 4, 5, 6] rfl J76)
set_option maxHeartbeats 4000000 in
set_option maxRecDepth 100000 in
theorem c_X4_append {l : Launch} {E : Ev} (hN : 311 ≤ eN E) {p1 : Int32} {p2 : Int32} {p3 : Int32} {p4 : Int32} {p5 : Int32} {μ : Mm} {r : Int32} {μ' : Mm} (z0 : F_X4_append p1 p2 p3 p4 p5 μ = some (r, μ')) : Ct l E yX4_append (Cond.code yX4_append cX4_append 8 (some .int) :: GW) rm_X4_append [.ref (eB E + 295), .int p1, .int p2, .int p3, .int p4, .int p5] μ (some (.int r)) μ' := by
  refine ct_of (by decide) (Nat.le_of_ble_eq_true rfl) (fun p e s m args below meth c C hr => ?_)
  have C : Cq E p s m args meth c cX4_append 8 RX4 := C
  refine gq_lv (lv' := [(0, .ref (eB E + 295)), (1, .int p1), (2, .int p2), (3, .int p3), (4, .int p4), (5, .int p5)]) rfl ?_
  unfold F_X4_append at z0
  refine gq_aload_n C dX4_append_0 rfl 0 rfl ?_
  refine gq_iconst (v := 0) C dX4_append_1 (by decide) ?_
  obtain ⟨m1, em1, z2⟩ := bind_ex z0
  refine gq_put5_0 C (qn_m 295 (by decide) hN) (by decide) wk_6_162 (Option.some.inj em1).symm dX4_append_2 ?_
  refine gq_aload_n C dX4_append_5 rfl 0 rfl ?_
  refine gq_get5 C (qn_m 295 (by decide) hN) (by decide) 13 (by decide) wk_6_175 rfl dX4_append_6 ?_
  refine gq_bipush (v := 20) C dX4_append_9 (by decide) ?_
  refine gq_iadd C dX4_append_11 ?_
  refine gq_sipush (v := 900) C dX4_append_12 (by decide) ?_
  rcases ite_ex z2 with ⟨c3, z4⟩ | ⟨c3, z4⟩
  · refine gq_icmp_le_t (tgt := 20) C dX4_append_15 (by decide) c3 ?_
    refine gq_iconst (v := 0) C dX4_append_20 (by decide) ?_
    refine gq_istore (lv' := [(6, .int (0 : Int32)), (0, .ref (eB E + 295)), (1, .int p1), (2, .int p2), (3, .int p3), (4, .int p4), (5, .int p5)]) C dX4_append_21 (by decide) rfl ?_
    obtain ⟨m25, eo24, z23⟩ := bind_ex z4
    refine gq_widen (k' := 0) (n' := 0) (Nat.le_of_ble_eq_true rfl) (Nat.le_of_ble_eq_true rfl) (gq_sub [1, 2, 3, 4, 5, 6, 0] rfl ?_)
    refine l_X4_append_23 hN C  qFuel _ _ _ eo24 ?_
    refine gq_aload_n C dX4_append_117 rfl 0 rfl ?_
    refine gq_get5 C (qn_m 295 (by decide) hN) (by decide) 13 (by decide) wk_6_175 rfl dX4_append_118 ?_
    cases z23
    exact gq_iret C hr dX4_append_121 (Nat.le_of_ble_eq_true rfl) (Nat.le_of_ble_eq_true rfl)
  · refine gq_icmp_le_f (tgt := 20) C dX4_append_15 (by decide) c3 ?_
    refine gq_iconst (v := -1) C dX4_append_18 (by decide) ?_
    cases z4
    exact gq_iret C hr dX4_append_19 (Nat.le_of_ble_eq_true rfl) (Nat.le_of_ble_eq_true rfl)
abbrev rm_X4_truncate : Room := { frames := 0, cells := 0, slots := 0, locals := 0 }
def F_X4_truncate (p1 : Int32) (μ : Mm) : Option (Int32 × Mm) :=
  (some (uI μ 295 0 (0 : Int32))).bind fun m1 =>
  if p1 < 0 then
  (some ((0 : Int32), m1))
  else
  (if p1 ≤ (m1.1 295 13) then
  ((some (uI m1 295 13 p1)).bind fun m7 =>
  some ((1 : Int32), m7))
  else
  (some ((0 : Int32), m1)))
set_option maxHeartbeats 4000000 in
set_option maxRecDepth 100000 in
theorem c_X4_truncate {l : Launch} {E : Ev} (hN : 311 ≤ eN E) {p1 : Int32} {μ : Mm} {r : Int32} {μ' : Mm} (z0 : F_X4_truncate p1 μ = some (r, μ')) : Ct l E yX4_truncate (Cond.code yX4_truncate cX4_truncate 2 (some .boolean) :: GW) rm_X4_truncate [.ref (eB E + 295), .int p1] μ (some (.int r)) μ' := by
  refine ct_of (by decide) (Nat.le_of_ble_eq_true rfl) (fun p e s m args below meth c C hr => ?_)
  have C : Cq E p s m args meth c cX4_truncate 2 RX4 := C
  refine gq_lv (lv' := [(0, .ref (eB E + 295)), (1, .int p1)]) rfl ?_
  unfold F_X4_truncate at z0
  refine gq_aload_n C dX4_truncate_0 rfl 0 rfl ?_
  refine gq_iconst (v := 0) C dX4_truncate_1 (by decide) ?_
  obtain ⟨m1, em1, z2⟩ := bind_ex z0
  refine gq_put5_0 C (qn_m 295 (by decide) hN) (by decide) wk_6_162 (Option.some.inj em1).symm dX4_truncate_2 ?_
  refine gq_iload_n C dX4_truncate_5 rfl 1 rfl ?_
  rcases ite_ex z2 with ⟨c3, z4⟩ | ⟨c3, z4⟩
  · refine gq_if_lt_t (tgt := 17) C dX4_truncate_6 (by decide) c3 ?_
    refine gq_iconst (v := 0) C dX4_truncate_17 (by decide) ?_
    cases z4
    exact gq_zret C hr (by decide) dX4_truncate_18 (Nat.le_of_ble_eq_true rfl) (Nat.le_of_ble_eq_true rfl)
  · refine gq_if_lt_f (tgt := 17) C dX4_truncate_6 (by decide) c3 ?_
    refine gq_iload_n C dX4_truncate_9 rfl 1 rfl ?_
    refine gq_aload_n C dX4_truncate_10 rfl 0 rfl ?_
    refine gq_get5 C (qn_m 295 (by decide) hN) (by decide) 13 (by decide) wk_6_175 rfl dX4_truncate_11 ?_
    rcases ite_ex z4 with ⟨c5, z6⟩ | ⟨c5, z6⟩
    · refine gq_icmp_le_t (tgt := 19) C dX4_truncate_14 (by decide) c5 ?_
      refine gq_aload_n C dX4_truncate_19 rfl 0 rfl ?_
      refine gq_iload_n C dX4_truncate_20 rfl 1 rfl ?_
      obtain ⟨m7, em7, z8⟩ := bind_ex z6
      refine gq_put5_13 C (qn_m 295 (by decide) hN) (by decide) wk_6_175 (Option.some.inj em7).symm dX4_truncate_21 ?_
      refine gq_iconst (v := 1) C dX4_truncate_24 (by decide) ?_
      cases z8
      exact gq_zret C hr (by decide) dX4_truncate_25 (Nat.le_of_ble_eq_true rfl) (Nat.le_of_ble_eq_true rfl)
    · refine gq_icmp_le_f (tgt := 19) C dX4_truncate_14 (by decide) c5 ?_
      refine gq_iconst (v := 0) C dX4_truncate_17 (by decide) ?_
      cases z6
      exact gq_zret C hr (by decide) dX4_truncate_18 (Nat.le_of_ble_eq_true rfl) (Nat.le_of_ble_eq_true rfl)
abbrev rm_X4_byteAt : Room := { frames := 0, cells := 0, slots := 0, locals := 0 }
def F_X4_byteAt (p1 : Int32) (μ : Mm) : Option Int32 :=
  if (μ.1 295 14) ≤ p1 then
  (some (-1 : Int32))
  else
  ((aI μ 306 p1).bind fun x3 =>
  some (x3 &&& (255 : Int32)))
set_option maxHeartbeats 4000000 in
set_option maxRecDepth 100000 in
theorem c_X4_byteAt {l : Launch} {E : Ev} (hN : 311 ≤ eN E) {p1 : Int32} {μ : Mm} {r : Int32} (z0 : F_X4_byteAt p1 μ = some r) : Ct l E yX4_byteAt (Cond.code yX4_byteAt cX4_byteAt 2 (some .int) :: GW) rm_X4_byteAt [.ref (eB E + 295), .int p1] μ (some (.int r)) μ := by
  refine ct_of (by decide) (Nat.le_of_ble_eq_true rfl) (fun p e s m args below meth c C hr => ?_)
  have C : Cq E p s m args meth c cX4_byteAt 2 RX4 := C
  refine gq_lv (lv' := [(0, .ref (eB E + 295)), (1, .int p1)]) rfl ?_
  unfold F_X4_byteAt at z0
  refine gq_iload_n C dX4_byteAt_0 rfl 1 rfl ?_
  refine gq_aload_n C dX4_byteAt_1 rfl 0 rfl ?_
  refine gq_get5 C (qn_m 295 (by decide) hN) (by decide) 14 (by decide) wk_6_176 rfl dX4_byteAt_2 ?_
  rcases ite_ex z0 with ⟨c1, z2⟩ | ⟨c1, z2⟩
  · refine gq_icmp_ge_t (tgt := 21) C dX4_byteAt_5 (by decide) c1 ?_
    refine gq_iconst (v := -1) C dX4_byteAt_21 (by decide) ?_
    cases z2
    exact gq_iret C hr dX4_byteAt_22 (Nat.le_of_ble_eq_true rfl) (Nat.le_of_ble_eq_true rfl)
  · refine gq_icmp_ge_f (tgt := 21) C dX4_byteAt_5 (by decide) c1 ?_
    refine gq_aload_n C dX4_byteAt_8 rfl 0 rfl ?_
    refine gq_get5 C (qn_m 295 (by decide) hN) (by decide) 12 (by decide) wk_6_174 rfl dX4_byteAt_9 ?_
    refine gq_iload_n C dX4_byteAt_12 rfl 1 rfl ?_
    obtain ⟨x3, ex3, z4⟩ := bind_ex z2
    refine gq_baloadB C (qn_m 306 (by decide) hN) (by decide) ex3 dX4_byteAt_13 ?_
    refine gq_sipush (v := 255) C dX4_byteAt_14 (by decide) ?_
    refine gq_iand C dX4_byteAt_17 ?_
    refine gq_goto (tgt := 22) C dX4_byteAt_18 (by decide) ?_
    cases z4
    exact gq_iret C hr dX4_byteAt_22 (Nat.le_of_ble_eq_true rfl) (Nat.le_of_ble_eq_true rfl)
abbrev rm_X4_peek : Room := { frames := 1, cells := 0, slots := 0, locals := 21 }
def F_X4_peek_0  : Nat → Mm → Option Mm
  | 0, _ => none
  | n + 1, μ =>
  (F_X4_byteAt (μ.1 295 15) μ).bind fun o2 =>
  if o2 = (9 : Int32) then
  ((some (uI μ 295 15 ((μ.1 295 15) + (1 : Int32)))).bind fun m6 =>
  F_X4_peek_0 n m6)
  else
  ((F_X4_byteAt (μ.1 295 15) μ).bind fun o9 =>
  if o9 = (10 : Int32) then
  ((some (uI μ 295 15 ((μ.1 295 15) + (1 : Int32)))).bind fun m13 =>
  F_X4_peek_0 n m13)
  else
  ((F_X4_byteAt (μ.1 295 15) μ).bind fun o16 =>
  if o16 = (32 : Int32) then
  ((some (uI μ 295 15 ((μ.1 295 15) + (1 : Int32)))).bind fun m20 =>
  F_X4_peek_0 n m20)
  else
  (some μ)))
def F_X4_peek  (μ : Mm) : Option (Int32 × Mm) :=
  (F_X4_peek_0 qFuel μ).bind fun o23 =>
  (F_X4_byteAt (o23.1 295 15) o23).bind fun o26 =>
  some (o26, o23)
set_option maxHeartbeats 4000000 in
set_option maxRecDepth 100000 in
theorem l_X4_peek_0 {l : Launch} {E : Ev} (hN : 311 ≤ eN E) {p : Program} {e : Env} {s : State} {m : MethodId} {args : Array Value} {below : List Frame} {meth : Method} {c : Code} (C : Cq E p s m args meth c cX4_peek 1 RX4) {Q : State → Prop} : ∀ (n : Nat) (μ : Mm) (μx : Mm), F_X4_peek_0 n μ = some μx → Gq E p l e rm_X4_peek s m args below meth c 0 0 1 Q 52 [(0, .ref (eB E + 295))] [] μx → Gq E p l e rm_X4_peek s m args below meth c 0 0 1 Q 0 [(0, .ref (eB E + 295))] [] μ := by
  intro n
  induction n with
  | zero =>
    intro μ μx z0 kk
    rw [F_X4_peek_0] at z0
    cases z0
  | succ n ih =>
    intro μ μx z0 kk
    rw [F_X4_peek_0] at z0
    refine gq_aload_n C dX4_peek_0 rfl 0 rfl ?_
    refine gq_aload_n C dX4_peek_1 rfl 0 rfl ?_
    refine gq_get5 C (qn_m 295 (by decide) hN) (by decide) 15 (by decide) wk_6_177 rfl dX4_peek_2 ?_
    obtain ⟨x3, eo2, z1⟩ := bind_ex z0
    refine gq_V (As := [.int (μ.1 295 15)]) (rest := []) (j := 5) C (c_X4_byteAt hN  eo2) (qn_m 295 (by decide) hN) (by decide) (by decide) rfl wk_7_37 wk_7_39 ws_X4_byteAt wk_1_9 wk_7_40 hd_X4_byteAt ⟨(Nat.le_of_ble_eq_true rfl), (Nat.le_of_ble_eq_true rfl)⟩ (Nat.le_of_ble_eq_true rfl) ⟨(Nat.le_of_ble_eq_true rfl), (Nat.le_of_ble_eq_true rfl)⟩ dX4_peek_5 rfl rfl ?_
    refine gq_bipush (v := 9) C dX4_peek_8 (by decide) ?_
    rcases ite_ex z1 with ⟨c4, z5⟩ | ⟨c4, z5⟩
    · refine gq_icmp_eq_t (tgt := 39) C dX4_peek_10 (by decide) c4 ?_
      refine gq_aload_n C dX4_peek_39 rfl 0 rfl ?_
      refine gq_dupr C dX4_peek_40 ?_
      refine gq_get5 C (qn_m 295 (by decide) hN) (by decide) 15 (by decide) wk_6_177 rfl dX4_peek_41 ?_
      refine gq_iconst (v := 1) C dX4_peek_44 (by decide) ?_
      refine gq_iadd C dX4_peek_45 ?_
      obtain ⟨m6, em6, z7⟩ := bind_ex z5
      refine gq_put5_15 C (qn_m 295 (by decide) hN) (by decide) wk_6_177 (Option.some.inj em6).symm dX4_peek_46 ?_
      refine gq_goto (tgt := 0) C dX4_peek_49 (by decide) ?_
      refine gq_widen (k' := 0) (n' := 0) (Nat.le_of_ble_eq_true rfl) (Nat.le_of_ble_eq_true rfl) (gq_sub [0] rfl ?_)
      exact ih  _ _ z7 kk
    · refine gq_icmp_eq_f (tgt := 39) C dX4_peek_10 (by decide) c4 ?_
      refine gq_aload_n C dX4_peek_13 rfl 0 rfl ?_
      refine gq_aload_n C dX4_peek_14 rfl 0 rfl ?_
      refine gq_get5 C (qn_m 295 (by decide) hN) (by decide) 15 (by decide) wk_6_177 rfl dX4_peek_15 ?_
      obtain ⟨x10, eo9, z8⟩ := bind_ex z5
      refine gq_V (As := [.int (μ.1 295 15)]) (rest := []) (j := 5) C (c_X4_byteAt hN  eo9) (qn_m 295 (by decide) hN) (by decide) (by decide) rfl wk_7_37 wk_7_39 ws_X4_byteAt wk_1_9 wk_7_40 hd_X4_byteAt ⟨(Nat.le_of_ble_eq_true rfl), (Nat.le_of_ble_eq_true rfl)⟩ (Nat.le_of_ble_eq_true rfl) ⟨(Nat.le_of_ble_eq_true rfl), (Nat.le_of_ble_eq_true rfl)⟩ dX4_peek_18 rfl rfl ?_
      refine gq_bipush (v := 10) C dX4_peek_21 (by decide) ?_
      rcases ite_ex z8 with ⟨c11, z12⟩ | ⟨c11, z12⟩
      · refine gq_icmp_eq_t (tgt := 39) C dX4_peek_23 (by decide) c11 ?_
        refine gq_aload_n C dX4_peek_39 rfl 0 rfl ?_
        refine gq_dupr C dX4_peek_40 ?_
        refine gq_get5 C (qn_m 295 (by decide) hN) (by decide) 15 (by decide) wk_6_177 rfl dX4_peek_41 ?_
        refine gq_iconst (v := 1) C dX4_peek_44 (by decide) ?_
        refine gq_iadd C dX4_peek_45 ?_
        obtain ⟨m13, em13, z14⟩ := bind_ex z12
        refine gq_put5_15 C (qn_m 295 (by decide) hN) (by decide) wk_6_177 (Option.some.inj em13).symm dX4_peek_46 ?_
        refine gq_goto (tgt := 0) C dX4_peek_49 (by decide) ?_
        refine gq_widen (k' := 0) (n' := 0) (Nat.le_of_ble_eq_true rfl) (Nat.le_of_ble_eq_true rfl) (gq_sub [0] rfl ?_)
        exact ih  _ _ z14 kk
      · refine gq_icmp_eq_f (tgt := 39) C dX4_peek_23 (by decide) c11 ?_
        refine gq_aload_n C dX4_peek_26 rfl 0 rfl ?_
        refine gq_aload_n C dX4_peek_27 rfl 0 rfl ?_
        refine gq_get5 C (qn_m 295 (by decide) hN) (by decide) 15 (by decide) wk_6_177 rfl dX4_peek_28 ?_
        obtain ⟨x17, eo16, z15⟩ := bind_ex z12
        refine gq_V (As := [.int (μ.1 295 15)]) (rest := []) (j := 5) C (c_X4_byteAt hN  eo16) (qn_m 295 (by decide) hN) (by decide) (by decide) rfl wk_7_37 wk_7_39 ws_X4_byteAt wk_1_9 wk_7_40 hd_X4_byteAt ⟨(Nat.le_of_ble_eq_true rfl), (Nat.le_of_ble_eq_true rfl)⟩ (Nat.le_of_ble_eq_true rfl) ⟨(Nat.le_of_ble_eq_true rfl), (Nat.le_of_ble_eq_true rfl)⟩ dX4_peek_31 rfl rfl ?_
        refine gq_bipush (v := 32) C dX4_peek_34 (by decide) ?_
        rcases ite_ex z15 with ⟨c18, z19⟩ | ⟨c18, z19⟩
        · refine gq_icmp_ne_f (tgt := 52) C dX4_peek_36 (by decide) c18 ?_
          refine gq_aload_n C dX4_peek_39 rfl 0 rfl ?_
          refine gq_dupr C dX4_peek_40 ?_
          refine gq_get5 C (qn_m 295 (by decide) hN) (by decide) 15 (by decide) wk_6_177 rfl dX4_peek_41 ?_
          refine gq_iconst (v := 1) C dX4_peek_44 (by decide) ?_
          refine gq_iadd C dX4_peek_45 ?_
          obtain ⟨m20, em20, z21⟩ := bind_ex z19
          refine gq_put5_15 C (qn_m 295 (by decide) hN) (by decide) wk_6_177 (Option.some.inj em20).symm dX4_peek_46 ?_
          refine gq_goto (tgt := 0) C dX4_peek_49 (by decide) ?_
          refine gq_widen (k' := 0) (n' := 0) (Nat.le_of_ble_eq_true rfl) (Nat.le_of_ble_eq_true rfl) (gq_sub [0] rfl ?_)
          exact ih  _ _ z21 kk
        · refine gq_icmp_ne_t (tgt := 52) C dX4_peek_36 (by decide) c18 ?_
          cases z19
          exact gq_widen (Nat.le_of_ble_eq_true rfl) (Nat.le_of_ble_eq_true rfl) (gq_sub [0] rfl kk)
set_option maxHeartbeats 4000000 in
set_option maxRecDepth 100000 in
theorem c_X4_peek {l : Launch} {E : Ev} (hN : 311 ≤ eN E) {μ : Mm} {r : Int32} {μ' : Mm} (z0 : F_X4_peek  μ = some (r, μ')) : Ct l E yX4_peek (Cond.code yX4_peek cX4_peek 1 (some .int) :: GW) rm_X4_peek [.ref (eB E + 295)] μ (some (.int r)) μ' := by
  refine ct_of (by decide) (Nat.le_of_ble_eq_true rfl) (fun p e s m args below meth c C hr => ?_)
  have C : Cq E p s m args meth c cX4_peek 1 RX4 := C
  refine gq_lv (lv' := [(0, .ref (eB E + 295))]) rfl ?_
  unfold F_X4_peek at z0
  obtain ⟨m24, eo23, z22⟩ := bind_ex z0
  refine gq_widen (k' := 0) (n' := 0) (Nat.le_of_ble_eq_true rfl) (Nat.le_of_ble_eq_true rfl) (gq_sub [0] rfl ?_)
  refine l_X4_peek_0 hN C  qFuel _ _ eo23 ?_
  refine gq_aload_n C dX4_peek_52 rfl 0 rfl ?_
  refine gq_aload_n C dX4_peek_53 rfl 0 rfl ?_
  refine gq_get5 C (qn_m 295 (by decide) hN) (by decide) 15 (by decide) wk_6_177 rfl dX4_peek_54 ?_
  obtain ⟨x27, eo26, z25⟩ := bind_ex z22
  refine gq_V (As := [.int (m24.1 295 15)]) (rest := []) (j := 5) C (c_X4_byteAt hN  eo26) (qn_m 295 (by decide) hN) (by decide) (by decide) rfl wk_7_37 wk_7_39 ws_X4_byteAt wk_1_9 wk_7_40 hd_X4_byteAt ⟨(Nat.le_of_ble_eq_true rfl), (Nat.le_of_ble_eq_true rfl)⟩ (Nat.le_of_ble_eq_true rfl) ⟨(Nat.le_of_ble_eq_true rfl), (Nat.le_of_ble_eq_true rfl)⟩ dX4_peek_57 rfl rfl ?_
  cases z25
  exact gq_iret C hr dX4_peek_60 (Nat.le_of_ble_eq_true rfl) (Nat.le_of_ble_eq_true rfl)
abbrev rm_X4_failed : Room := { frames := 0, cells := 0, slots := 0, locals := 0 }
def F_X4_failed  (μ : Mm) : Option Int32 :=
  if (μ.1 295 17) = 0 then
  (some (0 : Int32))
  else
  (some (1 : Int32))
set_option maxHeartbeats 4000000 in
set_option maxRecDepth 100000 in
theorem c_X4_failed {l : Launch} {E : Ev} (hN : 311 ≤ eN E) {μ : Mm} {r : Int32} (z0 : F_X4_failed  μ = some r) : Ct l E yX4_failed (Cond.code yX4_failed cX4_failed 1 (some .boolean) :: GW) rm_X4_failed [.ref (eB E + 295)] μ (some (.int r)) μ := by
  refine ct_of (by decide) (Nat.le_of_ble_eq_true rfl) (fun p e s m args below meth c C hr => ?_)
  have C : Cq E p s m args meth c cX4_failed 1 RX4 := C
  refine gq_lv (lv' := [(0, .ref (eB E + 295))]) rfl ?_
  unfold F_X4_failed at z0
  refine gq_aload_n C dX4_failed_0 rfl 0 rfl ?_
  refine gq_get5 C (qn_m 295 (by decide) hN) (by decide) 17 (by decide) wk_6_179 rfl dX4_failed_1 ?_
  rcases ite_ex z0 with ⟨c1, z2⟩ | ⟨c1, z2⟩
  · refine gq_if_eq_t (tgt := 11) C dX4_failed_4 (by decide) c1 ?_
    refine gq_iconst (v := 0) C dX4_failed_11 (by decide) ?_
    cases z2
    exact gq_zret C hr (by decide) dX4_failed_12 (Nat.le_of_ble_eq_true rfl) (Nat.le_of_ble_eq_true rfl)
  · refine gq_if_eq_f (tgt := 11) C dX4_failed_4 (by decide) c1 ?_
    refine gq_iconst (v := 1) C dX4_failed_7 (by decide) ?_
    refine gq_goto (tgt := 12) C dX4_failed_8 (by decide) ?_
    cases z2
    exact gq_zret C hr (by decide) dX4_failed_12 (Nat.le_of_ble_eq_true rfl) (Nat.le_of_ble_eq_true rfl)
abbrev rm_X4_fail : Room := { frames := 0, cells := 0, slots := 0, locals := 0 }
def F_X4_fail (p1 : Int32) (p2 : Int32) (μ : Mm) : Option Mm :=
  if (μ.1 295 17) = 0 then
  ((some (uI μ 295 17 p1)).bind fun m3 =>
  (some (uI m3 295 16 p2)).bind fun m5 =>
  some m5)
  else
  (some μ)
set_option maxHeartbeats 4000000 in
set_option maxRecDepth 100000 in
theorem c_X4_fail {l : Launch} {E : Ev} (hN : 311 ≤ eN E) {p1 : Int32} {p2 : Int32} {μ : Mm} {μ' : Mm} (z0 : F_X4_fail p1 p2 μ = some μ') : Ct l E yX4_fail (Cond.code yX4_fail cX4_fail 3 none :: GW) rm_X4_fail [.ref (eB E + 295), .int p1, .int p2] μ none μ' := by
  refine ct_of (by decide) (Nat.le_of_ble_eq_true rfl) (fun p e s m args below meth c C hr => ?_)
  have C : Cq E p s m args meth c cX4_fail 3 RX4 := C
  refine gq_lv (lv' := [(0, .ref (eB E + 295)), (1, .int p1), (2, .int p2)]) rfl ?_
  unfold F_X4_fail at z0
  refine gq_aload_n C dX4_fail_0 rfl 0 rfl ?_
  refine gq_get5 C (qn_m 295 (by decide) hN) (by decide) 17 (by decide) wk_6_179 rfl dX4_fail_1 ?_
  rcases ite_ex z0 with ⟨c1, z2⟩ | ⟨c1, z2⟩
  · refine gq_if_ne_f (tgt := 17) C dX4_fail_4 (by decide) c1 ?_
    refine gq_aload_n C dX4_fail_7 rfl 0 rfl ?_
    refine gq_iload_n C dX4_fail_8 rfl 1 rfl ?_
    obtain ⟨m3, em3, z4⟩ := bind_ex z2
    refine gq_put5_17 C (qn_m 295 (by decide) hN) (by decide) wk_6_179 (Option.some.inj em3).symm dX4_fail_9 ?_
    refine gq_aload_n C dX4_fail_12 rfl 0 rfl ?_
    refine gq_iload_n C dX4_fail_13 rfl 2 rfl ?_
    obtain ⟨m5, em5, z6⟩ := bind_ex z4
    refine gq_put5_16 C (qn_m 295 (by decide) hN) (by decide) wk_6_178 (Option.some.inj em5).symm dX4_fail_14 ?_
    cases z6
    exact gq_vret C hr dX4_fail_17 (Nat.le_of_ble_eq_true rfl) (Nat.le_of_ble_eq_true rfl)
  · refine gq_if_ne_t (tgt := 17) C dX4_fail_4 (by decide) c1 ?_
    cases z2
    exact gq_vret C hr dX4_fail_17 (Nat.le_of_ble_eq_true rfl) (Nat.le_of_ble_eq_true rfl)
abbrev rm_X4_accept : Room := { frames := 6, cells := 0, slots := 0, locals := 208 }
def F_X4_accept_10 (w1 : Nat) (μ : Mm) : Nat → Int32 → Option Int32
  | 0, _ => none
  | n + 1, v2 =>
  (F_X4_byteAt v2 μ).bind fun o6 =>
  (F_X4_inRange o6 (97 : Int32) (122 : Int32) μ).bind fun o9 =>
  if o9 = 0 then
  (some v2)
  else
  (F_X4_accept_10 w1 μ n (v2 + 1))
def F_X4_accept_60 (w1 : Nat) (μ : Mm) : Nat → Int32 → Int32 → Option Int32
  | 0, _, _ => none
  | n + 1, v3, v4 =>
  if (strLen w1) ≤ v4 then
  (some v3)
  else
  (if v3 = 0 then
  (some v3)
  else
  ((F_X4_byteAt ((μ.1 295 15) + v4) μ).bind fun o32 =>
  (strAt w1 v4).bind fun x34 =>
  (if o32 = x34 then
  (some (1 : Int32))
  else
  (some (0 : Int32))).bind fun o41 =>
  F_X4_accept_60 w1 μ n o41 (v4 + 1)))
def F_X4_accept (w1 : Nat) (μ : Mm) : Option (Int32 × Mm) :=
  (F_X4_peek  μ).bind fun o2 =>
  (F_X4_accept_10 w1 o2.2 qFuel (o2.2.1 295 15)).bind fun o14 =>
  (F_X4_failed  o2.2).bind fun o17 =>
  (if o17 = 0 then
  (if (o14 - (o2.2.1 295 15)) = (strLen w1) then
  (some (1 : Int32))
  else
  (some (0 : Int32)))
  else
  (some (0 : Int32))).bind fun o26 =>
  (F_X4_accept_60 w1 o2.2 qFuel o26 (0 : Int32)).bind fun o43 =>
  (if o43 = 0 then
  (some (0 : Int32))
  else
  (some (strLen w1))).bind fun o50 =>
  (some (uI o2.2 295 15 ((o2.2.1 295 15) + o50))).bind fun m51 =>
  (zb o43).bind fun x53 => some (x53, m51)
set_option maxHeartbeats 4000000 in
set_option maxRecDepth 100000 in
theorem l_X4_accept_10 {l : Launch} {E : Ev} (hN : 311 ≤ eN E) {p : Program} {e : Env} {s : State} {m : MethodId} {args : Array Value} {below : List Frame} {meth : Method} {c : Code} (C : Cq E p s m args meth c cX4_accept 5 RX4) {Q : State → Prop} {w1 : Nat} (k_w1 : w1 < 10) {μ : Mm} : ∀ (n : Nat) (v2 : Int32) (w2 : Int32), F_X4_accept_10 w1 μ n v2 = some w2 → Gq E p l e rm_X4_accept s m args below meth c 0 0 5 Q 31 [(0, .ref (eB E + 295)), (1, .ref (eK E w1)), (2, .int w2)] [] μ → Gq E p l e rm_X4_accept s m args below meth c 0 0 5 Q 10 [(0, .ref (eB E + 295)), (1, .ref (eK E w1)), (2, .int v2)] [] μ := by
  intro n
  induction n with
  | zero =>
    intro v2 w2 z0 kk
    rw [F_X4_accept_10] at z0
    cases z0
  | succ n ih =>
    intro v2 w2 z0 kk
    rw [F_X4_accept_10] at z0
    refine gq_aload_n C dX4_accept_10 rfl 0 rfl ?_
    refine gq_iload_n C dX4_accept_11 rfl 2 rfl ?_
    obtain ⟨x7, eo6, z5⟩ := bind_ex z0
    refine gq_V (As := [.int v2]) (rest := []) (j := 5) C (c_X4_byteAt hN  eo6) (qn_m 295 (by decide) hN) (by decide) (by decide) rfl wk_7_37 wk_7_39 ws_X4_byteAt wk_1_9 wk_7_40 hd_X4_byteAt ⟨(Nat.le_of_ble_eq_true rfl), (Nat.le_of_ble_eq_true rfl)⟩ (Nat.le_of_ble_eq_true rfl) ⟨(Nat.le_of_ble_eq_true rfl), (Nat.le_of_ble_eq_true rfl)⟩ dX4_accept_12 rfl rfl ?_
    refine gq_bipush (v := 97) C dX4_accept_15 (by decide) ?_
    refine gq_bipush (v := 122) C dX4_accept_17 (by decide) ?_
    obtain ⟨x10, eo9, z8⟩ := bind_ex z5
    refine gq_S (As := [.int x7, .int (97 : Int32), .int (122 : Int32)]) (rest := []) C (c_X4_inRange hN  eo9) wk_7_50 wk_7_51 wk_1_9 wk_7_52 hd_X4_inRange ⟨(Nat.le_of_ble_eq_true rfl), (Nat.le_of_ble_eq_true rfl)⟩ (Nat.le_of_ble_eq_true rfl) ⟨(Nat.le_of_ble_eq_true rfl), (Nat.le_of_ble_eq_true rfl)⟩ dX4_accept_19 rfl rfl ?_
    rcases ite_ex z8 with ⟨c11, z12⟩ | ⟨c11, z12⟩
    · refine gq_if_eq_t (tgt := 31) C dX4_accept_22 (by decide) c11 ?_
      cases z12
      exact gq_widen (Nat.le_of_ble_eq_true rfl) (Nat.le_of_ble_eq_true rfl) (gq_sub [0, 1, 2] rfl kk)
    · refine gq_if_eq_f (tgt := 31) C dX4_accept_22 (by decide) c11 ?_
      refine gq_iinc (v := (v2 + 1)) (lv' := [(2, .int (v2 + 1)), (0, .ref (eB E + 295)), (1, .ref (eK E w1))]) (q := 2) C dX4_accept_25 rfl rfl (by decide) rfl ?_
      refine gq_goto (tgt := 10) C dX4_accept_28 (by decide) ?_
      refine gq_widen (k' := 0) (n' := 0) (Nat.le_of_ble_eq_true rfl) (Nat.le_of_ble_eq_true rfl) (gq_sub [1, 2, 0] rfl ?_)
      exact ih _ _ z12 kk
set_option maxHeartbeats 4000000 in
set_option maxRecDepth 100000 in
theorem l_X4_accept_60 {l : Launch} {E : Ev} (hN : 311 ≤ eN E) {p : Program} {e : Env} {s : State} {m : MethodId} {args : Array Value} {below : List Frame} {meth : Method} {c : Code} (C : Cq E p s m args meth c cX4_accept 5 RX4) {Q : State → Prop} {w1 : Nat} (k_w1 : w1 < 10) {μ : Mm} : ∀ (n : Nat) (v3 : Int32) (v4 : Int32) (w3 : Int32), F_X4_accept_60 w1 μ n v3 v4 = some w3 → Gq E p l e rm_X4_accept s m args below meth c 0 0 5 Q 105 [(0, .ref (eB E + 295)), (1, .ref (eK E w1)), (3, .int w3)] [] μ → Gq E p l e rm_X4_accept s m args below meth c 0 0 5 Q 60 [(0, .ref (eB E + 295)), (1, .ref (eK E w1)), (3, .int v3), (4, .int v4)] [] μ := by
  intro n
  induction n with
  | zero =>
    intro v3 v4 w3 z0 kk
    rw [F_X4_accept_60] at z0
    cases z0
  | succ n ih =>
    intro v3 v4 w3 z0 kk
    rw [F_X4_accept_60] at z0
    refine gq_iload C dX4_accept_60 3 rfl ?_
    refine gq_aload_n C dX4_accept_62 rfl 1 rfl ?_
    refine gq_strLen C k_w1 wk_7_53 dX4_accept_63 (Nat.le_of_ble_eq_true rfl) (Nat.le_of_ble_eq_true rfl) (Nat.le_of_ble_eq_true rfl) ?_
    rcases ite_ex z0 with ⟨c27, z28⟩ | ⟨c27, z28⟩
    · refine gq_icmp_ge_t (tgt := 105) C dX4_accept_66 (by decide) c27 ?_
      cases z28
      exact gq_widen (Nat.le_of_ble_eq_true rfl) (Nat.le_of_ble_eq_true rfl) (gq_sub [0, 1, 2] rfl kk)
    · refine gq_icmp_ge_f (tgt := 105) C dX4_accept_66 (by decide) c27 ?_
      refine gq_iload_n C dX4_accept_69 rfl 2 rfl ?_
      rcases ite_ex z28 with ⟨c29, z30⟩ | ⟨c29, z30⟩
      · refine gq_if_eq_t (tgt := 105) C dX4_accept_70 (by decide) c29 ?_
        cases z30
        exact gq_widen (Nat.le_of_ble_eq_true rfl) (Nat.le_of_ble_eq_true rfl) (gq_sub [0, 1, 2] rfl kk)
      · refine gq_if_eq_f (tgt := 105) C dX4_accept_70 (by decide) c29 ?_
        refine gq_aload_n C dX4_accept_73 rfl 0 rfl ?_
        refine gq_aload_n C dX4_accept_74 rfl 0 rfl ?_
        refine gq_get5 C (qn_m 295 (by decide) hN) (by decide) 15 (by decide) wk_6_177 rfl dX4_accept_75 ?_
        refine gq_iload C dX4_accept_78 3 rfl ?_
        refine gq_iadd C dX4_accept_80 ?_
        obtain ⟨x33, eo32, z31⟩ := bind_ex z30
        refine gq_V (As := [.int ((μ.1 295 15) + v4)]) (rest := []) (j := 5) C (c_X4_byteAt hN  eo32) (qn_m 295 (by decide) hN) (by decide) (by decide) rfl wk_7_37 wk_7_39 ws_X4_byteAt wk_1_9 wk_7_40 hd_X4_byteAt ⟨(Nat.le_of_ble_eq_true rfl), (Nat.le_of_ble_eq_true rfl)⟩ (Nat.le_of_ble_eq_true rfl) ⟨(Nat.le_of_ble_eq_true rfl), (Nat.le_of_ble_eq_true rfl)⟩ dX4_accept_81 rfl rfl ?_
        refine gq_aload_n C dX4_accept_84 rfl 1 rfl ?_
        refine gq_iload C dX4_accept_85 3 rfl ?_
        obtain ⟨x34, ex34, z35⟩ := bind_ex z31
        refine gq_strAt C k_w1 ex34 wk_7_54 dX4_accept_87 (Nat.le_of_ble_eq_true rfl) (Nat.le_of_ble_eq_true rfl) (Nat.le_of_ble_eq_true rfl) ?_
        obtain ⟨x36, z37, z38⟩ := bind_ex z35
        refine gq_join (k' := 0) (n' := 0) (pc' := 98) (lv' := [(0, .ref (eB E + 295)), (1, .ref (eK E w1)), (4, .int v4)]) (st' := [.int x36]) (μ' := μ) ?_ (fun J98 => ?_)
        · refine gq_istore_n (lv' := [(3, .int x36), (0, .ref (eB E + 295)), (1, .ref (eK E w1)), (4, .int v4)]) C dX4_accept_98 rfl (by decide) rfl ?_
          refine gq_iinc (v := (v4 + 1)) (lv' := [(4, .int (v4 + 1)), (3, .int x36), (0, .ref (eB E + 295)), (1, .ref (eK E w1))]) (q := 3) C dX4_accept_99 rfl rfl (by decide) rfl ?_
          refine gq_goto (tgt := 60) C dX4_accept_102 (by decide) ?_
          refine gq_widen (k' := 0) (n' := 0) (Nat.le_of_ble_eq_true rfl) (Nat.le_of_ble_eq_true rfl) (gq_sub [2, 3, 1, 0] rfl ?_)
          exact ih _ _ _ z38 kk
        · rcases ite_ex z37 with ⟨c39, z40⟩ | ⟨c39, z40⟩
          · refine gq_icmp_ne_f (tgt := 97) C dX4_accept_90 (by decide) c39 ?_
            refine gq_iconst (v := 1) C dX4_accept_93 (by decide) ?_
            refine gq_goto (tgt := 98) C dX4_accept_94 (by decide) ?_
            cases z40
            exact gq_widen (Nat.le_of_ble_eq_true rfl) (Nat.le_of_ble_eq_true rfl) (gq_sub [0, 1, 3] rfl J98)
          · refine gq_icmp_ne_t (tgt := 97) C dX4_accept_90 (by decide) c39 ?_
            refine gq_iconst (v := 0) C dX4_accept_97 (by decide) ?_
            cases z40
            exact gq_widen (Nat.le_of_ble_eq_true rfl) (Nat.le_of_ble_eq_true rfl) (gq_sub [0, 1, 3] rfl J98)
set_option maxHeartbeats 4000000 in
set_option maxRecDepth 100000 in
theorem c_X4_accept {l : Launch} {E : Ev} (hN : 311 ≤ eN E) {w1 : Nat} (k_w1 : w1 < 10) {μ : Mm} {r : Int32} {μ' : Mm} (z0 : F_X4_accept w1 μ = some (r, μ')) : Ct l E yX4_accept (Cond.code yX4_accept cX4_accept 5 (some .boolean) :: GW) rm_X4_accept [.ref (eB E + 295), .ref (eK E w1)] μ (some (.int r)) μ' := by
  refine ct_of (by decide) (Nat.le_of_ble_eq_true rfl) (fun p e s m args below meth c C hr => ?_)
  have C : Cq E p s m args meth c cX4_accept 5 RX4 := C
  refine gq_lv (lv' := [(0, .ref (eB E + 295)), (1, .ref (eK E w1))]) rfl ?_
  unfold F_X4_accept at z0
  refine gq_aload_n C dX4_accept_0 rfl 0 rfl ?_
  obtain ⟨⟨x3, m4⟩, eo2, z1⟩ := bind_ex z0
  dsimp only at z1
  refine gq_V (As := []) (rest := []) (j := 5) C (c_X4_peek hN  eo2) (qn_m 295 (by decide) hN) (by decide) (by decide) rfl wk_7_33 wk_7_35 ws_X4_peek wk_1_9 wk_7_36 hd_X4_peek ⟨(Nat.le_of_ble_eq_true rfl), (Nat.le_of_ble_eq_true rfl)⟩ (Nat.le_of_ble_eq_true rfl) ⟨(Nat.le_of_ble_eq_true rfl), (Nat.le_of_ble_eq_true rfl)⟩ dX4_accept_1 rfl rfl ?_
  refine gq_popi C dX4_accept_4 ?_
  refine gq_aload_n C dX4_accept_5 rfl 0 rfl ?_
  refine gq_get5 C (qn_m 295 (by decide) hN) (by decide) 15 (by decide) wk_6_177 rfl dX4_accept_6 ?_
  refine gq_istore_n (lv' := [(2, .int (m4.1 295 15)), (0, .ref (eB E + 295)), (1, .ref (eK E w1))]) C dX4_accept_9 rfl (by decide) rfl ?_
  obtain ⟨x15, eo14, z13⟩ := bind_ex z1
  refine gq_widen (k' := 0) (n' := 0) (Nat.le_of_ble_eq_true rfl) (Nat.le_of_ble_eq_true rfl) (gq_sub [1, 2, 0] rfl ?_)
  refine l_X4_accept_10 hN C k_w1 qFuel _ _ eo14 ?_
  refine gq_aload_n C dX4_accept_31 rfl 0 rfl ?_
  obtain ⟨x18, eo17, z16⟩ := bind_ex z13
  refine gq_V (As := []) (rest := []) (j := 5) C (c_X4_failed hN  eo17) (qn_m 295 (by decide) hN) (by decide) (by decide) rfl wk_7_29 wk_7_31 ws_X4_failed wk_1_9 wk_7_32 hd_X4_failed ⟨(Nat.le_of_ble_eq_true rfl), (Nat.le_of_ble_eq_true rfl)⟩ (Nat.le_of_ble_eq_true rfl) ⟨(Nat.le_of_ble_eq_true rfl), (Nat.le_of_ble_eq_true rfl)⟩ dX4_accept_32 rfl rfl ?_
  obtain ⟨x19, z20, z21⟩ := bind_ex z16
  refine gq_join (k' := 0) (n' := 0) (pc' := 56) (lv' := [(0, .ref (eB E + 295)), (1, .ref (eK E w1))]) (st' := [.int x19]) (μ' := m4) ?_ (fun J56 => ?_)
  · refine gq_istore_n (lv' := [(3, .int x19), (0, .ref (eB E + 295)), (1, .ref (eK E w1))]) C dX4_accept_56 rfl (by decide) rfl ?_
    refine gq_iconst (v := 0) C dX4_accept_57 (by decide) ?_
    refine gq_istore (lv' := [(4, .int (0 : Int32)), (3, .int x19), (0, .ref (eB E + 295)), (1, .ref (eK E w1))]) C dX4_accept_58 (by decide) rfl ?_
    obtain ⟨x44, eo43, z42⟩ := bind_ex z21
    refine gq_widen (k' := 0) (n' := 0) (Nat.le_of_ble_eq_true rfl) (Nat.le_of_ble_eq_true rfl) (gq_sub [2, 3, 1, 0] rfl ?_)
    refine l_X4_accept_60 hN C k_w1 qFuel _ _ _ eo43 ?_
    refine gq_aload_n C dX4_accept_105 rfl 0 rfl ?_
    refine gq_dupr C dX4_accept_106 ?_
    refine gq_get5 C (qn_m 295 (by decide) hN) (by decide) 15 (by decide) wk_6_177 rfl dX4_accept_107 ?_
    refine gq_iload_n C dX4_accept_110 rfl 2 rfl ?_
    obtain ⟨x45, z46, z47⟩ := bind_ex z42
    refine gq_join (k' := 0) (n' := 0) (pc' := 122) (lv' := [(3, .int x44)]) (st' := [.int x45, .int (m4.1 295 15), .ref (eB E + 295)]) (μ' := m4) ?_ (fun J122 => ?_)
    · refine gq_iadd C dX4_accept_122 ?_
      obtain ⟨m51, em51, z52⟩ := bind_ex z47
      refine gq_put5_15 C (qn_m 295 (by decide) hN) (by decide) wk_6_177 (Option.some.inj em51).symm dX4_accept_123 ?_
      refine gq_iload_n C dX4_accept_126 rfl 0 rfl ?_
      obtain ⟨x53, ex53, z54⟩ := bind_ex z52
      obtain ⟨nx53, qx53⟩ := zb_ex2 ex53
      subst qx53
      cases z54
      exact gq_zret C hr nx53 dX4_accept_127 (Nat.le_of_ble_eq_true rfl) (Nat.le_of_ble_eq_true rfl)
    · rcases ite_ex z46 with ⟨c48, z49⟩ | ⟨c48, z49⟩
      · refine gq_if_eq_t (tgt := 121) C dX4_accept_111 (by decide) c48 ?_
        refine gq_iconst (v := 0) C dX4_accept_121 (by decide) ?_
        cases z49
        exact gq_widen (Nat.le_of_ble_eq_true rfl) (Nat.le_of_ble_eq_true rfl) (gq_sub [2] rfl J122)
      · refine gq_if_eq_f (tgt := 121) C dX4_accept_111 (by decide) c48 ?_
        refine gq_aload_n C dX4_accept_114 rfl 1 rfl ?_
        refine gq_strLen C k_w1 wk_7_53 dX4_accept_115 (Nat.le_of_ble_eq_true rfl) (Nat.le_of_ble_eq_true rfl) (Nat.le_of_ble_eq_true rfl) ?_
        refine gq_goto (tgt := 122) C dX4_accept_118 (by decide) ?_
        cases z49
        exact gq_widen (Nat.le_of_ble_eq_true rfl) (Nat.le_of_ble_eq_true rfl) (gq_sub [2] rfl J122)
  · rcases ite_ex z20 with ⟨c22, z23⟩ | ⟨c22, z23⟩
    · refine gq_if_ne_f (tgt := 55) C dX4_accept_35 (by decide) c22 ?_
      refine gq_iload_n C dX4_accept_38 rfl 2 rfl ?_
      refine gq_aload_n C dX4_accept_39 rfl 0 rfl ?_
      refine gq_get5 C (qn_m 295 (by decide) hN) (by decide) 15 (by decide) wk_6_177 rfl dX4_accept_40 ?_
      refine gq_isub C dX4_accept_43 ?_
      refine gq_aload_n C dX4_accept_44 rfl 1 rfl ?_
      refine gq_strLen C k_w1 wk_7_53 dX4_accept_45 (Nat.le_of_ble_eq_true rfl) (Nat.le_of_ble_eq_true rfl) (Nat.le_of_ble_eq_true rfl) ?_
      rcases ite_ex z23 with ⟨c24, z25⟩ | ⟨c24, z25⟩
      · refine gq_icmp_ne_f (tgt := 55) C dX4_accept_48 (by decide) c24 ?_
        refine gq_iconst (v := 1) C dX4_accept_51 (by decide) ?_
        refine gq_goto (tgt := 56) C dX4_accept_52 (by decide) ?_
        cases z25
        exact gq_widen (Nat.le_of_ble_eq_true rfl) (Nat.le_of_ble_eq_true rfl) (gq_sub [0, 1] rfl J56)
      · refine gq_icmp_ne_t (tgt := 55) C dX4_accept_48 (by decide) c24 ?_
        refine gq_iconst (v := 0) C dX4_accept_55 (by decide) ?_
        cases z25
        exact gq_widen (Nat.le_of_ble_eq_true rfl) (Nat.le_of_ble_eq_true rfl) (gq_sub [0, 1] rfl J56)
    · refine gq_if_ne_t (tgt := 55) C dX4_accept_35 (by decide) c22 ?_
      refine gq_iconst (v := 0) C dX4_accept_55 (by decide) ?_
      cases z23
      exact gq_widen (Nat.le_of_ble_eq_true rfl) (Nat.le_of_ble_eq_true rfl) (gq_sub [0, 1] rfl J56)
abbrev rm_X4_isDigitHere : Room := { frames := 2, cells := 0, slots := 0, locals := 41 }
def F_X4_isDigitHere  (μ : Mm) : Option (Int32 × Mm) :=
  (F_X4_failed  μ).bind fun o2 =>
  if o2 = 0 then
  ((F_X4_peek  μ).bind fun o7 =>
  (F_X4_inRange o7.1 (48 : Int32) (57 : Int32) o7.2).bind fun o11 =>
  if o11 = 0 then
  (some ((0 : Int32), o7.2))
  else
  (some ((1 : Int32), o7.2)))
  else
  (some ((0 : Int32), μ))
set_option maxHeartbeats 4000000 in
set_option maxRecDepth 100000 in
theorem c_X4_isDigitHere {l : Launch} {E : Ev} (hN : 311 ≤ eN E) {μ : Mm} {r : Int32} {μ' : Mm} (z0 : F_X4_isDigitHere  μ = some (r, μ')) : Ct l E yX4_isDigitHere (Cond.code yX4_isDigitHere cX4_isDigitHere 1 (some .boolean) :: GW) rm_X4_isDigitHere [.ref (eB E + 295)] μ (some (.int r)) μ' := by
  refine ct_of (by decide) (Nat.le_of_ble_eq_true rfl) (fun p e s m args below meth c C hr => ?_)
  have C : Cq E p s m args meth c cX4_isDigitHere 1 RX4 := C
  refine gq_lv (lv' := [(0, .ref (eB E + 295))]) rfl ?_
  unfold F_X4_isDigitHere at z0
  refine gq_aload_n C dX4_isDigitHere_0 rfl 0 rfl ?_
  obtain ⟨x3, eo2, z1⟩ := bind_ex z0
  refine gq_V (As := []) (rest := []) (j := 5) C (c_X4_failed hN  eo2) (qn_m 295 (by decide) hN) (by decide) (by decide) rfl wk_7_29 wk_7_31 ws_X4_failed wk_1_9 wk_7_32 hd_X4_failed ⟨(Nat.le_of_ble_eq_true rfl), (Nat.le_of_ble_eq_true rfl)⟩ (Nat.le_of_ble_eq_true rfl) ⟨(Nat.le_of_ble_eq_true rfl), (Nat.le_of_ble_eq_true rfl)⟩ dX4_isDigitHere_1 rfl rfl ?_
  rcases ite_ex z1 with ⟨c4, z5⟩ | ⟨c4, z5⟩
  · refine gq_if_ne_f (tgt := 25) C dX4_isDigitHere_4 (by decide) c4 ?_
    refine gq_aload_n C dX4_isDigitHere_7 rfl 0 rfl ?_
    obtain ⟨⟨x8, m9⟩, eo7, z6⟩ := bind_ex z5
    dsimp only at z6
    refine gq_V (As := []) (rest := []) (j := 5) C (c_X4_peek hN  eo7) (qn_m 295 (by decide) hN) (by decide) (by decide) rfl wk_7_33 wk_7_35 ws_X4_peek wk_1_9 wk_7_36 hd_X4_peek ⟨(Nat.le_of_ble_eq_true rfl), (Nat.le_of_ble_eq_true rfl)⟩ (Nat.le_of_ble_eq_true rfl) ⟨(Nat.le_of_ble_eq_true rfl), (Nat.le_of_ble_eq_true rfl)⟩ dX4_isDigitHere_8 rfl rfl ?_
    refine gq_bipush (v := 48) C dX4_isDigitHere_11 (by decide) ?_
    refine gq_bipush (v := 57) C dX4_isDigitHere_13 (by decide) ?_
    obtain ⟨x12, eo11, z10⟩ := bind_ex z6
    refine gq_S (As := [.int x8, .int (48 : Int32), .int (57 : Int32)]) (rest := []) C (c_X4_inRange hN  eo11) wk_7_50 wk_7_51 wk_1_9 wk_7_52 hd_X4_inRange ⟨(Nat.le_of_ble_eq_true rfl), (Nat.le_of_ble_eq_true rfl)⟩ (Nat.le_of_ble_eq_true rfl) ⟨(Nat.le_of_ble_eq_true rfl), (Nat.le_of_ble_eq_true rfl)⟩ dX4_isDigitHere_15 rfl rfl ?_
    rcases ite_ex z10 with ⟨c13, z14⟩ | ⟨c13, z14⟩
    · refine gq_if_eq_t (tgt := 25) C dX4_isDigitHere_18 (by decide) c13 ?_
      refine gq_iconst (v := 0) C dX4_isDigitHere_25 (by decide) ?_
      cases z14
      exact gq_zret C hr (by decide) dX4_isDigitHere_26 (Nat.le_of_ble_eq_true rfl) (Nat.le_of_ble_eq_true rfl)
    · refine gq_if_eq_f (tgt := 25) C dX4_isDigitHere_18 (by decide) c13 ?_
      refine gq_iconst (v := 1) C dX4_isDigitHere_21 (by decide) ?_
      refine gq_goto (tgt := 26) C dX4_isDigitHere_22 (by decide) ?_
      cases z14
      exact gq_zret C hr (by decide) dX4_isDigitHere_26 (Nat.le_of_ble_eq_true rfl) (Nat.le_of_ble_eq_true rfl)
  · refine gq_if_ne_t (tgt := 25) C dX4_isDigitHere_4 (by decide) c4 ?_
    refine gq_iconst (v := 0) C dX4_isDigitHere_25 (by decide) ?_
    cases z5
    exact gq_zret C hr (by decide) dX4_isDigitHere_26 (Nat.le_of_ble_eq_true rfl) (Nat.le_of_ble_eq_true rfl)
abbrev rm_X4_number : Room := { frames := 2, cells := 0, slots := 0, locals := 41 }
def F_X4_number_24 (u1 : Int32) (u2 : Int32) : Nat → Int32 → Mm → Option (Int32 × Mm)
  | 0, _, _ => none
  | n + 1, v3, μ =>
  (F_X4_byteAt (μ.1 295 15) μ).bind fun o13 =>
  (F_X4_inRange o13 (48 : Int32) (57 : Int32) μ).bind fun o16 =>
  if o16 = 0 then
  (some (v3, μ))
  else
  ((if (3 : Int32) ≤ ((μ.1 295 15) - (μ.1 295 18)) then
  (some v3)
  else
  ((F_X4_byteAt (μ.1 295 15) μ).bind fun o26 =>
  some ((((10 : Int32) * v3) + o26) - (48 : Int32)))).bind fun o28 =>
  (some (uI μ 295 15 ((μ.1 295 15) + (1 : Int32)))).bind fun m29 =>
  F_X4_number_24 u1 u2 n o28 m29)
def F_X4_number (p1 : Int32) (p2 : Int32) (μ : Mm) : Option (Int32 × Mm) :=
  (F_X4_failed  μ).bind fun o2 =>
  if o2 = 0 then
  ((F_X4_peek  μ).bind fun o7 =>
  (some (uI o7.2 295 18 (o7.2.1 295 15))).bind fun m10 =>
  (F_X4_number_24 p1 p2 qFuel (0 : Int32) m10).bind fun o32 =>
  (if (o32.2.1 295 15) = (o32.2.1 295 18) then
  ((F_X4_fail (1 : Int32) (o32.2.1 295 18) o32.2).bind fun o41 =>
  some o41)
  else
  (if (3 : Int32) < ((o32.2.1 295 15) - (o32.2.1 295 18)) then
  ((F_X4_fail (2 : Int32) (o32.2.1 295 18) o32.2).bind fun o46 =>
  some o46)
  else
  ((F_X4_inRange o32.1 p1 p2 o32.2).bind fun o49 =>
  if o49 = 0 then
  ((F_X4_fail (2 : Int32) (o32.2.1 295 18) o32.2).bind fun o54 =>
  some o54)
  else
  (some o32.2)))).bind fun o56 =>
  some (o32.1, o56))
  else
  (some (p1, μ))
set_option maxHeartbeats 4000000 in
set_option maxRecDepth 100000 in
theorem l_X4_number_24 {l : Launch} {E : Ev} (hN : 311 ≤ eN E) {p : Program} {e : Env} {s : State} {m : MethodId} {args : Array Value} {below : List Frame} {meth : Method} {c : Code} (C : Cq E p s m args meth c cX4_number 4 RX4) {Q : State → Prop} {u1 : Int32} {u2 : Int32} : ∀ (n : Nat) (v3 : Int32) (μ : Mm) (w3 : Int32) (μx : Mm), F_X4_number_24 u1 u2 n v3 μ = some (w3, μx) → Gq E p l e rm_X4_number s m args below meth c 0 0 4 Q 89 [(0, .ref (eB E + 295)), (1, .int u1), (2, .int u2), (3, .int w3)] [] μx → Gq E p l e rm_X4_number s m args below meth c 0 0 4 Q 24 [(0, .ref (eB E + 295)), (1, .int u1), (2, .int u2), (3, .int v3)] [] μ := by
  intro n
  induction n with
  | zero =>
    intro v3 μ w3 μx z0 kk
    rw [F_X4_number_24] at z0
    cases z0
  | succ n ih =>
    intro v3 μ w3 μx z0 kk
    rw [F_X4_number_24] at z0
    refine gq_aload_n C dX4_number_24 rfl 0 rfl ?_
    refine gq_aload_n C dX4_number_25 rfl 0 rfl ?_
    refine gq_get5 C (qn_m 295 (by decide) hN) (by decide) 15 (by decide) wk_6_177 rfl dX4_number_26 ?_
    obtain ⟨x14, eo13, z12⟩ := bind_ex z0
    refine gq_V (As := [.int (μ.1 295 15)]) (rest := []) (j := 5) C (c_X4_byteAt hN  eo13) (qn_m 295 (by decide) hN) (by decide) (by decide) rfl wk_7_37 wk_7_39 ws_X4_byteAt wk_1_9 wk_7_40 hd_X4_byteAt ⟨(Nat.le_of_ble_eq_true rfl), (Nat.le_of_ble_eq_true rfl)⟩ (Nat.le_of_ble_eq_true rfl) ⟨(Nat.le_of_ble_eq_true rfl), (Nat.le_of_ble_eq_true rfl)⟩ dX4_number_29 rfl rfl ?_
    refine gq_bipush (v := 48) C dX4_number_32 (by decide) ?_
    refine gq_bipush (v := 57) C dX4_number_34 (by decide) ?_
    obtain ⟨x17, eo16, z15⟩ := bind_ex z12
    refine gq_S (As := [.int x14, .int (48 : Int32), .int (57 : Int32)]) (rest := []) C (c_X4_inRange hN  eo16) wk_7_50 wk_7_51 wk_1_9 wk_7_52 hd_X4_inRange ⟨(Nat.le_of_ble_eq_true rfl), (Nat.le_of_ble_eq_true rfl)⟩ (Nat.le_of_ble_eq_true rfl) ⟨(Nat.le_of_ble_eq_true rfl), (Nat.le_of_ble_eq_true rfl)⟩ dX4_number_36 rfl rfl ?_
    rcases ite_ex z15 with ⟨c18, z19⟩ | ⟨c18, z19⟩
    · refine gq_if_eq_t (tgt := 89) C dX4_number_39 (by decide) c18 ?_
      cases z19
      exact gq_widen (Nat.le_of_ble_eq_true rfl) (Nat.le_of_ble_eq_true rfl) (gq_sub [0, 1, 2, 3] rfl kk)
    · refine gq_if_eq_f (tgt := 89) C dX4_number_39 (by decide) c18 ?_
      refine gq_aload_n C dX4_number_42 rfl 0 rfl ?_
      refine gq_get5 C (qn_m 295 (by decide) hN) (by decide) 15 (by decide) wk_6_177 rfl dX4_number_43 ?_
      refine gq_aload_n C dX4_number_46 rfl 0 rfl ?_
      refine gq_get5 C (qn_m 295 (by decide) hN) (by decide) 18 (by decide) wk_6_180 rfl dX4_number_47 ?_
      refine gq_isub C dX4_number_50 ?_
      refine gq_iconst (v := 3) C dX4_number_51 (by decide) ?_
      obtain ⟨x20, z21, z22⟩ := bind_ex z19
      refine gq_join (k' := 0) (n' := 0) (pc' := 75) (lv' := [(0, .ref (eB E + 295)), (1, .int u1), (2, .int u2)]) (st' := [.int x20]) (μ' := μ) ?_ (fun J75 => ?_)
      · refine gq_istore_n (lv' := [(3, .int x20), (0, .ref (eB E + 295)), (1, .int u1), (2, .int u2)]) C dX4_number_75 rfl (by decide) rfl ?_
        refine gq_aload_n C dX4_number_76 rfl 1 rfl ?_
        refine gq_dupr C dX4_number_77 ?_
        refine gq_get5 C (qn_m 295 (by decide) hN) (by decide) 15 (by decide) wk_6_177 rfl dX4_number_78 ?_
        refine gq_iconst (v := 1) C dX4_number_81 (by decide) ?_
        refine gq_iadd C dX4_number_82 ?_
        obtain ⟨m29, em29, z30⟩ := bind_ex z22
        refine gq_put5_15 C (qn_m 295 (by decide) hN) (by decide) wk_6_177 (Option.some.inj em29).symm dX4_number_83 ?_
        refine gq_goto (tgt := 24) C dX4_number_86 (by decide) ?_
        refine gq_widen (k' := 0) (n' := 0) (Nat.le_of_ble_eq_true rfl) (Nat.le_of_ble_eq_true rfl) (gq_sub [1, 2, 3, 0] rfl ?_)
        exact ih _ _ _ _ z30 kk
      · rcases ite_ex z21 with ⟨c23, z24⟩ | ⟨c23, z24⟩
        · refine gq_icmp_ge_t (tgt := 74) C dX4_number_52 (by decide) c23 ?_
          refine gq_iload_n C dX4_number_74 rfl 3 rfl ?_
          cases z24
          exact gq_widen (Nat.le_of_ble_eq_true rfl) (Nat.le_of_ble_eq_true rfl) (gq_sub [0, 1, 2] rfl J75)
        · refine gq_icmp_ge_f (tgt := 74) C dX4_number_52 (by decide) c23 ?_
          refine gq_bipush (v := 10) C dX4_number_55 (by decide) ?_
          refine gq_iload_n C dX4_number_57 rfl 3 rfl ?_
          refine gq_imul C dX4_number_58 ?_
          refine gq_aload_n C dX4_number_59 rfl 0 rfl ?_
          refine gq_aload_n C dX4_number_60 rfl 0 rfl ?_
          refine gq_get5 C (qn_m 295 (by decide) hN) (by decide) 15 (by decide) wk_6_177 rfl dX4_number_61 ?_
          obtain ⟨x27, eo26, z25⟩ := bind_ex z24
          refine gq_V (As := [.int (μ.1 295 15)]) (rest := [.int ((10 : Int32) * v3)]) (j := 5) C (c_X4_byteAt hN  eo26) (qn_m 295 (by decide) hN) (by decide) (by decide) rfl wk_7_37 wk_7_39 ws_X4_byteAt wk_1_9 wk_7_40 hd_X4_byteAt ⟨(Nat.le_of_ble_eq_true rfl), (Nat.le_of_ble_eq_true rfl)⟩ (Nat.le_of_ble_eq_true rfl) ⟨(Nat.le_of_ble_eq_true rfl), (Nat.le_of_ble_eq_true rfl)⟩ dX4_number_64 rfl rfl ?_
          refine gq_iadd C dX4_number_67 ?_
          refine gq_bipush (v := 48) C dX4_number_68 (by decide) ?_
          refine gq_isub C dX4_number_70 ?_
          refine gq_goto (tgt := 75) C dX4_number_71 (by decide) ?_
          cases z25
          exact gq_widen (Nat.le_of_ble_eq_true rfl) (Nat.le_of_ble_eq_true rfl) (gq_sub [0, 1, 2] rfl J75)
set_option maxHeartbeats 4000000 in
set_option maxRecDepth 100000 in
theorem c_X4_number {l : Launch} {E : Ev} (hN : 311 ≤ eN E) {p1 : Int32} {p2 : Int32} {μ : Mm} {r : Int32} {μ' : Mm} (z0 : F_X4_number p1 p2 μ = some (r, μ')) : Ct l E yX4_number (Cond.code yX4_number cX4_number 4 (some .int) :: GW) rm_X4_number [.ref (eB E + 295), .int p1, .int p2] μ (some (.int r)) μ' := by
  refine ct_of (by decide) (Nat.le_of_ble_eq_true rfl) (fun p e s m args below meth c C hr => ?_)
  have C : Cq E p s m args meth c cX4_number 4 RX4 := C
  refine gq_lv (lv' := [(0, .ref (eB E + 295)), (1, .int p1), (2, .int p2)]) rfl ?_
  unfold F_X4_number at z0
  refine gq_aload_n C dX4_number_0 rfl 0 rfl ?_
  obtain ⟨x3, eo2, z1⟩ := bind_ex z0
  refine gq_V (As := []) (rest := []) (j := 5) C (c_X4_failed hN  eo2) (qn_m 295 (by decide) hN) (by decide) (by decide) rfl wk_7_29 wk_7_31 ws_X4_failed wk_1_9 wk_7_32 hd_X4_failed ⟨(Nat.le_of_ble_eq_true rfl), (Nat.le_of_ble_eq_true rfl)⟩ (Nat.le_of_ble_eq_true rfl) ⟨(Nat.le_of_ble_eq_true rfl), (Nat.le_of_ble_eq_true rfl)⟩ dX4_number_1 rfl rfl ?_
  rcases ite_ex z1 with ⟨c4, z5⟩ | ⟨c4, z5⟩
  · refine gq_if_eq_t (tgt := 9) C dX4_number_4 (by decide) c4 ?_
    refine gq_aload_n C dX4_number_9 rfl 0 rfl ?_
    obtain ⟨⟨x8, m9⟩, eo7, z6⟩ := bind_ex z5
    dsimp only at z6
    refine gq_V (As := []) (rest := []) (j := 5) C (c_X4_peek hN  eo7) (qn_m 295 (by decide) hN) (by decide) (by decide) rfl wk_7_33 wk_7_35 ws_X4_peek wk_1_9 wk_7_36 hd_X4_peek ⟨(Nat.le_of_ble_eq_true rfl), (Nat.le_of_ble_eq_true rfl)⟩ (Nat.le_of_ble_eq_true rfl) ⟨(Nat.le_of_ble_eq_true rfl), (Nat.le_of_ble_eq_true rfl)⟩ dX4_number_10 rfl rfl ?_
    refine gq_popi C dX4_number_13 ?_
    refine gq_aload_n C dX4_number_14 rfl 0 rfl ?_
    refine gq_aload_n C dX4_number_15 rfl 0 rfl ?_
    refine gq_get5 C (qn_m 295 (by decide) hN) (by decide) 15 (by decide) wk_6_177 rfl dX4_number_16 ?_
    obtain ⟨m10, em10, z11⟩ := bind_ex z6
    refine gq_put5_18 C (qn_m 295 (by decide) hN) (by decide) wk_6_180 (Option.some.inj em10).symm dX4_number_19 ?_
    refine gq_iconst (v := 0) C dX4_number_22 (by decide) ?_
    refine gq_istore_n (lv' := [(3, .int (0 : Int32)), (0, .ref (eB E + 295)), (1, .int p1), (2, .int p2)]) C dX4_number_23 rfl (by decide) rfl ?_
    obtain ⟨⟨x33, m34⟩, eo32, z31⟩ := bind_ex z11
    dsimp only at z31
    refine gq_widen (k' := 0) (n' := 0) (Nat.le_of_ble_eq_true rfl) (Nat.le_of_ble_eq_true rfl) (gq_sub [1, 2, 3, 0] rfl ?_)
    refine l_X4_number_24 hN C  qFuel _ _ _ _ eo32 ?_
    refine gq_aload_n C dX4_number_89 rfl 0 rfl ?_
    refine gq_get5 C (qn_m 295 (by decide) hN) (by decide) 15 (by decide) wk_6_177 rfl dX4_number_90 ?_
    refine gq_aload_n C dX4_number_93 rfl 0 rfl ?_
    refine gq_get5 C (qn_m 295 (by decide) hN) (by decide) 18 (by decide) wk_6_180 rfl dX4_number_94 ?_
    obtain ⟨m35, z36, z37⟩ := bind_ex z31
    refine gq_join (k' := 0) (n' := 0) (pc' := 143) (lv' := [(3, .int x33)]) (st' := []) (μ' := m35) ?_ (fun J143 => ?_)
    · refine gq_iload_n C dX4_number_143 rfl 0 rfl ?_
      cases z37
      exact gq_iret C hr dX4_number_144 (Nat.le_of_ble_eq_true rfl) (Nat.le_of_ble_eq_true rfl)
    · rcases ite_ex z36 with ⟨c38, z39⟩ | ⟨c38, z39⟩
      · refine gq_icmp_ne_f (tgt := 112) C dX4_number_97 (by decide) c38 ?_
        refine gq_aload_n C dX4_number_100 rfl 0 rfl ?_
        refine gq_iconst (v := 1) C dX4_number_101 (by decide) ?_
        refine gq_aload_n C dX4_number_102 rfl 0 rfl ?_
        refine gq_get5 C (qn_m 295 (by decide) hN) (by decide) 18 (by decide) wk_6_180 rfl dX4_number_103 ?_
        obtain ⟨m42, eo41, z40⟩ := bind_ex z39
        refine gq_V (As := [.int (1 : Int32), .int (m34.1 295 18)]) (rest := []) (j := 5) C (c_X4_fail hN  eo41) (qn_m 295 (by decide) hN) (by decide) (by decide) rfl wk_7_63 wk_7_65 ws_X4_fail wk_1_9 wk_7_66 hd_X4_fail ⟨(Nat.le_of_ble_eq_true rfl), (Nat.le_of_ble_eq_true rfl)⟩ (Nat.le_of_ble_eq_true rfl) ⟨(Nat.le_of_ble_eq_true rfl), (Nat.le_of_ble_eq_true rfl)⟩ dX4_number_106 rfl rfl ?_
        refine gq_goto (tgt := 143) C dX4_number_109 (by decide) ?_
        cases z40
        exact gq_widen (Nat.le_of_ble_eq_true rfl) (Nat.le_of_ble_eq_true rfl) (gq_sub [3] rfl J143)
      · refine gq_icmp_ne_t (tgt := 112) C dX4_number_97 (by decide) c38 ?_
        refine gq_aload_n C dX4_number_112 rfl 0 rfl ?_
        refine gq_get5 C (qn_m 295 (by decide) hN) (by decide) 15 (by decide) wk_6_177 rfl dX4_number_113 ?_
        refine gq_aload_n C dX4_number_116 rfl 0 rfl ?_
        refine gq_get5 C (qn_m 295 (by decide) hN) (by decide) 18 (by decide) wk_6_180 rfl dX4_number_117 ?_
        refine gq_isub C dX4_number_120 ?_
        refine gq_iconst (v := 3) C dX4_number_121 (by decide) ?_
        rcases ite_ex z39 with ⟨c43, z44⟩ | ⟨c43, z44⟩
        · refine gq_icmp_gt_t (tgt := 134) C dX4_number_122 (by decide) c43 ?_
          refine gq_aload_n C dX4_number_134 rfl 0 rfl ?_
          refine gq_iconst (v := 2) C dX4_number_135 (by decide) ?_
          refine gq_aload_n C dX4_number_136 rfl 0 rfl ?_
          refine gq_get5 C (qn_m 295 (by decide) hN) (by decide) 18 (by decide) wk_6_180 rfl dX4_number_137 ?_
          obtain ⟨m47, eo46, z45⟩ := bind_ex z44
          refine gq_V (As := [.int (2 : Int32), .int (m34.1 295 18)]) (rest := []) (j := 5) C (c_X4_fail hN  eo46) (qn_m 295 (by decide) hN) (by decide) (by decide) rfl wk_7_63 wk_7_65 ws_X4_fail wk_1_9 wk_7_66 hd_X4_fail ⟨(Nat.le_of_ble_eq_true rfl), (Nat.le_of_ble_eq_true rfl)⟩ (Nat.le_of_ble_eq_true rfl) ⟨(Nat.le_of_ble_eq_true rfl), (Nat.le_of_ble_eq_true rfl)⟩ dX4_number_140 rfl rfl ?_
          cases z45
          exact gq_widen (Nat.le_of_ble_eq_true rfl) (Nat.le_of_ble_eq_true rfl) (gq_sub [3] rfl J143)
        · refine gq_icmp_gt_f (tgt := 134) C dX4_number_122 (by decide) c43 ?_
          refine gq_iload_n C dX4_number_125 rfl 3 rfl ?_
          refine gq_iload_n C dX4_number_126 rfl 1 rfl ?_
          refine gq_iload_n C dX4_number_127 rfl 2 rfl ?_
          obtain ⟨x50, eo49, z48⟩ := bind_ex z44
          refine gq_S (As := [.int x33, .int p1, .int p2]) (rest := []) C (c_X4_inRange hN  eo49) wk_7_50 wk_7_51 wk_1_9 wk_7_52 hd_X4_inRange ⟨(Nat.le_of_ble_eq_true rfl), (Nat.le_of_ble_eq_true rfl)⟩ (Nat.le_of_ble_eq_true rfl) ⟨(Nat.le_of_ble_eq_true rfl), (Nat.le_of_ble_eq_true rfl)⟩ dX4_number_128 rfl rfl ?_
          rcases ite_ex z48 with ⟨c51, z52⟩ | ⟨c51, z52⟩
          · refine gq_if_ne_f (tgt := 143) C dX4_number_131 (by decide) c51 ?_
            refine gq_aload_n C dX4_number_134 rfl 0 rfl ?_
            refine gq_iconst (v := 2) C dX4_number_135 (by decide) ?_
            refine gq_aload_n C dX4_number_136 rfl 0 rfl ?_
            refine gq_get5 C (qn_m 295 (by decide) hN) (by decide) 18 (by decide) wk_6_180 rfl dX4_number_137 ?_
            obtain ⟨m55, eo54, z53⟩ := bind_ex z52
            refine gq_V (As := [.int (2 : Int32), .int (m34.1 295 18)]) (rest := []) (j := 5) C (c_X4_fail hN  eo54) (qn_m 295 (by decide) hN) (by decide) (by decide) rfl wk_7_63 wk_7_65 ws_X4_fail wk_1_9 wk_7_66 hd_X4_fail ⟨(Nat.le_of_ble_eq_true rfl), (Nat.le_of_ble_eq_true rfl)⟩ (Nat.le_of_ble_eq_true rfl) ⟨(Nat.le_of_ble_eq_true rfl), (Nat.le_of_ble_eq_true rfl)⟩ dX4_number_140 rfl rfl ?_
            cases z53
            exact gq_widen (Nat.le_of_ble_eq_true rfl) (Nat.le_of_ble_eq_true rfl) (gq_sub [3] rfl J143)
          · refine gq_if_ne_t (tgt := 143) C dX4_number_131 (by decide) c51 ?_
            cases z52
            exact gq_widen (Nat.le_of_ble_eq_true rfl) (Nat.le_of_ble_eq_true rfl) (gq_sub [3] rfl J143)
  · refine gq_if_eq_f (tgt := 9) C dX4_number_4 (by decide) c4 ?_
    refine gq_iload_n C dX4_number_7 rfl 1 rfl ?_
    cases z5
    exact gq_iret C hr dX4_number_8 (Nat.le_of_ble_eq_true rfl) (Nat.le_of_ble_eq_true rfl)
abbrev rm_X4_clears : Room := { frames := 0, cells := 0, slots := 0, locals := 0 }
def F_X4_clears_2  : Nat → Int32 → Mm → Option Mm
  | 0, _, _ => none
  | n + 1, v1, μ =>
  if (521 : Int32) ≤ v1 then
  (some μ)
  else
  ((sI μ 297 v1 (0 : Int32)).bind fun m3 =>
  F_X4_clears_2 n (v1 + 1) m3)
def F_X4_clears_48  : Nat → Int32 → Mm → Option Mm
  | 0, _, _ => none
  | n + 1, v1, μ =>
  if (12 : Int32) ≤ v1 then
  (some μ)
  else
  ((sI μ 297 ((36 : Int32) + v1) (100 : Int32)).bind fun m16 =>
  F_X4_clears_48 n (v1 + 1) m16)
def F_X4_clears  (μ : Mm) : Option Mm :=
  (F_X4_clears_2 qFuel (0 : Int32) μ).bind fun o6 =>
  (sI o6 297 (1 : Int32) (1 : Int32)).bind fun m8 =>
  (sI m8 297 (7 : Int32) (1 : Int32)).bind fun m10 =>
  (sI m10 297 (48 : Int32) (100 : Int32)).bind fun m12 =>
  (F_X4_clears_48 qFuel (0 : Int32) m12).bind fun o19 =>
  (some (uI o19 295 19 (0 : Int32))).bind fun m21 =>
  some m21
set_option maxHeartbeats 4000000 in
set_option maxRecDepth 100000 in
theorem l_X4_clears_2 {l : Launch} {E : Ev} (hN : 311 ≤ eN E) {p : Program} {e : Env} {s : State} {m : MethodId} {args : Array Value} {below : List Frame} {meth : Method} {c : Code} (C : Cq E p s m args meth c cX4_clears 2 RX4) {Q : State → Prop} : ∀ (n : Nat) (v1 : Int32) (μ : Mm) (μx : Mm), F_X4_clears_2 n v1 μ = some μx → Gq E p l e rm_X4_clears s m args below meth c 0 0 2 Q 22 [(0, .ref (eB E + 295))] [] μx → Gq E p l e rm_X4_clears s m args below meth c 0 0 2 Q 2 [(0, .ref (eB E + 295)), (1, .int v1)] [] μ := by
  intro n
  induction n with
  | zero =>
    intro v1 μ μx z0 kk
    rw [F_X4_clears_2] at z0
    cases z0
  | succ n ih =>
    intro v1 μ μx z0 kk
    rw [F_X4_clears_2] at z0
    refine gq_iload_n C dX4_clears_2 rfl 1 rfl ?_
    refine gq_sipush (v := 521) C dX4_clears_3 (by decide) ?_
    rcases ite_ex z0 with ⟨c1, z2⟩ | ⟨c1, z2⟩
    · refine gq_icmp_ge_t (tgt := 22) C dX4_clears_6 (by decide) c1 ?_
      cases z2
      exact gq_widen (Nat.le_of_ble_eq_true rfl) (Nat.le_of_ble_eq_true rfl) (gq_sub [0] rfl kk)
    · refine gq_icmp_ge_f (tgt := 22) C dX4_clears_6 (by decide) c1 ?_
      refine gq_aload_n C dX4_clears_9 rfl 0 rfl ?_
      refine gq_get5 C (qn_m 295 (by decide) hN) (by decide) 2 (by decide) wk_6_164 rfl dX4_clears_10 ?_
      refine gq_iload_n C dX4_clears_13 rfl 1 rfl ?_
      refine gq_iconst (v := 0) C dX4_clears_14 (by decide) ?_
      obtain ⟨m3, em3, z4⟩ := bind_ex z2
      refine gq_iastore C (qn_m 297 (by decide) hN) (by decide) em3 dX4_clears_15 ?_
      refine gq_iinc (v := (v1 + 1)) (lv' := [(1, .int (v1 + 1)), (0, .ref (eB E + 295))]) (q := 1) C dX4_clears_16 rfl rfl (by decide) rfl ?_
      refine gq_goto (tgt := 2) C dX4_clears_19 (by decide) ?_
      refine gq_widen (k' := 0) (n' := 0) (Nat.le_of_ble_eq_true rfl) (Nat.le_of_ble_eq_true rfl) (gq_sub [1, 0] rfl ?_)
      exact ih _ _ _ z4 kk
set_option maxHeartbeats 4000000 in
set_option maxRecDepth 100000 in
theorem l_X4_clears_48 {l : Launch} {E : Ev} (hN : 311 ≤ eN E) {p : Program} {e : Env} {s : State} {m : MethodId} {args : Array Value} {below : List Frame} {meth : Method} {c : Code} (C : Cq E p s m args meth c cX4_clears 2 RX4) {Q : State → Prop} : ∀ (n : Nat) (v1 : Int32) (μ : Mm) (μx : Mm), F_X4_clears_48 n v1 μ = some μx → Gq E p l e rm_X4_clears s m args below meth c 0 0 2 Q 71 [(0, .ref (eB E + 295))] [] μx → Gq E p l e rm_X4_clears s m args below meth c 0 0 2 Q 48 [(0, .ref (eB E + 295)), (1, .int v1)] [] μ := by
  intro n
  induction n with
  | zero =>
    intro v1 μ μx z0 kk
    rw [F_X4_clears_48] at z0
    cases z0
  | succ n ih =>
    intro v1 μ μx z0 kk
    rw [F_X4_clears_48] at z0
    refine gq_iload_n C dX4_clears_48 rfl 1 rfl ?_
    refine gq_bipush (v := 12) C dX4_clears_49 (by decide) ?_
    rcases ite_ex z0 with ⟨c14, z15⟩ | ⟨c14, z15⟩
    · refine gq_icmp_ge_t (tgt := 71) C dX4_clears_51 (by decide) c14 ?_
      cases z15
      exact gq_widen (Nat.le_of_ble_eq_true rfl) (Nat.le_of_ble_eq_true rfl) (gq_sub [0] rfl kk)
    · refine gq_icmp_ge_f (tgt := 71) C dX4_clears_51 (by decide) c14 ?_
      refine gq_aload_n C dX4_clears_54 rfl 0 rfl ?_
      refine gq_get5 C (qn_m 295 (by decide) hN) (by decide) 2 (by decide) wk_6_164 rfl dX4_clears_55 ?_
      refine gq_bipush (v := 36) C dX4_clears_58 (by decide) ?_
      refine gq_iload_n C dX4_clears_60 rfl 1 rfl ?_
      refine gq_iadd C dX4_clears_61 ?_
      refine gq_bipush (v := 100) C dX4_clears_62 (by decide) ?_
      obtain ⟨m16, em16, z17⟩ := bind_ex z15
      refine gq_iastore C (qn_m 297 (by decide) hN) (by decide) em16 dX4_clears_64 ?_
      refine gq_iinc (v := (v1 + 1)) (lv' := [(1, .int (v1 + 1)), (0, .ref (eB E + 295))]) (q := 1) C dX4_clears_65 rfl rfl (by decide) rfl ?_
      refine gq_goto (tgt := 48) C dX4_clears_68 (by decide) ?_
      refine gq_widen (k' := 0) (n' := 0) (Nat.le_of_ble_eq_true rfl) (Nat.le_of_ble_eq_true rfl) (gq_sub [1, 0] rfl ?_)
      exact ih _ _ _ z17 kk
set_option maxHeartbeats 4000000 in
set_option maxRecDepth 100000 in
theorem c_X4_clears {l : Launch} {E : Ev} (hN : 311 ≤ eN E) {μ : Mm} {μ' : Mm} (z0 : F_X4_clears  μ = some μ') : Ct l E yX4_clears (Cond.code yX4_clears cX4_clears 2 none :: GW) rm_X4_clears [.ref (eB E + 295)] μ none μ' := by
  refine ct_of (by decide) (Nat.le_of_ble_eq_true rfl) (fun p e s m args below meth c C hr => ?_)
  have C : Cq E p s m args meth c cX4_clears 2 RX4 := C
  refine gq_lv (lv' := [(0, .ref (eB E + 295))]) rfl ?_
  unfold F_X4_clears at z0
  refine gq_iconst (v := 0) C dX4_clears_0 (by decide) ?_
  refine gq_istore_n (lv' := [(1, .int (0 : Int32)), (0, .ref (eB E + 295))]) C dX4_clears_1 rfl (by decide) rfl ?_
  obtain ⟨m7, eo6, z5⟩ := bind_ex z0
  refine gq_widen (k' := 0) (n' := 0) (Nat.le_of_ble_eq_true rfl) (Nat.le_of_ble_eq_true rfl) (gq_sub [1, 0] rfl ?_)
  refine l_X4_clears_2 hN C  qFuel _ _ _ eo6 ?_
  refine gq_aload_n C dX4_clears_22 rfl 0 rfl ?_
  refine gq_get5 C (qn_m 295 (by decide) hN) (by decide) 2 (by decide) wk_6_164 rfl dX4_clears_23 ?_
  refine gq_iconst (v := 1) C dX4_clears_26 (by decide) ?_
  refine gq_iconst (v := 1) C dX4_clears_27 (by decide) ?_
  obtain ⟨m8, em8, z9⟩ := bind_ex z5
  refine gq_iastore C (qn_m 297 (by decide) hN) (by decide) em8 dX4_clears_28 ?_
  refine gq_aload_n C dX4_clears_29 rfl 0 rfl ?_
  refine gq_get5 C (qn_m 295 (by decide) hN) (by decide) 2 (by decide) wk_6_164 rfl dX4_clears_30 ?_
  refine gq_bipush (v := 7) C dX4_clears_33 (by decide) ?_
  refine gq_iconst (v := 1) C dX4_clears_35 (by decide) ?_
  obtain ⟨m10, em10, z11⟩ := bind_ex z9
  refine gq_iastore C (qn_m 297 (by decide) hN) (by decide) em10 dX4_clears_36 ?_
  refine gq_aload_n C dX4_clears_37 rfl 0 rfl ?_
  refine gq_get5 C (qn_m 295 (by decide) hN) (by decide) 2 (by decide) wk_6_164 rfl dX4_clears_38 ?_
  refine gq_bipush (v := 48) C dX4_clears_41 (by decide) ?_
  refine gq_bipush (v := 100) C dX4_clears_43 (by decide) ?_
  obtain ⟨m12, em12, z13⟩ := bind_ex z11
  refine gq_iastore C (qn_m 297 (by decide) hN) (by decide) em12 dX4_clears_45 ?_
  refine gq_iconst (v := 0) C dX4_clears_46 (by decide) ?_
  refine gq_istore_n (lv' := [(1, .int (0 : Int32)), (0, .ref (eB E + 295))]) C dX4_clears_47 rfl (by decide) rfl ?_
  obtain ⟨m20, eo19, z18⟩ := bind_ex z13
  refine gq_widen (k' := 0) (n' := 0) (Nat.le_of_ble_eq_true rfl) (Nat.le_of_ble_eq_true rfl) (gq_sub [1, 0] rfl ?_)
  refine l_X4_clears_48 hN C  qFuel _ _ _ eo19 ?_
  refine gq_aload_n C dX4_clears_71 rfl 0 rfl ?_
  refine gq_iconst (v := 0) C dX4_clears_72 (by decide) ?_
  obtain ⟨m21, em21, z22⟩ := bind_ex z18
  refine gq_put5_19 C (qn_m 295 (by decide) hN) (by decide) wk_6_181 rfl rfl (Option.some.inj em21).symm dX4_clears_73 ?_
  cases z22
  exact gq_vret C hr dX4_clears_76 (Nat.le_of_ble_eq_true rfl) (Nat.le_of_ble_eq_true rfl)
abbrev rm_X4_numbers : Room := { frames := 3, cells := 0, slots := 0, locals := 64 }
def F_X4_numbers_5 (u1 : Int32) (u2 : Int32) : Nat → Int32 → Int32 → Mm → Option (Int32 × Mm)
  | 0, _, _, _ => none
  | n + 1, v3, v4, μ =>
  if v4 = 0 then
  (some (v3, μ))
  else
  (if v3 = u2 then
  ((F_X4_fail (4 : Int32) (μ.1 295 15) μ).bind fun o6 =>
  some (v3, o6))
  else
  ((F_X4_number (0 : Int32) (200 : Int32) μ).bind fun o9 =>
  (F_X4_failed  o9.2).bind fun o13 =>
  if o13 = 0 then
  ((sI o9.2 297 (u1 + v3) o9.1).bind fun m17 =>
  (F_X4_isDigitHere  m17).bind fun o20 =>
  F_X4_numbers_5 u1 u2 n (v3 + 1) o20.1 o20.2)
  else
  (some (v3, o9.2))))
def F_X4_numbers (p1 : Int32) (p2 : Int32) (μ : Mm) : Option (Int32 × Mm) :=
  F_X4_numbers_5 p1 p2 qFuel (0 : Int32) (1 : Int32) μ
set_option maxHeartbeats 4000000 in
set_option maxRecDepth 100000 in
theorem l_X4_numbers_5 {l : Launch} {E : Ev} (hN : 311 ≤ eN E) {p : Program} {e : Env} {s : State} {m : MethodId} {args : Array Value} {below : List Frame} {meth : Method} {c : Code} (C : Cq E p s m args meth c cX4_numbers 6 RX4) (hr : meth.sig.returnType = (some .int)) {u1 : Int32} {u2 : Int32} : ∀ (n : Nat) (v3 : Int32) (v4 : Int32) (μ : Mm) (r : Int32) (μ' : Mm), F_X4_numbers_5 u1 u2 n v3 v4 μ = some (r, μ') → Gq E p l e rm_X4_numbers s m args below meth c 0 0 6 (MQ below (qQ E (some (.int r)) μ') args s rm_X4_numbers.cells rm_X4_numbers.slots (eA E)) 5 [(0, .ref (eB E + 295)), (1, .int u1), (2, .int u2), (3, .int v3), (4, .int v4)] [] μ := by
  intro n
  induction n with
  | zero =>
    intro v3 v4 μ r μ' z0
    rw [F_X4_numbers_5] at z0
    cases z0
  | succ n ih =>
    intro v3 v4 μ r μ' z0
    rw [F_X4_numbers_5] at z0
    refine gq_iload C dX4_numbers_5 4 rfl ?_
    rcases ite_ex z0 with ⟨c1, z2⟩ | ⟨c1, z2⟩
    · refine gq_if_eq_t (tgt := 67) C dX4_numbers_7 (by decide) c1 ?_
      refine gq_iload_n C dX4_numbers_67 rfl 3 rfl ?_
      cases z2
      exact gq_iret C hr dX4_numbers_68 (Nat.le_of_ble_eq_true rfl) (Nat.le_of_ble_eq_true rfl)
    · refine gq_if_eq_f (tgt := 67) C dX4_numbers_7 (by decide) c1 ?_
      refine gq_iload_n C dX4_numbers_10 rfl 3 rfl ?_
      refine gq_iload_n C dX4_numbers_11 rfl 2 rfl ?_
      rcases ite_ex z2 with ⟨c3, z4⟩ | ⟨c3, z4⟩
      · refine gq_icmp_ne_f (tgt := 26) C dX4_numbers_12 (by decide) c3 ?_
        refine gq_aload_n C dX4_numbers_15 rfl 0 rfl ?_
        refine gq_iconst (v := 4) C dX4_numbers_16 (by decide) ?_
        refine gq_aload_n C dX4_numbers_17 rfl 0 rfl ?_
        refine gq_get5 C (qn_m 295 (by decide) hN) (by decide) 15 (by decide) wk_6_177 rfl dX4_numbers_18 ?_
        obtain ⟨m7, eo6, z5⟩ := bind_ex z4
        refine gq_V (As := [.int (4 : Int32), .int (μ.1 295 15)]) (rest := []) (j := 5) C (c_X4_fail hN  eo6) (qn_m 295 (by decide) hN) (by decide) (by decide) rfl wk_7_63 wk_7_65 ws_X4_fail wk_1_9 wk_7_66 hd_X4_fail ⟨(Nat.le_of_ble_eq_true rfl), (Nat.le_of_ble_eq_true rfl)⟩ (Nat.le_of_ble_eq_true rfl) ⟨(Nat.le_of_ble_eq_true rfl), (Nat.le_of_ble_eq_true rfl)⟩ dX4_numbers_21 rfl rfl ?_
        refine gq_iload_n C dX4_numbers_24 rfl 3 rfl ?_
        cases z5
        exact gq_iret C hr dX4_numbers_25 (Nat.le_of_ble_eq_true rfl) (Nat.le_of_ble_eq_true rfl)
      · refine gq_icmp_ne_t (tgt := 26) C dX4_numbers_12 (by decide) c3 ?_
        refine gq_aload_n C dX4_numbers_26 rfl 0 rfl ?_
        refine gq_iconst (v := 0) C dX4_numbers_27 (by decide) ?_
        refine gq_sipush (v := 200) C dX4_numbers_28 (by decide) ?_
        obtain ⟨⟨x10, m11⟩, eo9, z8⟩ := bind_ex z4
        dsimp only at z8
        refine gq_V (As := [.int (0 : Int32), .int (200 : Int32)]) (rest := []) (j := 5) C (c_X4_number hN  eo9) (qn_m 295 (by decide) hN) (by decide) (by decide) rfl wk_7_67 wk_7_69 ws_X4_number wk_1_9 wk_7_70 hd_X4_number ⟨(Nat.le_of_ble_eq_true rfl), (Nat.le_of_ble_eq_true rfl)⟩ (Nat.le_of_ble_eq_true rfl) ⟨(Nat.le_of_ble_eq_true rfl), (Nat.le_of_ble_eq_true rfl)⟩ dX4_numbers_31 rfl rfl ?_
        refine gq_istore (lv' := [(5, .int x10), (0, .ref (eB E + 295)), (1, .int u1), (2, .int u2), (3, .int v3), (4, .int v4)]) C dX4_numbers_34 (by decide) rfl ?_
        refine gq_aload_n C dX4_numbers_36 rfl 1 rfl ?_
        obtain ⟨x14, eo13, z12⟩ := bind_ex z8
        refine gq_V (As := []) (rest := []) (j := 5) C (c_X4_failed hN  eo13) (qn_m 295 (by decide) hN) (by decide) (by decide) rfl wk_7_29 wk_7_31 ws_X4_failed wk_1_9 wk_7_32 hd_X4_failed ⟨(Nat.le_of_ble_eq_true rfl), (Nat.le_of_ble_eq_true rfl)⟩ (Nat.le_of_ble_eq_true rfl) ⟨(Nat.le_of_ble_eq_true rfl), (Nat.le_of_ble_eq_true rfl)⟩ dX4_numbers_37 rfl rfl ?_
        rcases ite_ex z12 with ⟨c15, z16⟩ | ⟨c15, z16⟩
        · refine gq_if_eq_t (tgt := 45) C dX4_numbers_40 (by decide) c15 ?_
          refine gq_aload_n C dX4_numbers_45 rfl 1 rfl ?_
          refine gq_get5 C (qn_m 295 (by decide) hN) (by decide) 2 (by decide) wk_6_164 rfl dX4_numbers_46 ?_
          refine gq_iload_n C dX4_numbers_49 rfl 2 rfl ?_
          refine gq_iload_n C dX4_numbers_50 rfl 4 rfl ?_
          refine gq_iadd C dX4_numbers_51 ?_
          refine gq_iload C dX4_numbers_52 0 rfl ?_
          obtain ⟨m17, em17, z18⟩ := bind_ex z16
          refine gq_iastore C (qn_m 297 (by decide) hN) (by decide) em17 dX4_numbers_54 ?_
          refine gq_iinc (v := (v3 + 1)) (lv' := [(3, .int (v3 + 1)), (5, .int x10), (0, .ref (eB E + 295)), (1, .int u1), (2, .int u2), (4, .int v4)]) (q := 4) C dX4_numbers_55 rfl rfl (by decide) rfl ?_
          refine gq_aload_n C dX4_numbers_58 rfl 2 rfl ?_
          obtain ⟨⟨x21, m22⟩, eo20, z19⟩ := bind_ex z18
          dsimp only at z19
          refine gq_V (As := []) (rest := []) (j := 5) C (c_X4_isDigitHere hN  eo20) (qn_m 295 (by decide) hN) (by decide) (by decide) rfl wk_7_76 wk_7_78 ws_X4_isDigitHere wk_1_9 wk_7_79 hd_X4_isDigitHere ⟨(Nat.le_of_ble_eq_true rfl), (Nat.le_of_ble_eq_true rfl)⟩ (Nat.le_of_ble_eq_true rfl) ⟨(Nat.le_of_ble_eq_true rfl), (Nat.le_of_ble_eq_true rfl)⟩ dX4_numbers_59 rfl rfl ?_
          refine gq_istore (lv' := [(4, .int x21), (3, .int (v3 + 1)), (5, .int x10), (0, .ref (eB E + 295)), (1, .int u1), (2, .int u2)]) C dX4_numbers_62 (by decide) rfl ?_
          refine gq_goto (tgt := 5) C dX4_numbers_64 (by decide) ?_
          refine gq_widen (k' := 0) (n' := 0) (Nat.le_of_ble_eq_true rfl) (Nat.le_of_ble_eq_true rfl) (gq_sub [3, 4, 5, 1, 0] rfl ?_)
          exact ih _ _ _ _ _ z19
        · refine gq_if_eq_f (tgt := 45) C dX4_numbers_40 (by decide) c15 ?_
          refine gq_iload_n C dX4_numbers_43 rfl 4 rfl ?_
          cases z16
          exact gq_iret C hr dX4_numbers_44 (Nat.le_of_ble_eq_true rfl) (Nat.le_of_ble_eq_true rfl)
set_option maxHeartbeats 4000000 in
set_option maxRecDepth 100000 in
theorem c_X4_numbers {l : Launch} {E : Ev} (hN : 311 ≤ eN E) {p1 : Int32} {p2 : Int32} {μ : Mm} {r : Int32} {μ' : Mm} (z0 : F_X4_numbers p1 p2 μ = some (r, μ')) : Ct l E yX4_numbers (Cond.code yX4_numbers cX4_numbers 6 (some .int) :: GW) rm_X4_numbers [.ref (eB E + 295), .int p1, .int p2] μ (some (.int r)) μ' := by
  refine ct_of (by decide) (Nat.le_of_ble_eq_true rfl) (fun p e s m args below meth c C hr => ?_)
  have C : Cq E p s m args meth c cX4_numbers 6 RX4 := C
  refine gq_lv (lv' := [(0, .ref (eB E + 295)), (1, .int p1), (2, .int p2)]) rfl ?_
  unfold F_X4_numbers at z0
  refine gq_iconst (v := 0) C dX4_numbers_0 (by decide) ?_
  refine gq_istore_n (lv' := [(3, .int (0 : Int32)), (0, .ref (eB E + 295)), (1, .int p1), (2, .int p2)]) C dX4_numbers_1 rfl (by decide) rfl ?_
  refine gq_iconst (v := 1) C dX4_numbers_2 (by decide) ?_
  refine gq_istore (lv' := [(4, .int (1 : Int32)), (3, .int (0 : Int32)), (0, .ref (eB E + 295)), (1, .int p1), (2, .int p2)]) C dX4_numbers_3 (by decide) rfl ?_
  refine gq_widen (k' := 0) (n' := 0) (Nat.le_of_ble_eq_true rfl) (Nat.le_of_ble_eq_true rfl) (gq_sub [2, 3, 4, 1, 0] rfl ?_)
  exact l_X4_numbers_5 hN C hr  qFuel _ _ _ _ _ z0
abbrev rm_X4_isRoom : Room := { frames := 1, cells := 0, slots := 0, locals := 22 }
def F_X4_isRoom (p1 : Int32) (p2 : Int32) (p3 : Int32) (μ : Mm) : Option (Int32 × Mm) :=
  (aI μ 297 p1).bind fun x1 =>
  (if x1 = p2 then
  ((F_X4_fail (4 : Int32) p3 μ).bind fun o9 =>
  some o9)
  else
  (some μ)).bind fun o11 =>
  (F_X4_failed  o11).bind fun o13 =>
  if o13 = 0 then
  (some ((1 : Int32), o11))
  else
  (some ((0 : Int32), o11))
set_option maxHeartbeats 4000000 in
set_option maxRecDepth 100000 in
theorem c_X4_isRoom {l : Launch} {E : Ev} (hN : 311 ≤ eN E) {p1 : Int32} {p2 : Int32} {p3 : Int32} {μ : Mm} {r : Int32} {μ' : Mm} (z0 : F_X4_isRoom p1 p2 p3 μ = some (r, μ')) : Ct l E yX4_isRoom (Cond.code yX4_isRoom cX4_isRoom 4 (some .boolean) :: GW) rm_X4_isRoom [.ref (eB E + 295), .int p1, .int p2, .int p3] μ (some (.int r)) μ' := by
  refine ct_of (by decide) (Nat.le_of_ble_eq_true rfl) (fun p e s m args below meth c C hr => ?_)
  have C : Cq E p s m args meth c cX4_isRoom 4 RX4 := C
  refine gq_lv (lv' := [(0, .ref (eB E + 295)), (1, .int p1), (2, .int p2), (3, .int p3)]) rfl ?_
  unfold F_X4_isRoom at z0
  refine gq_aload_n C dX4_isRoom_0 rfl 0 rfl ?_
  refine gq_get5 C (qn_m 295 (by decide) hN) (by decide) 2 (by decide) wk_6_164 rfl dX4_isRoom_1 ?_
  refine gq_iload_n C dX4_isRoom_4 rfl 1 rfl ?_
  obtain ⟨x1, ex1, z2⟩ := bind_ex z0
  refine gq_ialoadI C (qn_m 297 (by decide) hN) (by decide) ex1 dX4_isRoom_5 ?_
  refine gq_iload_n C dX4_isRoom_6 rfl 2 rfl ?_
  obtain ⟨m3, z4, z5⟩ := bind_ex z2
  refine gq_join (k' := 0) (n' := 0) (pc' := 16) (lv' := [(0, .ref (eB E + 295))]) (st' := []) (μ' := m3) ?_ (fun J16 => ?_)
  · refine gq_aload_n C dX4_isRoom_16 rfl 0 rfl ?_
    obtain ⟨x14, eo13, z12⟩ := bind_ex z5
    refine gq_V (As := []) (rest := []) (j := 5) C (c_X4_failed hN  eo13) (qn_m 295 (by decide) hN) (by decide) (by decide) rfl wk_7_29 wk_7_31 ws_X4_failed wk_1_9 wk_7_32 hd_X4_failed ⟨(Nat.le_of_ble_eq_true rfl), (Nat.le_of_ble_eq_true rfl)⟩ (Nat.le_of_ble_eq_true rfl) ⟨(Nat.le_of_ble_eq_true rfl), (Nat.le_of_ble_eq_true rfl)⟩ dX4_isRoom_17 rfl rfl ?_
    rcases ite_ex z12 with ⟨c15, z16⟩ | ⟨c15, z16⟩
    · refine gq_if_ne_f (tgt := 27) C dX4_isRoom_20 (by decide) c15 ?_
      refine gq_iconst (v := 1) C dX4_isRoom_23 (by decide) ?_
      refine gq_goto (tgt := 28) C dX4_isRoom_24 (by decide) ?_
      cases z16
      exact gq_zret C hr (by decide) dX4_isRoom_28 (Nat.le_of_ble_eq_true rfl) (Nat.le_of_ble_eq_true rfl)
    · refine gq_if_ne_t (tgt := 27) C dX4_isRoom_20 (by decide) c15 ?_
      refine gq_iconst (v := 0) C dX4_isRoom_27 (by decide) ?_
      cases z16
      exact gq_zret C hr (by decide) dX4_isRoom_28 (Nat.le_of_ble_eq_true rfl) (Nat.le_of_ble_eq_true rfl)
  · rcases ite_ex z4 with ⟨c6, z7⟩ | ⟨c6, z7⟩
    · refine gq_icmp_ne_f (tgt := 16) C dX4_isRoom_7 (by decide) c6 ?_
      refine gq_aload_n C dX4_isRoom_10 rfl 0 rfl ?_
      refine gq_iconst (v := 4) C dX4_isRoom_11 (by decide) ?_
      refine gq_iload_n C dX4_isRoom_12 rfl 3 rfl ?_
      obtain ⟨m10, eo9, z8⟩ := bind_ex z7
      refine gq_V (As := [.int (4 : Int32), .int p3]) (rest := []) (j := 5) C (c_X4_fail hN  eo9) (qn_m 295 (by decide) hN) (by decide) (by decide) rfl wk_7_63 wk_7_65 ws_X4_fail wk_1_9 wk_7_66 hd_X4_fail ⟨(Nat.le_of_ble_eq_true rfl), (Nat.le_of_ble_eq_true rfl)⟩ (Nat.le_of_ble_eq_true rfl) ⟨(Nat.le_of_ble_eq_true rfl), (Nat.le_of_ble_eq_true rfl)⟩ dX4_isRoom_13 rfl rfl ?_
      cases z8
      exact gq_widen (Nat.le_of_ble_eq_true rfl) (Nat.le_of_ble_eq_true rfl) (gq_sub [0] rfl J16)
    · refine gq_icmp_ne_t (tgt := 16) C dX4_isRoom_7 (by decide) c6 ?_
      cases z7
      exact gq_widen (Nat.le_of_ble_eq_true rfl) (Nat.le_of_ble_eq_true rfl) (gq_sub [0] rfl J16)
abbrev rm_X4_reachHere : Room := { frames := 3, cells := 0, slots := 0, locals := 64 }
def F_X4_reachHere (p1 : Int32) (μ : Mm) : Option (Int32 × Mm) :=
  (aI μ 297 (0 : Int32)).bind fun x1 =>
  (F_X4_number p1 (x1 - (1 : Int32)) μ).bind fun o4 =>
  some (o4.1, o4.2)
set_option maxHeartbeats 4000000 in
set_option maxRecDepth 100000 in
theorem c_X4_reachHere {l : Launch} {E : Ev} (hN : 311 ≤ eN E) {p1 : Int32} {μ : Mm} {r : Int32} {μ' : Mm} (z0 : F_X4_reachHere p1 μ = some (r, μ')) : Ct l E yX4_reachHere (Cond.code yX4_reachHere cX4_reachHere 2 (some .int) :: GW) rm_X4_reachHere [.ref (eB E + 295), .int p1] μ (some (.int r)) μ' := by
  refine ct_of (by decide) (Nat.le_of_ble_eq_true rfl) (fun p e s m args below meth c C hr => ?_)
  have C : Cq E p s m args meth c cX4_reachHere 2 RX4 := C
  refine gq_lv (lv' := [(0, .ref (eB E + 295)), (1, .int p1)]) rfl ?_
  unfold F_X4_reachHere at z0
  refine gq_aload_n C dX4_reachHere_0 rfl 0 rfl ?_
  refine gq_iload_n C dX4_reachHere_1 rfl 1 rfl ?_
  refine gq_aload_n C dX4_reachHere_2 rfl 0 rfl ?_
  refine gq_get5 C (qn_m 295 (by decide) hN) (by decide) 2 (by decide) wk_6_164 rfl dX4_reachHere_3 ?_
  refine gq_iconst (v := 0) C dX4_reachHere_6 (by decide) ?_
  obtain ⟨x1, ex1, z2⟩ := bind_ex z0
  refine gq_ialoadI C (qn_m 297 (by decide) hN) (by decide) ex1 dX4_reachHere_7 ?_
  refine gq_iconst (v := 1) C dX4_reachHere_8 (by decide) ?_
  refine gq_isub C dX4_reachHere_9 ?_
  obtain ⟨⟨x5, m6⟩, eo4, z3⟩ := bind_ex z2
  dsimp only at z3
  refine gq_V (As := [.int p1, .int (x1 - (1 : Int32))]) (rest := []) (j := 5) C (c_X4_number hN  eo4) (qn_m 295 (by decide) hN) (by decide) (by decide) rfl wk_7_67 wk_7_69 ws_X4_number wk_1_9 wk_7_70 hd_X4_number ⟨(Nat.le_of_ble_eq_true rfl), (Nat.le_of_ble_eq_true rfl)⟩ (Nat.le_of_ble_eq_true rfl) ⟨(Nat.le_of_ble_eq_true rfl), (Nat.le_of_ble_eq_true rfl)⟩ dX4_reachHere_10 rfl rfl ?_
  cases z3
  exact gq_iret C hr dX4_reachHere_13 (Nat.le_of_ble_eq_true rfl) (Nat.le_of_ble_eq_true rfl)
abbrev rm_X4_accountHere : Room := { frames := 3, cells := 0, slots := 0, locals := 64 }
def F_X4_accountHere  (μ : Mm) : Option (Int32 × Mm) :=
  (aI μ 297 (1 : Int32)).bind fun x1 =>
  (F_X4_number (0 : Int32) (x1 - (1 : Int32)) μ).bind fun o4 =>
  some (o4.1, o4.2)
set_option maxHeartbeats 4000000 in
set_option maxRecDepth 100000 in
theorem c_X4_accountHere {l : Launch} {E : Ev} (hN : 311 ≤ eN E) {μ : Mm} {r : Int32} {μ' : Mm} (z0 : F_X4_accountHere  μ = some (r, μ')) : Ct l E yX4_accountHere (Cond.code yX4_accountHere cX4_accountHere 1 (some .int) :: GW) rm_X4_accountHere [.ref (eB E + 295)] μ (some (.int r)) μ' := by
  refine ct_of (by decide) (Nat.le_of_ble_eq_true rfl) (fun p e s m args below meth c C hr => ?_)
  have C : Cq E p s m args meth c cX4_accountHere 1 RX4 := C
  refine gq_lv (lv' := [(0, .ref (eB E + 295))]) rfl ?_
  unfold F_X4_accountHere at z0
  refine gq_aload_n C dX4_accountHere_0 rfl 0 rfl ?_
  refine gq_iconst (v := 0) C dX4_accountHere_1 (by decide) ?_
  refine gq_aload_n C dX4_accountHere_2 rfl 0 rfl ?_
  refine gq_get5 C (qn_m 295 (by decide) hN) (by decide) 2 (by decide) wk_6_164 rfl dX4_accountHere_3 ?_
  refine gq_iconst (v := 1) C dX4_accountHere_6 (by decide) ?_
  obtain ⟨x1, ex1, z2⟩ := bind_ex z0
  refine gq_ialoadI C (qn_m 297 (by decide) hN) (by decide) ex1 dX4_accountHere_7 ?_
  refine gq_iconst (v := 1) C dX4_accountHere_8 (by decide) ?_
  refine gq_isub C dX4_accountHere_9 ?_
  obtain ⟨⟨x5, m6⟩, eo4, z3⟩ := bind_ex z2
  dsimp only at z3
  refine gq_V (As := [.int (0 : Int32), .int (x1 - (1 : Int32))]) (rest := []) (j := 5) C (c_X4_number hN  eo4) (qn_m 295 (by decide) hN) (by decide) (by decide) rfl wk_7_67 wk_7_69 ws_X4_number wk_1_9 wk_7_70 hd_X4_number ⟨(Nat.le_of_ble_eq_true rfl), (Nat.le_of_ble_eq_true rfl)⟩ (Nat.le_of_ble_eq_true rfl) ⟨(Nat.le_of_ble_eq_true rfl), (Nat.le_of_ble_eq_true rfl)⟩ dX4_accountHere_10 rfl rfl ?_
  cases z3
  exact gq_iret C hr dX4_accountHere_13 (Nat.le_of_ble_eq_true rfl) (Nat.le_of_ble_eq_true rfl)
abbrev rm_X4_priorityHere : Room := { frames := 3, cells := 0, slots := 0, locals := 64 }
def F_X4_priorityHere_10 (u1 : Int32) : Nat → Int32 → Mm → Option Mm
  | 0, _, _ => none
  | n + 1, v2, μ =>
  (aI μ 297 (2 : Int32)).bind fun x5 =>
  if x5 ≤ v2 then
  (some μ)
  else
  ((F_X4_rightAt v2 (2 : Int32) μ).bind fun o10 =>
  (aI μ 297 o10).bind fun x12 =>
  (if x12 = u1 then
  ((F_X4_fail (3 : Int32) (μ.1 295 18) μ).bind fun o20 =>
  some o20)
  else
  (some μ)).bind fun o22 =>
  F_X4_priorityHere_10 u1 n (v2 + 1) o22)
def F_X4_priorityHere  (μ : Mm) : Option (Int32 × Mm) :=
  (F_X4_number (1 : Int32) (99 : Int32) μ).bind fun o2 =>
  (F_X4_priorityHere_10 o2.1 qFuel (0 : Int32) o2.2).bind fun o24 =>
  some (o2.1, o24)
set_option maxHeartbeats 4000000 in
set_option maxRecDepth 100000 in
theorem l_X4_priorityHere_10 {l : Launch} {E : Ev} (hN : 311 ≤ eN E) {p : Program} {e : Env} {s : State} {m : MethodId} {args : Array Value} {below : List Frame} {meth : Method} {c : Code} (C : Cq E p s m args meth c cX4_priorityHere 3 RX4) {Q : State → Prop} {u1 : Int32} : ∀ (n : Nat) (v2 : Int32) (μ : Mm) (μx : Mm), F_X4_priorityHere_10 u1 n v2 μ = some μx → Gq E p l e rm_X4_priorityHere s m args below meth c 0 0 3 Q 49 [(1, .int u1)] [] μx → Gq E p l e rm_X4_priorityHere s m args below meth c 0 0 3 Q 10 [(0, .ref (eB E + 295)), (1, .int u1), (2, .int v2)] [] μ := by
  intro n
  induction n with
  | zero =>
    intro v2 μ μx z0 kk
    rw [F_X4_priorityHere_10] at z0
    cases z0
  | succ n ih =>
    intro v2 μ μx z0 kk
    rw [F_X4_priorityHere_10] at z0
    refine gq_iload_n C dX4_priorityHere_10 rfl 2 rfl ?_
    refine gq_aload_n C dX4_priorityHere_11 rfl 0 rfl ?_
    refine gq_get5 C (qn_m 295 (by decide) hN) (by decide) 2 (by decide) wk_6_164 rfl dX4_priorityHere_12 ?_
    refine gq_iconst (v := 2) C dX4_priorityHere_15 (by decide) ?_
    obtain ⟨x5, ex5, z6⟩ := bind_ex z0
    refine gq_ialoadI C (qn_m 297 (by decide) hN) (by decide) ex5 dX4_priorityHere_16 ?_
    rcases ite_ex z6 with ⟨c7, z8⟩ | ⟨c7, z8⟩
    · refine gq_icmp_ge_t (tgt := 49) C dX4_priorityHere_17 (by decide) c7 ?_
      cases z8
      exact gq_widen (Nat.le_of_ble_eq_true rfl) (Nat.le_of_ble_eq_true rfl) (gq_sub [1] rfl kk)
    · refine gq_icmp_ge_f (tgt := 49) C dX4_priorityHere_17 (by decide) c7 ?_
      refine gq_aload_n C dX4_priorityHere_20 rfl 0 rfl ?_
      refine gq_get5 C (qn_m 295 (by decide) hN) (by decide) 2 (by decide) wk_6_164 rfl dX4_priorityHere_21 ?_
      refine gq_iload_n C dX4_priorityHere_24 rfl 2 rfl ?_
      refine gq_iconst (v := 2) C dX4_priorityHere_25 (by decide) ?_
      obtain ⟨x11, eo10, z9⟩ := bind_ex z8
      refine gq_S (As := [.int v2, .int (2 : Int32)]) (rest := [.ref (eB E + 297)]) C (c_X4_rightAt hN  eo10) wk_7_88 wk_7_89 wk_1_9 wk_7_90 hd_X4_rightAt ⟨(Nat.le_of_ble_eq_true rfl), (Nat.le_of_ble_eq_true rfl)⟩ (Nat.le_of_ble_eq_true rfl) ⟨(Nat.le_of_ble_eq_true rfl), (Nat.le_of_ble_eq_true rfl)⟩ dX4_priorityHere_26 rfl rfl ?_
      obtain ⟨x12, ex12, z13⟩ := bind_ex z9
      refine gq_ialoadI C (qn_m 297 (by decide) hN) (by decide) ex12 dX4_priorityHere_29 ?_
      refine gq_iload_n C dX4_priorityHere_30 rfl 1 rfl ?_
      obtain ⟨m14, z15, z16⟩ := bind_ex z13
      refine gq_join (k' := 0) (n' := 0) (pc' := 43) (lv' := [(0, .ref (eB E + 295)), (1, .int u1), (2, .int v2)]) (st' := []) (μ' := m14) ?_ (fun J43 => ?_)
      · refine gq_iinc (v := (v2 + 1)) (lv' := [(2, .int (v2 + 1)), (0, .ref (eB E + 295)), (1, .int u1)]) (q := 2) C dX4_priorityHere_43 rfl rfl (by decide) rfl ?_
        refine gq_goto (tgt := 10) C dX4_priorityHere_46 (by decide) ?_
        refine gq_widen (k' := 0) (n' := 0) (Nat.le_of_ble_eq_true rfl) (Nat.le_of_ble_eq_true rfl) (gq_sub [1, 2, 0] rfl ?_)
        exact ih _ _ _ z16 kk
      · rcases ite_ex z15 with ⟨c17, z18⟩ | ⟨c17, z18⟩
        · refine gq_icmp_ne_f (tgt := 43) C dX4_priorityHere_31 (by decide) c17 ?_
          refine gq_aload_n C dX4_priorityHere_34 rfl 0 rfl ?_
          refine gq_iconst (v := 3) C dX4_priorityHere_35 (by decide) ?_
          refine gq_aload_n C dX4_priorityHere_36 rfl 0 rfl ?_
          refine gq_get5 C (qn_m 295 (by decide) hN) (by decide) 18 (by decide) wk_6_180 rfl dX4_priorityHere_37 ?_
          obtain ⟨m21, eo20, z19⟩ := bind_ex z18
          refine gq_V (As := [.int (3 : Int32), .int (μ.1 295 18)]) (rest := []) (j := 5) C (c_X4_fail hN  eo20) (qn_m 295 (by decide) hN) (by decide) (by decide) rfl wk_7_63 wk_7_65 ws_X4_fail wk_1_9 wk_7_66 hd_X4_fail ⟨(Nat.le_of_ble_eq_true rfl), (Nat.le_of_ble_eq_true rfl)⟩ (Nat.le_of_ble_eq_true rfl) ⟨(Nat.le_of_ble_eq_true rfl), (Nat.le_of_ble_eq_true rfl)⟩ dX4_priorityHere_40 rfl rfl ?_
          cases z19
          exact gq_widen (Nat.le_of_ble_eq_true rfl) (Nat.le_of_ble_eq_true rfl) (gq_sub [0, 1, 2] rfl J43)
        · refine gq_icmp_ne_t (tgt := 43) C dX4_priorityHere_31 (by decide) c17 ?_
          cases z18
          exact gq_widen (Nat.le_of_ble_eq_true rfl) (Nat.le_of_ble_eq_true rfl) (gq_sub [0, 1, 2] rfl J43)
set_option maxHeartbeats 4000000 in
set_option maxRecDepth 100000 in
theorem c_X4_priorityHere {l : Launch} {E : Ev} (hN : 311 ≤ eN E) {μ : Mm} {r : Int32} {μ' : Mm} (z0 : F_X4_priorityHere  μ = some (r, μ')) : Ct l E yX4_priorityHere (Cond.code yX4_priorityHere cX4_priorityHere 3 (some .int) :: GW) rm_X4_priorityHere [.ref (eB E + 295)] μ (some (.int r)) μ' := by
  refine ct_of (by decide) (Nat.le_of_ble_eq_true rfl) (fun p e s m args below meth c C hr => ?_)
  have C : Cq E p s m args meth c cX4_priorityHere 3 RX4 := C
  refine gq_lv (lv' := [(0, .ref (eB E + 295))]) rfl ?_
  unfold F_X4_priorityHere at z0
  refine gq_aload_n C dX4_priorityHere_0 rfl 0 rfl ?_
  refine gq_iconst (v := 1) C dX4_priorityHere_1 (by decide) ?_
  refine gq_bipush (v := 99) C dX4_priorityHere_2 (by decide) ?_
  obtain ⟨⟨x3, m4⟩, eo2, z1⟩ := bind_ex z0
  dsimp only at z1
  refine gq_V (As := [.int (1 : Int32), .int (99 : Int32)]) (rest := []) (j := 5) C (c_X4_number hN  eo2) (qn_m 295 (by decide) hN) (by decide) (by decide) rfl wk_7_67 wk_7_69 ws_X4_number wk_1_9 wk_7_70 hd_X4_number ⟨(Nat.le_of_ble_eq_true rfl), (Nat.le_of_ble_eq_true rfl)⟩ (Nat.le_of_ble_eq_true rfl) ⟨(Nat.le_of_ble_eq_true rfl), (Nat.le_of_ble_eq_true rfl)⟩ dX4_priorityHere_4 rfl rfl ?_
  refine gq_istore_n (lv' := [(1, .int x3), (0, .ref (eB E + 295))]) C dX4_priorityHere_7 rfl (by decide) rfl ?_
  refine gq_iconst (v := 0) C dX4_priorityHere_8 (by decide) ?_
  refine gq_istore_n (lv' := [(2, .int (0 : Int32)), (1, .int x3), (0, .ref (eB E + 295))]) C dX4_priorityHere_9 rfl (by decide) rfl ?_
  obtain ⟨m25, eo24, z23⟩ := bind_ex z1
  refine gq_widen (k' := 0) (n' := 0) (Nat.le_of_ble_eq_true rfl) (Nat.le_of_ble_eq_true rfl) (gq_sub [2, 1, 0] rfl ?_)
  refine l_X4_priorityHere_10 hN C  qFuel _ _ _ eo24 ?_
  refine gq_iload_n C dX4_priorityHere_49 rfl 0 rfl ?_
  cases z23
  exact gq_iret C hr dX4_priorityHere_50 (Nat.le_of_ble_eq_true rfl) (Nat.le_of_ble_eq_true rfl)
abbrev rm_X4_rightLine : Room := { frames := 7, cells := 0, slots := 0, locals := 232 }
def F_X4_rightLine (p1 : Int32) (μ : Mm) : Option Mm :=
  (F_X4_isRoom (2 : Int32) (10 : Int32) p1 μ).bind fun o2 =>
  if o2.1 = 0 then
  (some o2.2)
  else
  ((some (uI o2.2 295 19 (1 : Int32))).bind fun m7 =>
  (aI m7 297 (2 : Int32)).bind fun x9 =>
  (F_X4_rightAt x9 (0 : Int32) m7).bind fun o12 =>
  (F_X4_accountHere  m7).bind fun o15 =>
  (sI o15.2 297 o12 o15.1).bind fun m18 =>
  (F_X4_reachHere (0 : Int32) m18).bind fun o21 =>
  (F_X4_rightAt x9 (1 : Int32) o21.2).bind fun o25 =>
  (sI o21.2 297 o25 o21.1).bind fun m27 =>
  (F_X4_rightAt x9 (2 : Int32) m27).bind fun o30 =>
  (F_X4_priorityHere  m27).bind fun o33 =>
  (sI o33.2 297 o30 o33.1).bind fun m36 =>
  (F_X4_rightAt x9 (3 : Int32) m36).bind fun o39 =>
  (F_X4_number (1 : Int32) (999 : Int32) m36).bind fun o42 =>
  (sI o42.2 297 o39 o42.1).bind fun m45 =>
  (F_X4_rightAt x9 (5 : Int32) m45).bind fun o48 =>
  (sI m45 297 o48 o21.1).bind fun m50 =>
  (F_X4_accept 6 m50).bind fun o53 =>
  (if o53.1 = 0 then
  (some o53.2)
  else
  ((F_X4_rightAt x9 (4 : Int32) o53.2).bind fun o62 =>
  (F_X4_number (0 : Int32) (90 : Int32) o53.2).bind fun o65 =>
  (sI o65.2 297 o62 o65.1).bind fun m68 =>
  (F_X4_rightAt x9 (5 : Int32) m68).bind fun o71 =>
  (F_X4_reachHere o21.1 m68).bind fun o74 =>
  (sI o74.2 297 o71 o74.1).bind fun m77 =>
  some m77)).bind fun o79 =>
  (F_X4_accept 7 o79).bind fun o81 =>
  (if o81.1 = 0 then
  (some o81.2)
  else
  ((F_X4_rightAt x9 (6 : Int32) o81.2).bind fun o90 =>
  (F_X4_number (0 : Int32) (100 : Int32) o81.2).bind fun o93 =>
  (sI o93.2 297 o90 o93.1).bind fun m96 =>
  some m96)).bind fun o98 =>
  (aI o98 297 (2 : Int32)).bind fun x99 =>
  (sI o98 297 (2 : Int32) (x99 + (1 : Int32))).bind fun m101 =>
  some m101)
set_option maxHeartbeats 4000000 in
set_option maxRecDepth 100000 in
theorem c_X4_rightLine {l : Launch} {E : Ev} (hN : 311 ≤ eN E) {p1 : Int32} {μ : Mm} {μ' : Mm} (z0 : F_X4_rightLine p1 μ = some μ') : Ct l E yX4_rightLine (Cond.code yX4_rightLine cX4_rightLine 4 none :: GW) rm_X4_rightLine [.ref (eB E + 295), .int p1] μ none μ' := by
  refine ct_of (by decide) (Nat.le_of_ble_eq_true rfl) (fun p e s m args below meth c C hr => ?_)
  have C : Cq E p s m args meth c cX4_rightLine 4 RX4 := C
  refine gq_lv (lv' := [(0, .ref (eB E + 295)), (1, .int p1)]) rfl ?_
  unfold F_X4_rightLine at z0
  refine gq_aload_n C dX4_rightLine_0 rfl 0 rfl ?_
  refine gq_iconst (v := 2) C dX4_rightLine_1 (by decide) ?_
  refine gq_bipush (v := 10) C dX4_rightLine_2 (by decide) ?_
  refine gq_iload_n C dX4_rightLine_4 rfl 1 rfl ?_
  obtain ⟨⟨x3, m4⟩, eo2, z1⟩ := bind_ex z0
  dsimp only at z1
  refine gq_V (As := [.int (2 : Int32), .int (10 : Int32), .int p1]) (rest := []) (j := 5) C (c_X4_isRoom hN  eo2) (qn_m 295 (by decide) hN) (by decide) (by decide) rfl wk_7_59 wk_7_61 ws_X4_isRoom wk_1_9 wk_7_62 hd_X4_isRoom ⟨(Nat.le_of_ble_eq_true rfl), (Nat.le_of_ble_eq_true rfl)⟩ (Nat.le_of_ble_eq_true rfl) ⟨(Nat.le_of_ble_eq_true rfl), (Nat.le_of_ble_eq_true rfl)⟩ dX4_rightLine_5 rfl rfl ?_
  rcases ite_ex z1 with ⟨c5, z6⟩ | ⟨c5, z6⟩
  · refine gq_if_ne_f (tgt := 12) C dX4_rightLine_8 (by decide) c5 ?_
    cases z6
    exact gq_vret C hr dX4_rightLine_11 (Nat.le_of_ble_eq_true rfl) (Nat.le_of_ble_eq_true rfl)
  · refine gq_if_ne_t (tgt := 12) C dX4_rightLine_8 (by decide) c5 ?_
    refine gq_aload_n C dX4_rightLine_12 rfl 0 rfl ?_
    refine gq_iconst (v := 1) C dX4_rightLine_13 (by decide) ?_
    obtain ⟨m7, em7, z8⟩ := bind_ex z6
    refine gq_put5_19 C (qn_m 295 (by decide) hN) (by decide) wk_6_181 rfl rfl (Option.some.inj em7).symm dX4_rightLine_14 ?_
    refine gq_aload_n C dX4_rightLine_17 rfl 0 rfl ?_
    refine gq_get5 C (qn_m 295 (by decide) hN) (by decide) 2 (by decide) wk_6_164 rfl dX4_rightLine_18 ?_
    refine gq_iconst (v := 2) C dX4_rightLine_21 (by decide) ?_
    obtain ⟨x9, ex9, z10⟩ := bind_ex z8
    refine gq_ialoadI C (qn_m 297 (by decide) hN) (by decide) ex9 dX4_rightLine_22 ?_
    refine gq_istore_n (lv' := [(2, .int x9), (0, .ref (eB E + 295)), (1, .int p1)]) C dX4_rightLine_23 rfl (by decide) rfl ?_
    refine gq_aload_n C dX4_rightLine_24 rfl 1 rfl ?_
    refine gq_get5 C (qn_m 295 (by decide) hN) (by decide) 2 (by decide) wk_6_164 rfl dX4_rightLine_25 ?_
    refine gq_iload_n C dX4_rightLine_28 rfl 0 rfl ?_
    refine gq_iconst (v := 0) C dX4_rightLine_29 (by decide) ?_
    obtain ⟨x13, eo12, z11⟩ := bind_ex z10
    refine gq_S (As := [.int x9, .int (0 : Int32)]) (rest := [.ref (eB E + 297)]) C (c_X4_rightAt hN  eo12) wk_7_88 wk_7_89 wk_1_9 wk_7_90 hd_X4_rightAt ⟨(Nat.le_of_ble_eq_true rfl), (Nat.le_of_ble_eq_true rfl)⟩ (Nat.le_of_ble_eq_true rfl) ⟨(Nat.le_of_ble_eq_true rfl), (Nat.le_of_ble_eq_true rfl)⟩ dX4_rightLine_30 rfl rfl ?_
    refine gq_aload_n C dX4_rightLine_33 rfl 1 rfl ?_
    obtain ⟨⟨x16, m17⟩, eo15, z14⟩ := bind_ex z11
    dsimp only at z14
    refine gq_V (As := []) (rest := [.int x13, .ref (eB E + 297)]) (j := 5) C (c_X4_accountHere hN  eo15) (qn_m 295 (by decide) hN) (by decide) (by decide) rfl wk_7_91 wk_7_93 ws_X4_accountHere wk_1_9 wk_7_94 hd_X4_accountHere ⟨(Nat.le_of_ble_eq_true rfl), (Nat.le_of_ble_eq_true rfl)⟩ (Nat.le_of_ble_eq_true rfl) ⟨(Nat.le_of_ble_eq_true rfl), (Nat.le_of_ble_eq_true rfl)⟩ dX4_rightLine_34 rfl rfl ?_
    obtain ⟨m18, em18, z19⟩ := bind_ex z14
    refine gq_iastore C (qn_m 297 (by decide) hN) (by decide) em18 dX4_rightLine_37 ?_
    refine gq_aload_n C dX4_rightLine_38 rfl 1 rfl ?_
    refine gq_iconst (v := 0) C dX4_rightLine_39 (by decide) ?_
    obtain ⟨⟨x22, m23⟩, eo21, z20⟩ := bind_ex z19
    dsimp only at z20
    refine gq_V (As := [.int (0 : Int32)]) (rest := []) (j := 5) C (c_X4_reachHere hN  eo21) (qn_m 295 (by decide) hN) (by decide) (by decide) rfl wk_7_95 wk_7_97 ws_X4_reachHere wk_1_9 wk_7_98 hd_X4_reachHere ⟨(Nat.le_of_ble_eq_true rfl), (Nat.le_of_ble_eq_true rfl)⟩ (Nat.le_of_ble_eq_true rfl) ⟨(Nat.le_of_ble_eq_true rfl), (Nat.le_of_ble_eq_true rfl)⟩ dX4_rightLine_40 rfl rfl ?_
    refine gq_istore_n (lv' := [(3, .int x22), (2, .int x9), (0, .ref (eB E + 295)), (1, .int p1)]) C dX4_rightLine_43 rfl (by decide) rfl ?_
    refine gq_aload_n C dX4_rightLine_44 rfl 2 rfl ?_
    refine gq_get5 C (qn_m 295 (by decide) hN) (by decide) 2 (by decide) wk_6_164 rfl dX4_rightLine_45 ?_
    refine gq_iload_n C dX4_rightLine_48 rfl 1 rfl ?_
    refine gq_iconst (v := 1) C dX4_rightLine_49 (by decide) ?_
    obtain ⟨x26, eo25, z24⟩ := bind_ex z20
    refine gq_S (As := [.int x9, .int (1 : Int32)]) (rest := [.ref (eB E + 297)]) C (c_X4_rightAt hN  eo25) wk_7_88 wk_7_89 wk_1_9 wk_7_90 hd_X4_rightAt ⟨(Nat.le_of_ble_eq_true rfl), (Nat.le_of_ble_eq_true rfl)⟩ (Nat.le_of_ble_eq_true rfl) ⟨(Nat.le_of_ble_eq_true rfl), (Nat.le_of_ble_eq_true rfl)⟩ dX4_rightLine_50 rfl rfl ?_
    refine gq_iload_n C dX4_rightLine_53 rfl 0 rfl ?_
    obtain ⟨m27, em27, z28⟩ := bind_ex z24
    refine gq_iastore C (qn_m 297 (by decide) hN) (by decide) em27 dX4_rightLine_54 ?_
    refine gq_aload_n C dX4_rightLine_55 rfl 2 rfl ?_
    refine gq_get5 C (qn_m 295 (by decide) hN) (by decide) 2 (by decide) wk_6_164 rfl dX4_rightLine_56 ?_
    refine gq_iload_n C dX4_rightLine_59 rfl 1 rfl ?_
    refine gq_iconst (v := 2) C dX4_rightLine_60 (by decide) ?_
    obtain ⟨x31, eo30, z29⟩ := bind_ex z28
    refine gq_S (As := [.int x9, .int (2 : Int32)]) (rest := [.ref (eB E + 297)]) C (c_X4_rightAt hN  eo30) wk_7_88 wk_7_89 wk_1_9 wk_7_90 hd_X4_rightAt ⟨(Nat.le_of_ble_eq_true rfl), (Nat.le_of_ble_eq_true rfl)⟩ (Nat.le_of_ble_eq_true rfl) ⟨(Nat.le_of_ble_eq_true rfl), (Nat.le_of_ble_eq_true rfl)⟩ dX4_rightLine_61 rfl rfl ?_
    refine gq_aload_n C dX4_rightLine_64 rfl 2 rfl ?_
    obtain ⟨⟨x34, m35⟩, eo33, z32⟩ := bind_ex z29
    dsimp only at z32
    refine gq_V (As := []) (rest := [.int x31, .ref (eB E + 297)]) (j := 5) C (c_X4_priorityHere hN  eo33) (qn_m 295 (by decide) hN) (by decide) (by decide) rfl wk_7_99 wk_7_101 ws_X4_priorityHere wk_1_9 wk_7_102 hd_X4_priorityHere ⟨(Nat.le_of_ble_eq_true rfl), (Nat.le_of_ble_eq_true rfl)⟩ (Nat.le_of_ble_eq_true rfl) ⟨(Nat.le_of_ble_eq_true rfl), (Nat.le_of_ble_eq_true rfl)⟩ dX4_rightLine_65 rfl rfl ?_
    obtain ⟨m36, em36, z37⟩ := bind_ex z32
    refine gq_iastore C (qn_m 297 (by decide) hN) (by decide) em36 dX4_rightLine_68 ?_
    refine gq_aload_n C dX4_rightLine_69 rfl 2 rfl ?_
    refine gq_get5 C (qn_m 295 (by decide) hN) (by decide) 2 (by decide) wk_6_164 rfl dX4_rightLine_70 ?_
    refine gq_iload_n C dX4_rightLine_73 rfl 1 rfl ?_
    refine gq_iconst (v := 3) C dX4_rightLine_74 (by decide) ?_
    obtain ⟨x40, eo39, z38⟩ := bind_ex z37
    refine gq_S (As := [.int x9, .int (3 : Int32)]) (rest := [.ref (eB E + 297)]) C (c_X4_rightAt hN  eo39) wk_7_88 wk_7_89 wk_1_9 wk_7_90 hd_X4_rightAt ⟨(Nat.le_of_ble_eq_true rfl), (Nat.le_of_ble_eq_true rfl)⟩ (Nat.le_of_ble_eq_true rfl) ⟨(Nat.le_of_ble_eq_true rfl), (Nat.le_of_ble_eq_true rfl)⟩ dX4_rightLine_75 rfl rfl ?_
    refine gq_aload_n C dX4_rightLine_78 rfl 2 rfl ?_
    refine gq_iconst (v := 1) C dX4_rightLine_79 (by decide) ?_
    refine gq_sipush (v := 999) C dX4_rightLine_80 (by decide) ?_
    obtain ⟨⟨x43, m44⟩, eo42, z41⟩ := bind_ex z38
    dsimp only at z41
    refine gq_V (As := [.int (1 : Int32), .int (999 : Int32)]) (rest := [.int x40, .ref (eB E + 297)]) (j := 5) C (c_X4_number hN  eo42) (qn_m 295 (by decide) hN) (by decide) (by decide) rfl wk_7_67 wk_7_69 ws_X4_number wk_1_9 wk_7_70 hd_X4_number ⟨(Nat.le_of_ble_eq_true rfl), (Nat.le_of_ble_eq_true rfl)⟩ (Nat.le_of_ble_eq_true rfl) ⟨(Nat.le_of_ble_eq_true rfl), (Nat.le_of_ble_eq_true rfl)⟩ dX4_rightLine_83 rfl rfl ?_
    obtain ⟨m45, em45, z46⟩ := bind_ex z41
    refine gq_iastore C (qn_m 297 (by decide) hN) (by decide) em45 dX4_rightLine_86 ?_
    refine gq_aload_n C dX4_rightLine_87 rfl 2 rfl ?_
    refine gq_get5 C (qn_m 295 (by decide) hN) (by decide) 2 (by decide) wk_6_164 rfl dX4_rightLine_88 ?_
    refine gq_iload_n C dX4_rightLine_91 rfl 1 rfl ?_
    refine gq_iconst (v := 5) C dX4_rightLine_92 (by decide) ?_
    obtain ⟨x49, eo48, z47⟩ := bind_ex z46
    refine gq_S (As := [.int x9, .int (5 : Int32)]) (rest := [.ref (eB E + 297)]) C (c_X4_rightAt hN  eo48) wk_7_88 wk_7_89 wk_1_9 wk_7_90 hd_X4_rightAt ⟨(Nat.le_of_ble_eq_true rfl), (Nat.le_of_ble_eq_true rfl)⟩ (Nat.le_of_ble_eq_true rfl) ⟨(Nat.le_of_ble_eq_true rfl), (Nat.le_of_ble_eq_true rfl)⟩ dX4_rightLine_93 rfl rfl ?_
    refine gq_iload_n C dX4_rightLine_96 rfl 0 rfl ?_
    obtain ⟨m50, em50, z51⟩ := bind_ex z47
    refine gq_iastore C (qn_m 297 (by decide) hN) (by decide) em50 dX4_rightLine_97 ?_
    refine gq_aload_n C dX4_rightLine_98 rfl 2 rfl ?_
    refine gq_ldcS (j := 6) (tx := "returns") C (by decide +kernel) dX4_rightLine_99 ?_
    obtain ⟨⟨x54, m55⟩, eo53, z52⟩ := bind_ex z51
    dsimp only at z52
    refine gq_V (As := [.ref (eK E 6)]) (rest := []) (j := 5) C (c_X4_accept hN (by decide) eo53) (qn_m 295 (by decide) hN) (by decide) (by decide) rfl wk_7_46 wk_7_48 ws_X4_accept wk_1_9 wk_7_49 hd_X4_accept ⟨(Nat.le_of_ble_eq_true rfl), (Nat.le_of_ble_eq_true rfl)⟩ (Nat.le_of_ble_eq_true rfl) ⟨(Nat.le_of_ble_eq_true rfl), (Nat.le_of_ble_eq_true rfl)⟩ dX4_rightLine_101 rfl rfl ?_
    obtain ⟨m56, z57, z58⟩ := bind_ex z52
    refine gq_join (k' := 0) (n' := 0) (pc' := 139) (lv' := [(0, .ref (eB E + 295)), (2, .int x9)]) (st' := []) (μ' := m56) ?_ (fun J139 => ?_)
    · refine gq_aload_n C dX4_rightLine_139 rfl 0 rfl ?_
      refine gq_ldcS (j := 7) (tx := "keeps") C (by decide +kernel) dX4_rightLine_140 ?_
      obtain ⟨⟨x82, m83⟩, eo81, z80⟩ := bind_ex z58
      dsimp only at z80
      refine gq_V (As := [.ref (eK E 7)]) (rest := []) (j := 5) C (c_X4_accept hN (by decide) eo81) (qn_m 295 (by decide) hN) (by decide) (by decide) rfl wk_7_46 wk_7_48 ws_X4_accept wk_1_9 wk_7_49 hd_X4_accept ⟨(Nat.le_of_ble_eq_true rfl), (Nat.le_of_ble_eq_true rfl)⟩ (Nat.le_of_ble_eq_true rfl) ⟨(Nat.le_of_ble_eq_true rfl), (Nat.le_of_ble_eq_true rfl)⟩ dX4_rightLine_142 rfl rfl ?_
      obtain ⟨m84, z85, z86⟩ := bind_ex z80
      refine gq_join (k' := 0) (n' := 0) (pc' := 166) (lv' := [(0, .ref (eB E + 295))]) (st' := []) (μ' := m84) ?_ (fun J166 => ?_)
      · refine gq_aload_n C dX4_rightLine_166 rfl 0 rfl ?_
        refine gq_get5 C (qn_m 295 (by decide) hN) (by decide) 2 (by decide) wk_6_164 rfl dX4_rightLine_167 ?_
        refine gq_iconst (v := 2) C dX4_rightLine_170 (by decide) ?_
        refine gq_dup2 C dX4_rightLine_171 ?_
        obtain ⟨x99, ex99, z100⟩ := bind_ex z86
        refine gq_ialoadI C (qn_m 297 (by decide) hN) (by decide) ex99 dX4_rightLine_172 ?_
        refine gq_iconst (v := 1) C dX4_rightLine_173 (by decide) ?_
        refine gq_iadd C dX4_rightLine_174 ?_
        obtain ⟨m101, em101, z102⟩ := bind_ex z100
        refine gq_iastore C (qn_m 297 (by decide) hN) (by decide) em101 dX4_rightLine_175 ?_
        cases z102
        exact gq_vret C hr dX4_rightLine_176 (Nat.le_of_ble_eq_true rfl) (Nat.le_of_ble_eq_true rfl)
      · rcases ite_ex z85 with ⟨c87, z88⟩ | ⟨c87, z88⟩
        · refine gq_if_eq_t (tgt := 166) C dX4_rightLine_145 (by decide) c87 ?_
          cases z88
          exact gq_widen (Nat.le_of_ble_eq_true rfl) (Nat.le_of_ble_eq_true rfl) (gq_sub [0] rfl J166)
        · refine gq_if_eq_f (tgt := 166) C dX4_rightLine_145 (by decide) c87 ?_
          refine gq_aload_n C dX4_rightLine_148 rfl 0 rfl ?_
          refine gq_get5 C (qn_m 295 (by decide) hN) (by decide) 2 (by decide) wk_6_164 rfl dX4_rightLine_149 ?_
          refine gq_iload_n C dX4_rightLine_152 rfl 1 rfl ?_
          refine gq_bipush (v := 6) C dX4_rightLine_153 (by decide) ?_
          obtain ⟨x91, eo90, z89⟩ := bind_ex z88
          refine gq_S (As := [.int x9, .int (6 : Int32)]) (rest := [.ref (eB E + 297)]) C (c_X4_rightAt hN  eo90) wk_7_88 wk_7_89 wk_1_9 wk_7_90 hd_X4_rightAt ⟨(Nat.le_of_ble_eq_true rfl), (Nat.le_of_ble_eq_true rfl)⟩ (Nat.le_of_ble_eq_true rfl) ⟨(Nat.le_of_ble_eq_true rfl), (Nat.le_of_ble_eq_true rfl)⟩ dX4_rightLine_155 rfl rfl ?_
          refine gq_aload_n C dX4_rightLine_158 rfl 0 rfl ?_
          refine gq_iconst (v := 0) C dX4_rightLine_159 (by decide) ?_
          refine gq_bipush (v := 100) C dX4_rightLine_160 (by decide) ?_
          obtain ⟨⟨x94, m95⟩, eo93, z92⟩ := bind_ex z89
          dsimp only at z92
          refine gq_V (As := [.int (0 : Int32), .int (100 : Int32)]) (rest := [.int x91, .ref (eB E + 297)]) (j := 5) C (c_X4_number hN  eo93) (qn_m 295 (by decide) hN) (by decide) (by decide) rfl wk_7_67 wk_7_69 ws_X4_number wk_1_9 wk_7_70 hd_X4_number ⟨(Nat.le_of_ble_eq_true rfl), (Nat.le_of_ble_eq_true rfl)⟩ (Nat.le_of_ble_eq_true rfl) ⟨(Nat.le_of_ble_eq_true rfl), (Nat.le_of_ble_eq_true rfl)⟩ dX4_rightLine_162 rfl rfl ?_
          obtain ⟨m96, em96, z97⟩ := bind_ex z92
          refine gq_iastore C (qn_m 297 (by decide) hN) (by decide) em96 dX4_rightLine_165 ?_
          cases z97
          exact gq_widen (Nat.le_of_ble_eq_true rfl) (Nat.le_of_ble_eq_true rfl) (gq_sub [0] rfl J166)
    · rcases ite_ex z57 with ⟨c59, z60⟩ | ⟨c59, z60⟩
      · refine gq_if_eq_t (tgt := 139) C dX4_rightLine_104 (by decide) c59 ?_
        cases z60
        exact gq_widen (Nat.le_of_ble_eq_true rfl) (Nat.le_of_ble_eq_true rfl) (gq_sub [2, 1] rfl J139)
      · refine gq_if_eq_f (tgt := 139) C dX4_rightLine_104 (by decide) c59 ?_
        refine gq_aload_n C dX4_rightLine_107 rfl 2 rfl ?_
        refine gq_get5 C (qn_m 295 (by decide) hN) (by decide) 2 (by decide) wk_6_164 rfl dX4_rightLine_108 ?_
        refine gq_iload_n C dX4_rightLine_111 rfl 1 rfl ?_
        refine gq_iconst (v := 4) C dX4_rightLine_112 (by decide) ?_
        obtain ⟨x63, eo62, z61⟩ := bind_ex z60
        refine gq_S (As := [.int x9, .int (4 : Int32)]) (rest := [.ref (eB E + 297)]) C (c_X4_rightAt hN  eo62) wk_7_88 wk_7_89 wk_1_9 wk_7_90 hd_X4_rightAt ⟨(Nat.le_of_ble_eq_true rfl), (Nat.le_of_ble_eq_true rfl)⟩ (Nat.le_of_ble_eq_true rfl) ⟨(Nat.le_of_ble_eq_true rfl), (Nat.le_of_ble_eq_true rfl)⟩ dX4_rightLine_113 rfl rfl ?_
        refine gq_aload_n C dX4_rightLine_116 rfl 2 rfl ?_
        refine gq_iconst (v := 0) C dX4_rightLine_117 (by decide) ?_
        refine gq_bipush (v := 90) C dX4_rightLine_118 (by decide) ?_
        obtain ⟨⟨x66, m67⟩, eo65, z64⟩ := bind_ex z61
        dsimp only at z64
        refine gq_V (As := [.int (0 : Int32), .int (90 : Int32)]) (rest := [.int x63, .ref (eB E + 297)]) (j := 5) C (c_X4_number hN  eo65) (qn_m 295 (by decide) hN) (by decide) (by decide) rfl wk_7_67 wk_7_69 ws_X4_number wk_1_9 wk_7_70 hd_X4_number ⟨(Nat.le_of_ble_eq_true rfl), (Nat.le_of_ble_eq_true rfl)⟩ (Nat.le_of_ble_eq_true rfl) ⟨(Nat.le_of_ble_eq_true rfl), (Nat.le_of_ble_eq_true rfl)⟩ dX4_rightLine_120 rfl rfl ?_
        obtain ⟨m68, em68, z69⟩ := bind_ex z64
        refine gq_iastore C (qn_m 297 (by decide) hN) (by decide) em68 dX4_rightLine_123 ?_
        refine gq_aload_n C dX4_rightLine_124 rfl 2 rfl ?_
        refine gq_get5 C (qn_m 295 (by decide) hN) (by decide) 2 (by decide) wk_6_164 rfl dX4_rightLine_125 ?_
        refine gq_iload_n C dX4_rightLine_128 rfl 1 rfl ?_
        refine gq_iconst (v := 5) C dX4_rightLine_129 (by decide) ?_
        obtain ⟨x72, eo71, z70⟩ := bind_ex z69
        refine gq_S (As := [.int x9, .int (5 : Int32)]) (rest := [.ref (eB E + 297)]) C (c_X4_rightAt hN  eo71) wk_7_88 wk_7_89 wk_1_9 wk_7_90 hd_X4_rightAt ⟨(Nat.le_of_ble_eq_true rfl), (Nat.le_of_ble_eq_true rfl)⟩ (Nat.le_of_ble_eq_true rfl) ⟨(Nat.le_of_ble_eq_true rfl), (Nat.le_of_ble_eq_true rfl)⟩ dX4_rightLine_130 rfl rfl ?_
        refine gq_aload_n C dX4_rightLine_133 rfl 2 rfl ?_
        refine gq_iload_n C dX4_rightLine_134 rfl 0 rfl ?_
        obtain ⟨⟨x75, m76⟩, eo74, z73⟩ := bind_ex z70
        dsimp only at z73
        refine gq_V (As := [.int x22]) (rest := [.int x72, .ref (eB E + 297)]) (j := 5) C (c_X4_reachHere hN  eo74) (qn_m 295 (by decide) hN) (by decide) (by decide) rfl wk_7_95 wk_7_97 ws_X4_reachHere wk_1_9 wk_7_98 hd_X4_reachHere ⟨(Nat.le_of_ble_eq_true rfl), (Nat.le_of_ble_eq_true rfl)⟩ (Nat.le_of_ble_eq_true rfl) ⟨(Nat.le_of_ble_eq_true rfl), (Nat.le_of_ble_eq_true rfl)⟩ dX4_rightLine_135 rfl rfl ?_
        obtain ⟨m77, em77, z78⟩ := bind_ex z73
        refine gq_iastore C (qn_m 297 (by decide) hN) (by decide) em77 dX4_rightLine_138 ?_
        cases z78
        exact gq_widen (Nat.le_of_ble_eq_true rfl) (Nat.le_of_ble_eq_true rfl) (gq_sub [2, 1] rfl J139)
abbrev rm_X4_tradeFields : Room := { frames := 4, cells := 0, slots := 0, locals := 85 }
def F_X4_tradeFields_23 (u1 : Int32) (u2 : Int32) : Nat → Int32 → Mm → Option Mm
  | 0, _, _ => none
  | n + 1, v3, μ =>
  (aI μ 297 (4 : Int32)).bind fun x9 =>
  if x9 ≤ v3 then
  (some μ)
  else
  (if u2 = 0 then
  ((F_X4_failed  μ).bind fun o16 =>
  if o16 = 0 then
  ((aI μ 297 ((206 : Int32) + ((6 : Int32) * v3))).bind fun x20 =>
  (aI μ 297 (u1 + (0 : Int32))).bind fun x22 =>
  (if x20 = x22 then
  ((F_X4_fail (3 : Int32) (μ.1 295 18) μ).bind fun o30 =>
  some o30)
  else
  (some μ)).bind fun o32 =>
  F_X4_tradeFields_23 u1 u2 n (v3 + 1) o32)
  else
  (some μ))
  else
  (some μ))
def F_X4_tradeFields (p1 : Int32) (p2 : Int32) (μ : Mm) : Option Mm :=
  (aI μ 297 (2 : Int32)).bind fun x1 =>
  (F_X4_number (0 : Int32) (x1 - (1 : Int32)) μ).bind fun o4 =>
  (sI o4.2 297 (p1 + (0 : Int32)) o4.1).bind fun m7 =>
  (F_X4_tradeFields_23 p1 p2 qFuel (0 : Int32) m7).bind fun o34 =>
  (F_X4_accountHere  o34).bind fun o37 =>
  (sI o37.2 297 (p1 + (1 : Int32)) o37.1).bind fun m40 =>
  (F_X4_reachHere (0 : Int32) m40).bind fun o43 =>
  (sI o43.2 297 (p1 + (2 : Int32)) o43.1).bind fun m46 =>
  (if p2 = 0 then
  (some (200 : Int32))
  else
  (some (999 : Int32))).bind fun o53 =>
  (F_X4_number (1 : Int32) o53 m46).bind fun o55 =>
  (sI o55.2 297 (p1 + (3 : Int32)) o55.1).bind fun m58 =>
  (if p2 = 0 then
  (some (999 : Int32))
  else
  (some (99 : Int32))).bind fun o65 =>
  (F_X4_number (0 : Int32) o65 m58).bind fun o67 =>
  (sI o67.2 297 (p1 + (4 : Int32)) o67.1).bind fun m70 =>
  (if p2 = 0 then
  ((F_X4_number (0 : Int32) (99 : Int32) m70).bind fun o79 =>
  some (o79.1, o79.2))
  else
  ((F_X4_number (1 : Int32) (36 : Int32) m70).bind fun o83 =>
  some (o83.1, o83.2))).bind fun o86 =>
  (sI o86.2 297 (p1 + (5 : Int32)) o86.1).bind fun m87 =>
  some m87
set_option maxHeartbeats 4000000 in
set_option maxRecDepth 100000 in
theorem l_X4_tradeFields_23 {l : Launch} {E : Ev} (hN : 311 ≤ eN E) {p : Program} {e : Env} {s : State} {m : MethodId} {args : Array Value} {below : List Frame} {meth : Method} {c : Code} (C : Cq E p s m args meth c cX4_tradeFields 4 RX4) {Q : State → Prop} {u1 : Int32} {u2 : Int32} : ∀ (n : Nat) (v3 : Int32) (μ : Mm) (μx : Mm), F_X4_tradeFields_23 u1 u2 n v3 μ = some μx → Gq E p l e rm_X4_tradeFields s m args below meth c 0 0 4 Q 83 [(0, .ref (eB E + 295)), (1, .int u1), (2, .int u2)] [] μx → Gq E p l e rm_X4_tradeFields s m args below meth c 0 0 4 Q 23 [(0, .ref (eB E + 295)), (1, .int u1), (2, .int u2), (3, .int v3)] [] μ := by
  intro n
  induction n with
  | zero =>
    intro v3 μ μx z0 kk
    rw [F_X4_tradeFields_23] at z0
    cases z0
  | succ n ih =>
    intro v3 μ μx z0 kk
    rw [F_X4_tradeFields_23] at z0
    refine gq_iload_n C dX4_tradeFields_23 rfl 3 rfl ?_
    refine gq_aload_n C dX4_tradeFields_24 rfl 0 rfl ?_
    refine gq_get5 C (qn_m 295 (by decide) hN) (by decide) 2 (by decide) wk_6_164 rfl dX4_tradeFields_25 ?_
    refine gq_iconst (v := 4) C dX4_tradeFields_28 (by decide) ?_
    obtain ⟨x9, ex9, z10⟩ := bind_ex z0
    refine gq_ialoadI C (qn_m 297 (by decide) hN) (by decide) ex9 dX4_tradeFields_29 ?_
    rcases ite_ex z10 with ⟨c11, z12⟩ | ⟨c11, z12⟩
    · refine gq_icmp_ge_t (tgt := 83) C dX4_tradeFields_30 (by decide) c11 ?_
      cases z12
      exact gq_widen (Nat.le_of_ble_eq_true rfl) (Nat.le_of_ble_eq_true rfl) (gq_sub [0, 1, 2] rfl kk)
    · refine gq_icmp_ge_f (tgt := 83) C dX4_tradeFields_30 (by decide) c11 ?_
      refine gq_iload_n C dX4_tradeFields_33 rfl 2 rfl ?_
      rcases ite_ex z12 with ⟨c13, z14⟩ | ⟨c13, z14⟩
      · refine gq_if_ne_f (tgt := 83) C dX4_tradeFields_34 (by decide) c13 ?_
        refine gq_aload_n C dX4_tradeFields_37 rfl 0 rfl ?_
        obtain ⟨x17, eo16, z15⟩ := bind_ex z14
        refine gq_V (As := []) (rest := []) (j := 5) C (c_X4_failed hN  eo16) (qn_m 295 (by decide) hN) (by decide) (by decide) rfl wk_7_29 wk_7_31 ws_X4_failed wk_1_9 wk_7_32 hd_X4_failed ⟨(Nat.le_of_ble_eq_true rfl), (Nat.le_of_ble_eq_true rfl)⟩ (Nat.le_of_ble_eq_true rfl) ⟨(Nat.le_of_ble_eq_true rfl), (Nat.le_of_ble_eq_true rfl)⟩ dX4_tradeFields_38 rfl rfl ?_
        rcases ite_ex z15 with ⟨c18, z19⟩ | ⟨c18, z19⟩
        · refine gq_if_ne_f (tgt := 83) C dX4_tradeFields_41 (by decide) c18 ?_
          refine gq_aload_n C dX4_tradeFields_44 rfl 0 rfl ?_
          refine gq_get5 C (qn_m 295 (by decide) hN) (by decide) 2 (by decide) wk_6_164 rfl dX4_tradeFields_45 ?_
          refine gq_sipush (v := 206) C dX4_tradeFields_48 (by decide) ?_
          refine gq_bipush (v := 6) C dX4_tradeFields_51 (by decide) ?_
          refine gq_iload_n C dX4_tradeFields_53 rfl 3 rfl ?_
          refine gq_imul C dX4_tradeFields_54 ?_
          refine gq_iadd C dX4_tradeFields_55 ?_
          obtain ⟨x20, ex20, z21⟩ := bind_ex z19
          refine gq_ialoadI C (qn_m 297 (by decide) hN) (by decide) ex20 dX4_tradeFields_56 ?_
          refine gq_aload_n C dX4_tradeFields_57 rfl 0 rfl ?_
          refine gq_get5 C (qn_m 295 (by decide) hN) (by decide) 2 (by decide) wk_6_164 rfl dX4_tradeFields_58 ?_
          refine gq_iload_n C dX4_tradeFields_61 rfl 1 rfl ?_
          refine gq_iconst (v := 0) C dX4_tradeFields_62 (by decide) ?_
          refine gq_iadd C dX4_tradeFields_63 ?_
          obtain ⟨x22, ex22, z23⟩ := bind_ex z21
          refine gq_ialoadI C (qn_m 297 (by decide) hN) (by decide) ex22 dX4_tradeFields_64 ?_
          obtain ⟨m24, z25, z26⟩ := bind_ex z23
          refine gq_join (k' := 0) (n' := 0) (pc' := 77) (lv' := [(0, .ref (eB E + 295)), (1, .int u1), (2, .int u2), (3, .int v3)]) (st' := []) (μ' := m24) ?_ (fun J77 => ?_)
          · refine gq_iinc (v := (v3 + 1)) (lv' := [(3, .int (v3 + 1)), (0, .ref (eB E + 295)), (1, .int u1), (2, .int u2)]) (q := 3) C dX4_tradeFields_77 rfl rfl (by decide) rfl ?_
            refine gq_goto (tgt := 23) C dX4_tradeFields_80 (by decide) ?_
            refine gq_widen (k' := 0) (n' := 0) (Nat.le_of_ble_eq_true rfl) (Nat.le_of_ble_eq_true rfl) (gq_sub [1, 2, 3, 0] rfl ?_)
            exact ih _ _ _ z26 kk
          · rcases ite_ex z25 with ⟨c27, z28⟩ | ⟨c27, z28⟩
            · refine gq_icmp_ne_f (tgt := 77) C dX4_tradeFields_65 (by decide) c27 ?_
              refine gq_aload_n C dX4_tradeFields_68 rfl 0 rfl ?_
              refine gq_iconst (v := 3) C dX4_tradeFields_69 (by decide) ?_
              refine gq_aload_n C dX4_tradeFields_70 rfl 0 rfl ?_
              refine gq_get5 C (qn_m 295 (by decide) hN) (by decide) 18 (by decide) wk_6_180 rfl dX4_tradeFields_71 ?_
              obtain ⟨m31, eo30, z29⟩ := bind_ex z28
              refine gq_V (As := [.int (3 : Int32), .int (μ.1 295 18)]) (rest := []) (j := 5) C (c_X4_fail hN  eo30) (qn_m 295 (by decide) hN) (by decide) (by decide) rfl wk_7_63 wk_7_65 ws_X4_fail wk_1_9 wk_7_66 hd_X4_fail ⟨(Nat.le_of_ble_eq_true rfl), (Nat.le_of_ble_eq_true rfl)⟩ (Nat.le_of_ble_eq_true rfl) ⟨(Nat.le_of_ble_eq_true rfl), (Nat.le_of_ble_eq_true rfl)⟩ dX4_tradeFields_74 rfl rfl ?_
              cases z29
              exact gq_widen (Nat.le_of_ble_eq_true rfl) (Nat.le_of_ble_eq_true rfl) (gq_sub [0, 1, 2, 3] rfl J77)
            · refine gq_icmp_ne_t (tgt := 77) C dX4_tradeFields_65 (by decide) c27 ?_
              cases z28
              exact gq_widen (Nat.le_of_ble_eq_true rfl) (Nat.le_of_ble_eq_true rfl) (gq_sub [0, 1, 2, 3] rfl J77)
        · refine gq_if_ne_t (tgt := 83) C dX4_tradeFields_41 (by decide) c18 ?_
          cases z19
          exact gq_widen (Nat.le_of_ble_eq_true rfl) (Nat.le_of_ble_eq_true rfl) (gq_sub [0, 1, 2] rfl kk)
      · refine gq_if_ne_t (tgt := 83) C dX4_tradeFields_34 (by decide) c13 ?_
        cases z14
        exact gq_widen (Nat.le_of_ble_eq_true rfl) (Nat.le_of_ble_eq_true rfl) (gq_sub [0, 1, 2] rfl kk)
set_option maxHeartbeats 4000000 in
set_option maxRecDepth 100000 in
theorem c_X4_tradeFields {l : Launch} {E : Ev} (hN : 311 ≤ eN E) {p1 : Int32} {p2 : Int32} {μ : Mm} {μ' : Mm} (z0 : F_X4_tradeFields p1 p2 μ = some μ') : Ct l E yX4_tradeFields (Cond.code yX4_tradeFields cX4_tradeFields 4 none :: GW) rm_X4_tradeFields [.ref (eB E + 295), .int p1, .int p2] μ none μ' := by
  refine ct_of (by decide) (Nat.le_of_ble_eq_true rfl) (fun p e s m args below meth c C hr => ?_)
  have C : Cq E p s m args meth c cX4_tradeFields 4 RX4 := C
  refine gq_lv (lv' := [(0, .ref (eB E + 295)), (1, .int p1), (2, .int p2)]) rfl ?_
  unfold F_X4_tradeFields at z0
  refine gq_aload_n C dX4_tradeFields_0 rfl 0 rfl ?_
  refine gq_get5 C (qn_m 295 (by decide) hN) (by decide) 2 (by decide) wk_6_164 rfl dX4_tradeFields_1 ?_
  refine gq_iload_n C dX4_tradeFields_4 rfl 1 rfl ?_
  refine gq_iconst (v := 0) C dX4_tradeFields_5 (by decide) ?_
  refine gq_iadd C dX4_tradeFields_6 ?_
  refine gq_aload_n C dX4_tradeFields_7 rfl 0 rfl ?_
  refine gq_iconst (v := 0) C dX4_tradeFields_8 (by decide) ?_
  refine gq_aload_n C dX4_tradeFields_9 rfl 0 rfl ?_
  refine gq_get5 C (qn_m 295 (by decide) hN) (by decide) 2 (by decide) wk_6_164 rfl dX4_tradeFields_10 ?_
  refine gq_iconst (v := 2) C dX4_tradeFields_13 (by decide) ?_
  obtain ⟨x1, ex1, z2⟩ := bind_ex z0
  refine gq_ialoadI C (qn_m 297 (by decide) hN) (by decide) ex1 dX4_tradeFields_14 ?_
  refine gq_iconst (v := 1) C dX4_tradeFields_15 (by decide) ?_
  refine gq_isub C dX4_tradeFields_16 ?_
  obtain ⟨⟨x5, m6⟩, eo4, z3⟩ := bind_ex z2
  dsimp only at z3
  refine gq_V (As := [.int (0 : Int32), .int (x1 - (1 : Int32))]) (rest := [.int (p1 + (0 : Int32)), .ref (eB E + 297)]) (j := 5) C (c_X4_number hN  eo4) (qn_m 295 (by decide) hN) (by decide) (by decide) rfl wk_7_67 wk_7_69 ws_X4_number wk_1_9 wk_7_70 hd_X4_number ⟨(Nat.le_of_ble_eq_true rfl), (Nat.le_of_ble_eq_true rfl)⟩ (Nat.le_of_ble_eq_true rfl) ⟨(Nat.le_of_ble_eq_true rfl), (Nat.le_of_ble_eq_true rfl)⟩ dX4_tradeFields_17 rfl rfl ?_
  obtain ⟨m7, em7, z8⟩ := bind_ex z3
  refine gq_iastore C (qn_m 297 (by decide) hN) (by decide) em7 dX4_tradeFields_20 ?_
  refine gq_iconst (v := 0) C dX4_tradeFields_21 (by decide) ?_
  refine gq_istore_n (lv' := [(3, .int (0 : Int32)), (0, .ref (eB E + 295)), (1, .int p1), (2, .int p2)]) C dX4_tradeFields_22 rfl (by decide) rfl ?_
  obtain ⟨m35, eo34, z33⟩ := bind_ex z8
  refine gq_widen (k' := 0) (n' := 0) (Nat.le_of_ble_eq_true rfl) (Nat.le_of_ble_eq_true rfl) (gq_sub [1, 2, 3, 0] rfl ?_)
  refine l_X4_tradeFields_23 hN C  qFuel _ _ _ eo34 ?_
  refine gq_aload_n C dX4_tradeFields_83 rfl 0 rfl ?_
  refine gq_get5 C (qn_m 295 (by decide) hN) (by decide) 2 (by decide) wk_6_164 rfl dX4_tradeFields_84 ?_
  refine gq_iload_n C dX4_tradeFields_87 rfl 1 rfl ?_
  refine gq_iconst (v := 1) C dX4_tradeFields_88 (by decide) ?_
  refine gq_iadd C dX4_tradeFields_89 ?_
  refine gq_aload_n C dX4_tradeFields_90 rfl 0 rfl ?_
  obtain ⟨⟨x38, m39⟩, eo37, z36⟩ := bind_ex z33
  dsimp only at z36
  refine gq_V (As := []) (rest := [.int (p1 + (1 : Int32)), .ref (eB E + 297)]) (j := 5) C (c_X4_accountHere hN  eo37) (qn_m 295 (by decide) hN) (by decide) (by decide) rfl wk_7_91 wk_7_93 ws_X4_accountHere wk_1_9 wk_7_94 hd_X4_accountHere ⟨(Nat.le_of_ble_eq_true rfl), (Nat.le_of_ble_eq_true rfl)⟩ (Nat.le_of_ble_eq_true rfl) ⟨(Nat.le_of_ble_eq_true rfl), (Nat.le_of_ble_eq_true rfl)⟩ dX4_tradeFields_91 rfl rfl ?_
  obtain ⟨m40, em40, z41⟩ := bind_ex z36
  refine gq_iastore C (qn_m 297 (by decide) hN) (by decide) em40 dX4_tradeFields_94 ?_
  refine gq_aload_n C dX4_tradeFields_95 rfl 0 rfl ?_
  refine gq_get5 C (qn_m 295 (by decide) hN) (by decide) 2 (by decide) wk_6_164 rfl dX4_tradeFields_96 ?_
  refine gq_iload_n C dX4_tradeFields_99 rfl 1 rfl ?_
  refine gq_iconst (v := 2) C dX4_tradeFields_100 (by decide) ?_
  refine gq_iadd C dX4_tradeFields_101 ?_
  refine gq_aload_n C dX4_tradeFields_102 rfl 0 rfl ?_
  refine gq_iconst (v := 0) C dX4_tradeFields_103 (by decide) ?_
  obtain ⟨⟨x44, m45⟩, eo43, z42⟩ := bind_ex z41
  dsimp only at z42
  refine gq_V (As := [.int (0 : Int32)]) (rest := [.int (p1 + (2 : Int32)), .ref (eB E + 297)]) (j := 5) C (c_X4_reachHere hN  eo43) (qn_m 295 (by decide) hN) (by decide) (by decide) rfl wk_7_95 wk_7_97 ws_X4_reachHere wk_1_9 wk_7_98 hd_X4_reachHere ⟨(Nat.le_of_ble_eq_true rfl), (Nat.le_of_ble_eq_true rfl)⟩ (Nat.le_of_ble_eq_true rfl) ⟨(Nat.le_of_ble_eq_true rfl), (Nat.le_of_ble_eq_true rfl)⟩ dX4_tradeFields_104 rfl rfl ?_
  obtain ⟨m46, em46, z47⟩ := bind_ex z42
  refine gq_iastore C (qn_m 297 (by decide) hN) (by decide) em46 dX4_tradeFields_107 ?_
  refine gq_aload_n C dX4_tradeFields_108 rfl 0 rfl ?_
  refine gq_get5 C (qn_m 295 (by decide) hN) (by decide) 2 (by decide) wk_6_164 rfl dX4_tradeFields_109 ?_
  refine gq_iload_n C dX4_tradeFields_112 rfl 1 rfl ?_
  refine gq_iconst (v := 3) C dX4_tradeFields_113 (by decide) ?_
  refine gq_iadd C dX4_tradeFields_114 ?_
  refine gq_aload_n C dX4_tradeFields_115 rfl 0 rfl ?_
  refine gq_iconst (v := 1) C dX4_tradeFields_116 (by decide) ?_
  refine gq_iload_n C dX4_tradeFields_117 rfl 2 rfl ?_
  obtain ⟨x48, z49, z50⟩ := bind_ex z47
  refine gq_join (k' := 0) (n' := 0) (pc' := 130) (lv' := [(0, .ref (eB E + 295)), (1, .int p1), (2, .int p2)]) (st' := [.int x48, .int (1 : Int32), .ref (eB E + 295), .int (p1 + (3 : Int32)), .ref (eB E + 297)]) (μ' := m46) ?_ (fun J130 => ?_)
  · obtain ⟨⟨x56, m57⟩, eo55, z54⟩ := bind_ex z50
    dsimp only at z54
    refine gq_V (As := [.int (1 : Int32), .int x48]) (rest := [.int (p1 + (3 : Int32)), .ref (eB E + 297)]) (j := 5) C (c_X4_number hN  eo55) (qn_m 295 (by decide) hN) (by decide) (by decide) rfl wk_7_67 wk_7_69 ws_X4_number wk_1_9 wk_7_70 hd_X4_number ⟨(Nat.le_of_ble_eq_true rfl), (Nat.le_of_ble_eq_true rfl)⟩ (Nat.le_of_ble_eq_true rfl) ⟨(Nat.le_of_ble_eq_true rfl), (Nat.le_of_ble_eq_true rfl)⟩ dX4_tradeFields_130 rfl rfl ?_
    obtain ⟨m58, em58, z59⟩ := bind_ex z54
    refine gq_iastore C (qn_m 297 (by decide) hN) (by decide) em58 dX4_tradeFields_133 ?_
    refine gq_aload_n C dX4_tradeFields_134 rfl 0 rfl ?_
    refine gq_get5 C (qn_m 295 (by decide) hN) (by decide) 2 (by decide) wk_6_164 rfl dX4_tradeFields_135 ?_
    refine gq_iload_n C dX4_tradeFields_138 rfl 1 rfl ?_
    refine gq_iconst (v := 4) C dX4_tradeFields_139 (by decide) ?_
    refine gq_iadd C dX4_tradeFields_140 ?_
    refine gq_aload_n C dX4_tradeFields_141 rfl 0 rfl ?_
    refine gq_iconst (v := 0) C dX4_tradeFields_142 (by decide) ?_
    refine gq_iload_n C dX4_tradeFields_143 rfl 2 rfl ?_
    obtain ⟨x60, z61, z62⟩ := bind_ex z59
    refine gq_join (k' := 0) (n' := 0) (pc' := 155) (lv' := [(0, .ref (eB E + 295)), (1, .int p1), (2, .int p2)]) (st' := [.int x60, .int (0 : Int32), .ref (eB E + 295), .int (p1 + (4 : Int32)), .ref (eB E + 297)]) (μ' := m58) ?_ (fun J155 => ?_)
    · obtain ⟨⟨x68, m69⟩, eo67, z66⟩ := bind_ex z62
      dsimp only at z66
      refine gq_V (As := [.int (0 : Int32), .int x60]) (rest := [.int (p1 + (4 : Int32)), .ref (eB E + 297)]) (j := 5) C (c_X4_number hN  eo67) (qn_m 295 (by decide) hN) (by decide) (by decide) rfl wk_7_67 wk_7_69 ws_X4_number wk_1_9 wk_7_70 hd_X4_number ⟨(Nat.le_of_ble_eq_true rfl), (Nat.le_of_ble_eq_true rfl)⟩ (Nat.le_of_ble_eq_true rfl) ⟨(Nat.le_of_ble_eq_true rfl), (Nat.le_of_ble_eq_true rfl)⟩ dX4_tradeFields_155 rfl rfl ?_
      obtain ⟨m70, em70, z71⟩ := bind_ex z66
      refine gq_iastore C (qn_m 297 (by decide) hN) (by decide) em70 dX4_tradeFields_158 ?_
      refine gq_aload_n C dX4_tradeFields_159 rfl 0 rfl ?_
      refine gq_get5 C (qn_m 295 (by decide) hN) (by decide) 2 (by decide) wk_6_164 rfl dX4_tradeFields_160 ?_
      refine gq_iload_n C dX4_tradeFields_163 rfl 1 rfl ?_
      refine gq_iconst (v := 5) C dX4_tradeFields_164 (by decide) ?_
      refine gq_iadd C dX4_tradeFields_165 ?_
      refine gq_iload_n C dX4_tradeFields_166 rfl 2 rfl ?_
      obtain ⟨⟨x72, m73⟩, z74, z75⟩ := bind_ex z71
      dsimp only at z75
      refine gq_join (k' := 0) (n' := 0) (pc' := 187) (lv' := []) (st' := [.int x72, .int (p1 + (5 : Int32)), .ref (eB E + 297)]) (μ' := m73) ?_ (fun J187 => ?_)
      · obtain ⟨m87, em87, z88⟩ := bind_ex z75
        refine gq_iastore C (qn_m 297 (by decide) hN) (by decide) em87 dX4_tradeFields_187 ?_
        cases z88
        exact gq_vret C hr dX4_tradeFields_188 (Nat.le_of_ble_eq_true rfl) (Nat.le_of_ble_eq_true rfl)
      · rcases ite_ex z74 with ⟨c76, z77⟩ | ⟨c76, z77⟩
        · refine gq_if_eq_t (tgt := 180) C dX4_tradeFields_167 (by decide) c76 ?_
          refine gq_aload_n C dX4_tradeFields_180 rfl 0 rfl ?_
          refine gq_iconst (v := 0) C dX4_tradeFields_181 (by decide) ?_
          refine gq_bipush (v := 99) C dX4_tradeFields_182 (by decide) ?_
          obtain ⟨⟨x80, m81⟩, eo79, z78⟩ := bind_ex z77
          dsimp only at z78
          refine gq_V (As := [.int (0 : Int32), .int (99 : Int32)]) (rest := [.int (p1 + (5 : Int32)), .ref (eB E + 297)]) (j := 5) C (c_X4_number hN  eo79) (qn_m 295 (by decide) hN) (by decide) (by decide) rfl wk_7_67 wk_7_69 ws_X4_number wk_1_9 wk_7_70 hd_X4_number ⟨(Nat.le_of_ble_eq_true rfl), (Nat.le_of_ble_eq_true rfl)⟩ (Nat.le_of_ble_eq_true rfl) ⟨(Nat.le_of_ble_eq_true rfl), (Nat.le_of_ble_eq_true rfl)⟩ dX4_tradeFields_184 rfl rfl ?_
          cases z78
          exact gq_widen (Nat.le_of_ble_eq_true rfl) (Nat.le_of_ble_eq_true rfl) (gq_sub [] rfl J187)
        · refine gq_if_eq_f (tgt := 180) C dX4_tradeFields_167 (by decide) c76 ?_
          refine gq_aload_n C dX4_tradeFields_170 rfl 0 rfl ?_
          refine gq_iconst (v := 1) C dX4_tradeFields_171 (by decide) ?_
          refine gq_bipush (v := 36) C dX4_tradeFields_172 (by decide) ?_
          obtain ⟨⟨x84, m85⟩, eo83, z82⟩ := bind_ex z77
          dsimp only at z82
          refine gq_V (As := [.int (1 : Int32), .int (36 : Int32)]) (rest := [.int (p1 + (5 : Int32)), .ref (eB E + 297)]) (j := 5) C (c_X4_number hN  eo83) (qn_m 295 (by decide) hN) (by decide) (by decide) rfl wk_7_67 wk_7_69 ws_X4_number wk_1_9 wk_7_70 hd_X4_number ⟨(Nat.le_of_ble_eq_true rfl), (Nat.le_of_ble_eq_true rfl)⟩ (Nat.le_of_ble_eq_true rfl) ⟨(Nat.le_of_ble_eq_true rfl), (Nat.le_of_ble_eq_true rfl)⟩ dX4_tradeFields_174 rfl rfl ?_
          refine gq_goto (tgt := 187) C dX4_tradeFields_177 (by decide) ?_
          cases z82
          exact gq_widen (Nat.le_of_ble_eq_true rfl) (Nat.le_of_ble_eq_true rfl) (gq_sub [] rfl J187)
    · rcases ite_ex z61 with ⟨c63, z64⟩ | ⟨c63, z64⟩
      · refine gq_if_eq_t (tgt := 152) C dX4_tradeFields_144 (by decide) c63 ?_
        refine gq_sipush (v := 999) C dX4_tradeFields_152 (by decide) ?_
        cases z64
        exact gq_widen (Nat.le_of_ble_eq_true rfl) (Nat.le_of_ble_eq_true rfl) (gq_sub [0, 1, 2] rfl J155)
      · refine gq_if_eq_f (tgt := 152) C dX4_tradeFields_144 (by decide) c63 ?_
        refine gq_bipush (v := 99) C dX4_tradeFields_147 (by decide) ?_
        refine gq_goto (tgt := 155) C dX4_tradeFields_149 (by decide) ?_
        cases z64
        exact gq_widen (Nat.le_of_ble_eq_true rfl) (Nat.le_of_ble_eq_true rfl) (gq_sub [0, 1, 2] rfl J155)
  · rcases ite_ex z49 with ⟨c51, z52⟩ | ⟨c51, z52⟩
    · refine gq_if_eq_t (tgt := 127) C dX4_tradeFields_118 (by decide) c51 ?_
      refine gq_sipush (v := 200) C dX4_tradeFields_127 (by decide) ?_
      cases z52
      exact gq_widen (Nat.le_of_ble_eq_true rfl) (Nat.le_of_ble_eq_true rfl) (gq_sub [0, 1, 2] rfl J130)
    · refine gq_if_eq_f (tgt := 127) C dX4_tradeFields_118 (by decide) c51 ?_
      refine gq_sipush (v := 999) C dX4_tradeFields_121 (by decide) ?_
      refine gq_goto (tgt := 130) C dX4_tradeFields_124 (by decide) ?_
      cases z52
      exact gq_widen (Nat.le_of_ble_eq_true rfl) (Nat.le_of_ble_eq_true rfl) (gq_sub [0, 1, 2] rfl J130)
