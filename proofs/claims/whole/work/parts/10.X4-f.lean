abbrev rm_X4_endLease : Room := { frames := 2, cells := 0, slots := 0, locals := 43 }
def F_X4_endLease_56 (u2 : Int32) : Nat → Int32 → Mm → Option Mm
  | 0, _, _ => none
  | n + 1, v3, μ =>
  (aI μ 296 (3 : Int32)).bind fun x24 =>
  if ((158 : Int32) + ((6 : Int32) * x24)) ≤ v3 then
  (some μ)
  else
  ((aI μ 296 (v3 + (6 : Int32))).bind fun x28 =>
  (sI μ 296 v3 x28).bind fun m30 =>
  F_X4_endLease_56 u2 n (v3 + 1) m30)
def F_X4_endLease (p1 : Int32) (μ : Mm) : Option (Int32 × Mm) :=
  (F_X4_isLease p1 μ).bind fun o2 =>
  (if o2 = 0 then
  (some (1 : Int32))
  else
  (some (0 : Int32))).bind fun o9 =>
  (some (uI μ 295 0 o9)).bind fun m10 =>
  if (m10.1 295 0) ≤ 0 then
  ((F_X4_record  m10).bind fun o15 =>
  (F_X4_leaseOf p1 (5 : Int32) o15).bind fun o18 =>
  (aI o15 296 (3 : Int32)).bind fun x20 =>
  (sI o15 296 (3 : Int32) (x20 - (1 : Int32))).bind fun m22 =>
  (F_X4_endLease_56 o18 qFuel ((158 : Int32) + ((6 : Int32) * p1)) m22).bind fun o33 =>
  some (o18, o33))
  else
  (some ((0 : Int32), m10))
set_option maxHeartbeats 4000000 in
set_option maxRecDepth 100000 in
theorem l_X4_endLease_56 {l : Launch} {E : Ev} (hN : 311 ≤ eN E) {p : Program} {e : Env} {s : State} {m : MethodId} {args : Array Value} {below : List Frame} {meth : Method} {c : Code} (C : Cq E p s m args meth c cX4_endLease 4 RX4) {Q : State → Prop} {u2 : Int32} : ∀ (n : Nat) (v3 : Int32) (μ : Mm) (μx : Mm), F_X4_endLease_56 u2 n v3 μ = some μx → Gq E p l e rm_X4_endLease s m args below meth c 0 0 4 Q 94 [(2, .int u2)] [] μx → Gq E p l e rm_X4_endLease s m args below meth c 0 0 4 Q 56 [(0, .ref (eB E + 295)), (2, .int u2), (3, .int v3)] [] μ := by
  intro n
  induction n with
  | zero =>
    intro v3 μ μx z0 kk
    rw [F_X4_endLease_56] at z0
    cases z0
  | succ n ih =>
    intro v3 μ μx z0 kk
    rw [F_X4_endLease_56] at z0
    refine gq_iload_n C dX4_endLease_56 rfl 2 rfl ?_
    refine gq_sipush (v := 158) C dX4_endLease_57 (by decide) ?_
    refine gq_bipush (v := 6) C dX4_endLease_60 (by decide) ?_
    refine gq_aload_n C dX4_endLease_62 rfl 0 rfl ?_
    refine gq_get5 C (qn_m 295 (by decide) hN) (by decide) 1 (by decide) wk_6_163 rfl dX4_endLease_63 ?_
    refine gq_iconst (v := 3) C dX4_endLease_66 (by decide) ?_
    obtain ⟨x24, ex24, z25⟩ := bind_ex z0
    refine gq_ialoadI C (qn_m 296 (by decide) hN) (by decide) ex24 dX4_endLease_67 ?_
    refine gq_imul C dX4_endLease_68 ?_
    refine gq_iadd C dX4_endLease_69 ?_
    rcases ite_ex z25 with ⟨c26, z27⟩ | ⟨c26, z27⟩
    · refine gq_icmp_ge_t (tgt := 94) C dX4_endLease_70 (by decide) c26 ?_
      cases z27
      exact gq_widen (Nat.le_of_ble_eq_true rfl) (Nat.le_of_ble_eq_true rfl) (gq_sub [1] rfl kk)
    · refine gq_icmp_ge_f (tgt := 94) C dX4_endLease_70 (by decide) c26 ?_
      refine gq_aload_n C dX4_endLease_73 rfl 0 rfl ?_
      refine gq_get5 C (qn_m 295 (by decide) hN) (by decide) 1 (by decide) wk_6_163 rfl dX4_endLease_74 ?_
      refine gq_iload_n C dX4_endLease_77 rfl 2 rfl ?_
      refine gq_aload_n C dX4_endLease_78 rfl 0 rfl ?_
      refine gq_get5 C (qn_m 295 (by decide) hN) (by decide) 1 (by decide) wk_6_163 rfl dX4_endLease_79 ?_
      refine gq_iload_n C dX4_endLease_82 rfl 2 rfl ?_
      refine gq_bipush (v := 6) C dX4_endLease_83 (by decide) ?_
      refine gq_iadd C dX4_endLease_85 ?_
      obtain ⟨x28, ex28, z29⟩ := bind_ex z27
      refine gq_ialoadI C (qn_m 296 (by decide) hN) (by decide) ex28 dX4_endLease_86 ?_
      obtain ⟨m30, em30, z31⟩ := bind_ex z29
      refine gq_iastore C (qn_m 296 (by decide) hN) (by decide) em30 dX4_endLease_87 ?_
      refine gq_iinc (v := (v3 + 1)) (lv' := [(3, .int (v3 + 1)), (0, .ref (eB E + 295)), (2, .int u2)]) (q := 2) C dX4_endLease_88 rfl rfl (by decide) rfl ?_
      refine gq_goto (tgt := 56) C dX4_endLease_91 (by decide) ?_
      refine gq_widen (k' := 0) (n' := 0) (Nat.le_of_ble_eq_true rfl) (Nat.le_of_ble_eq_true rfl) (gq_sub [1, 2, 0] rfl ?_)
      exact ih _ _ _ z31 kk
set_option maxHeartbeats 4000000 in
set_option maxRecDepth 100000 in
theorem c_X4_endLease {l : Launch} {E : Ev} (hN : 311 ≤ eN E) {p1 : Int32} {μ : Mm} {r : Int32} {μ' : Mm} (z0 : F_X4_endLease p1 μ = some (r, μ')) : Ct l E yX4_endLease (Cond.code yX4_endLease cX4_endLease 4 (some .int) :: GW) rm_X4_endLease [.ref (eB E + 295), .int p1] μ (some (.int r)) μ' := by
  refine ct_of (by decide) (Nat.le_of_ble_eq_true rfl) (fun p e s m args below meth c C hr => ?_)
  have C : Cq E p s m args meth c cX4_endLease 4 RX4 := C
  refine gq_lv (lv' := [(0, .ref (eB E + 295)), (1, .int p1)]) rfl ?_
  unfold F_X4_endLease at z0
  refine gq_aload_n C dX4_endLease_0 rfl 0 rfl ?_
  refine gq_aload_n C dX4_endLease_1 rfl 0 rfl ?_
  refine gq_iload_n C dX4_endLease_2 rfl 1 rfl ?_
  obtain ⟨x3, eo2, z1⟩ := bind_ex z0
  refine gq_V (As := [.int p1]) (rest := [.ref (eB E + 295)]) (j := 5) C (c_X4_isLease hN  eo2) (qn_m 295 (by decide) hN) (by decide) (by decide) rfl wk_7_195 wk_7_197 ws_X4_isLease wk_1_9 wk_7_198 hd_X4_isLease ⟨(Nat.le_of_ble_eq_true rfl), (Nat.le_of_ble_eq_true rfl)⟩ (Nat.le_of_ble_eq_true rfl) ⟨(Nat.le_of_ble_eq_true rfl), (Nat.le_of_ble_eq_true rfl)⟩ dX4_endLease_3 rfl rfl ?_
  obtain ⟨x4, z5, z6⟩ := bind_ex z1
  refine gq_join (k' := 0) (n' := 0) (pc' := 14) (lv' := [(0, .ref (eB E + 295)), (1, .int p1)]) (st' := [.int x4, .ref (eB E + 295)]) (μ' := μ) ?_ (fun J14 => ?_)
  · obtain ⟨m10, em10, z11⟩ := bind_ex z6
    refine gq_put5_0 C (qn_m 295 (by decide) hN) (by decide) wk_6_162 (Option.some.inj em10).symm dX4_endLease_14 ?_
    refine gq_aload_n C dX4_endLease_17 rfl 0 rfl ?_
    refine gq_get5 C (qn_m 295 (by decide) hN) (by decide) 0 (by decide) wk_6_162 rfl dX4_endLease_18 ?_
    rcases ite_ex z11 with ⟨c12, z13⟩ | ⟨c12, z13⟩
    · refine gq_if_le_t (tgt := 26) C dX4_endLease_21 (by decide) c12 ?_
      refine gq_aload_n C dX4_endLease_26 rfl 0 rfl ?_
      obtain ⟨m16, eo15, z14⟩ := bind_ex z13
      refine gq_V (As := []) (rest := []) (j := 5) C (c_X4_record hN  eo15) (qn_m 295 (by decide) hN) (by decide) (by decide) rfl wk_8_176 wk_8_178 ws_X4_record wk_1_9 wk_8_179 hd_X4_record ⟨(Nat.le_of_ble_eq_true rfl), (Nat.le_of_ble_eq_true rfl)⟩ (Nat.le_of_ble_eq_true rfl) ⟨(Nat.le_of_ble_eq_true rfl), (Nat.le_of_ble_eq_true rfl)⟩ dX4_endLease_27 rfl rfl ?_
      refine gq_aload_n C dX4_endLease_30 rfl 0 rfl ?_
      refine gq_iload_n C dX4_endLease_31 rfl 1 rfl ?_
      refine gq_iconst (v := 5) C dX4_endLease_32 (by decide) ?_
      obtain ⟨x19, eo18, z17⟩ := bind_ex z14
      refine gq_V (As := [.int p1, .int (5 : Int32)]) (rest := []) (j := 5) C (c_X4_leaseOf hN  eo18) (qn_m 295 (by decide) hN) (by decide) (by decide) rfl wk_7_199 wk_7_201 ws_X4_leaseOf wk_1_9 wk_7_202 hd_X4_leaseOf ⟨(Nat.le_of_ble_eq_true rfl), (Nat.le_of_ble_eq_true rfl)⟩ (Nat.le_of_ble_eq_true rfl) ⟨(Nat.le_of_ble_eq_true rfl), (Nat.le_of_ble_eq_true rfl)⟩ dX4_endLease_33 rfl rfl ?_
      refine gq_istore_n (lv' := [(2, .int x19), (0, .ref (eB E + 295)), (1, .int p1)]) C dX4_endLease_36 rfl (by decide) rfl ?_
      refine gq_aload_n C dX4_endLease_37 rfl 1 rfl ?_
      refine gq_get5 C (qn_m 295 (by decide) hN) (by decide) 1 (by decide) wk_6_163 rfl dX4_endLease_38 ?_
      refine gq_iconst (v := 3) C dX4_endLease_41 (by decide) ?_
      refine gq_dup2 C dX4_endLease_42 ?_
      obtain ⟨x20, ex20, z21⟩ := bind_ex z17
      refine gq_ialoadI C (qn_m 296 (by decide) hN) (by decide) ex20 dX4_endLease_43 ?_
      refine gq_iconst (v := 1) C dX4_endLease_44 (by decide) ?_
      refine gq_isub C dX4_endLease_45 ?_
      obtain ⟨m22, em22, z23⟩ := bind_ex z21
      refine gq_iastore C (qn_m 296 (by decide) hN) (by decide) em22 dX4_endLease_46 ?_
      refine gq_sipush (v := 158) C dX4_endLease_47 (by decide) ?_
      refine gq_bipush (v := 6) C dX4_endLease_50 (by decide) ?_
      refine gq_iload_n C dX4_endLease_52 rfl 2 rfl ?_
      refine gq_imul C dX4_endLease_53 ?_
      refine gq_iadd C dX4_endLease_54 ?_
      refine gq_istore_n (lv' := [(3, .int ((158 : Int32) + ((6 : Int32) * p1))), (2, .int x19), (0, .ref (eB E + 295)), (1, .int p1)]) C dX4_endLease_55 rfl (by decide) rfl ?_
      obtain ⟨m34, eo33, z32⟩ := bind_ex z23
      refine gq_widen (k' := 0) (n' := 0) (Nat.le_of_ble_eq_true rfl) (Nat.le_of_ble_eq_true rfl) (gq_sub [2, 1, 0] rfl ?_)
      refine l_X4_endLease_56 hN C  qFuel _ _ _ eo33 ?_
      refine gq_iload_n C dX4_endLease_94 rfl 0 rfl ?_
      cases z32
      exact gq_iret C hr dX4_endLease_95 (Nat.le_of_ble_eq_true rfl) (Nat.le_of_ble_eq_true rfl)
    · refine gq_if_le_f (tgt := 26) C dX4_endLease_21 (by decide) c12 ?_
      refine gq_iconst (v := 0) C dX4_endLease_24 (by decide) ?_
      cases z13
      exact gq_iret C hr dX4_endLease_25 (Nat.le_of_ble_eq_true rfl) (Nat.le_of_ble_eq_true rfl)
  · rcases ite_ex z5 with ⟨c7, z8⟩ | ⟨c7, z8⟩
    · refine gq_if_eq_t (tgt := 13) C dX4_endLease_6 (by decide) c7 ?_
      refine gq_iconst (v := 1) C dX4_endLease_13 (by decide) ?_
      cases z8
      exact gq_widen (Nat.le_of_ble_eq_true rfl) (Nat.le_of_ble_eq_true rfl) (gq_sub [0, 1] rfl J14)
    · refine gq_if_eq_f (tgt := 13) C dX4_endLease_6 (by decide) c7 ?_
      refine gq_iconst (v := 0) C dX4_endLease_9 (by decide) ?_
      refine gq_goto (tgt := 14) C dX4_endLease_10 (by decide) ?_
      cases z8
      exact gq_widen (Nat.le_of_ble_eq_true rfl) (Nat.le_of_ble_eq_true rfl) (gq_sub [0, 1] rfl J14)
abbrev rm_X4_release : Room := { frames := 2, cells := 0, slots := 0, locals := 43 }
def F_X4_release (p1 : Int32) (p2 : Int32) (p3 : Int32) (μ : Mm) : Option (Int32 × Mm) :=
  (F_X4_isAccount p1 μ).bind fun o2 =>
  (if o2 = 0 then
  (some (1 : Int32))
  else
  ((F_X4_isReach p2 μ).bind fun o10 =>
  if o10 = 0 then
  (some (1 : Int32))
  else
  (if (1 : Int32) ≤ p3 then
  ((aI μ 296 ((26 : Int32) + p1)).bind fun x16 =>
  if p3 ≤ x16 then
  (some (0 : Int32))
  else
  (some (3 : Int32)))
  else
  (some (2 : Int32))))).bind fun o20 =>
  (some (uI μ 295 0 o20)).bind fun m21 =>
  if (m21.1 295 0) ≤ 0 then
  ((F_X4_record  m21).bind fun o26 =>
  (aI o26 296 ((26 : Int32) + p1)).bind fun x28 =>
  (sI o26 296 ((26 : Int32) + p1) (x28 - p3)).bind fun m30 =>
  (aI m30 296 ((20 : Int32) + p2)).bind fun x32 =>
  (sI m30 296 ((20 : Int32) + p2) (x32 + p3)).bind fun m34 =>
  (aI m34 296 (55 : Int32)).bind fun x36 =>
  (sI m34 296 (55 : Int32) (x36 + p3)).bind fun m38 =>
  (aI m38 296 ((26 : Int32) + p1)).bind fun x40 =>
  some (x40, m38))
  else
  (some ((0 : Int32), m21))
set_option maxHeartbeats 4000000 in
set_option maxRecDepth 100000 in
theorem c_X4_release {l : Launch} {E : Ev} (hN : 311 ≤ eN E) {p1 : Int32} {p2 : Int32} {p3 : Int32} {μ : Mm} {r : Int32} {μ' : Mm} (z0 : F_X4_release p1 p2 p3 μ = some (r, μ')) : Ct l E yX4_release (Cond.code yX4_release cX4_release 4 (some .int) :: GW) rm_X4_release [.ref (eB E + 295), .int p1, .int p2, .int p3] μ (some (.int r)) μ' := by
  refine ct_of (by decide) (Nat.le_of_ble_eq_true rfl) (fun p e s m args below meth c C hr => ?_)
  have C : Cq E p s m args meth c cX4_release 4 RX4 := C
  refine gq_lv (lv' := [(0, .ref (eB E + 295)), (1, .int p1), (2, .int p2), (3, .int p3)]) rfl ?_
  unfold F_X4_release at z0
  refine gq_aload_n C dX4_release_0 rfl 0 rfl ?_
  refine gq_aload_n C dX4_release_1 rfl 0 rfl ?_
  refine gq_iload_n C dX4_release_2 rfl 1 rfl ?_
  obtain ⟨x3, eo2, z1⟩ := bind_ex z0
  refine gq_V (As := [.int p1]) (rest := [.ref (eB E + 295)]) (j := 5) C (c_X4_isAccount hN  eo2) (qn_m 295 (by decide) hN) (by decide) (by decide) rfl wk_7_163 wk_7_165 ws_X4_isAccount wk_1_9 wk_7_166 hd_X4_isAccount ⟨(Nat.le_of_ble_eq_true rfl), (Nat.le_of_ble_eq_true rfl)⟩ (Nat.le_of_ble_eq_true rfl) ⟨(Nat.le_of_ble_eq_true rfl), (Nat.le_of_ble_eq_true rfl)⟩ dX4_release_3 rfl rfl ?_
  obtain ⟨x4, z5, z6⟩ := bind_ex z1
  refine gq_join (k' := 0) (n' := 0) (pc' := 48) (lv' := [(0, .ref (eB E + 295)), (1, .int p1), (2, .int p2), (3, .int p3)]) (st' := [.int x4, .ref (eB E + 295)]) (μ' := μ) ?_ (fun J48 => ?_)
  · obtain ⟨m21, em21, z22⟩ := bind_ex z6
    refine gq_put5_0 C (qn_m 295 (by decide) hN) (by decide) wk_6_162 (Option.some.inj em21).symm dX4_release_48 ?_
    refine gq_aload_n C dX4_release_51 rfl 0 rfl ?_
    refine gq_get5 C (qn_m 295 (by decide) hN) (by decide) 0 (by decide) wk_6_162 rfl dX4_release_52 ?_
    rcases ite_ex z22 with ⟨c23, z24⟩ | ⟨c23, z24⟩
    · refine gq_if_le_t (tgt := 60) C dX4_release_55 (by decide) c23 ?_
      refine gq_aload_n C dX4_release_60 rfl 0 rfl ?_
      obtain ⟨m27, eo26, z25⟩ := bind_ex z24
      refine gq_V (As := []) (rest := []) (j := 5) C (c_X4_record hN  eo26) (qn_m 295 (by decide) hN) (by decide) (by decide) rfl wk_8_176 wk_8_178 ws_X4_record wk_1_9 wk_8_179 hd_X4_record ⟨(Nat.le_of_ble_eq_true rfl), (Nat.le_of_ble_eq_true rfl)⟩ (Nat.le_of_ble_eq_true rfl) ⟨(Nat.le_of_ble_eq_true rfl), (Nat.le_of_ble_eq_true rfl)⟩ dX4_release_61 rfl rfl ?_
      refine gq_aload_n C dX4_release_64 rfl 0 rfl ?_
      refine gq_get5 C (qn_m 295 (by decide) hN) (by decide) 1 (by decide) wk_6_163 rfl dX4_release_65 ?_
      refine gq_bipush (v := 26) C dX4_release_68 (by decide) ?_
      refine gq_iload_n C dX4_release_70 rfl 1 rfl ?_
      refine gq_iadd C dX4_release_71 ?_
      refine gq_dup2 C dX4_release_72 ?_
      obtain ⟨x28, ex28, z29⟩ := bind_ex z25
      refine gq_ialoadI C (qn_m 296 (by decide) hN) (by decide) ex28 dX4_release_73 ?_
      refine gq_iload_n C dX4_release_74 rfl 3 rfl ?_
      refine gq_isub C dX4_release_75 ?_
      obtain ⟨m30, em30, z31⟩ := bind_ex z29
      refine gq_iastore C (qn_m 296 (by decide) hN) (by decide) em30 dX4_release_76 ?_
      refine gq_aload_n C dX4_release_77 rfl 0 rfl ?_
      refine gq_get5 C (qn_m 295 (by decide) hN) (by decide) 1 (by decide) wk_6_163 rfl dX4_release_78 ?_
      refine gq_bipush (v := 20) C dX4_release_81 (by decide) ?_
      refine gq_iload_n C dX4_release_83 rfl 2 rfl ?_
      refine gq_iadd C dX4_release_84 ?_
      refine gq_dup2 C dX4_release_85 ?_
      obtain ⟨x32, ex32, z33⟩ := bind_ex z31
      refine gq_ialoadI C (qn_m 296 (by decide) hN) (by decide) ex32 dX4_release_86 ?_
      refine gq_iload_n C dX4_release_87 rfl 3 rfl ?_
      refine gq_iadd C dX4_release_88 ?_
      obtain ⟨m34, em34, z35⟩ := bind_ex z33
      refine gq_iastore C (qn_m 296 (by decide) hN) (by decide) em34 dX4_release_89 ?_
      refine gq_aload_n C dX4_release_90 rfl 0 rfl ?_
      refine gq_get5 C (qn_m 295 (by decide) hN) (by decide) 1 (by decide) wk_6_163 rfl dX4_release_91 ?_
      refine gq_bipush (v := 55) C dX4_release_94 (by decide) ?_
      refine gq_dup2 C dX4_release_96 ?_
      obtain ⟨x36, ex36, z37⟩ := bind_ex z35
      refine gq_ialoadI C (qn_m 296 (by decide) hN) (by decide) ex36 dX4_release_97 ?_
      refine gq_iload_n C dX4_release_98 rfl 3 rfl ?_
      refine gq_iadd C dX4_release_99 ?_
      obtain ⟨m38, em38, z39⟩ := bind_ex z37
      refine gq_iastore C (qn_m 296 (by decide) hN) (by decide) em38 dX4_release_100 ?_
      refine gq_aload_n C dX4_release_101 rfl 0 rfl ?_
      refine gq_get5 C (qn_m 295 (by decide) hN) (by decide) 1 (by decide) wk_6_163 rfl dX4_release_102 ?_
      refine gq_bipush (v := 26) C dX4_release_105 (by decide) ?_
      refine gq_iload_n C dX4_release_107 rfl 1 rfl ?_
      refine gq_iadd C dX4_release_108 ?_
      obtain ⟨x40, ex40, z41⟩ := bind_ex z39
      refine gq_ialoadI C (qn_m 296 (by decide) hN) (by decide) ex40 dX4_release_109 ?_
      cases z41
      exact gq_iret C hr dX4_release_110 (Nat.le_of_ble_eq_true rfl) (Nat.le_of_ble_eq_true rfl)
    · refine gq_if_le_f (tgt := 60) C dX4_release_55 (by decide) c23 ?_
      refine gq_iconst (v := 0) C dX4_release_58 (by decide) ?_
      cases z24
      exact gq_iret C hr dX4_release_59 (Nat.le_of_ble_eq_true rfl) (Nat.le_of_ble_eq_true rfl)
  · rcases ite_ex z5 with ⟨c7, z8⟩ | ⟨c7, z8⟩
    · refine gq_if_eq_t (tgt := 17) C dX4_release_6 (by decide) c7 ?_
      refine gq_iconst (v := 1) C dX4_release_17 (by decide) ?_
      refine gq_goto (tgt := 48) C dX4_release_18 (by decide) ?_
      cases z8
      exact gq_widen (Nat.le_of_ble_eq_true rfl) (Nat.le_of_ble_eq_true rfl) (gq_sub [0, 1, 2, 3] rfl J48)
    · refine gq_if_eq_f (tgt := 17) C dX4_release_6 (by decide) c7 ?_
      refine gq_aload_n C dX4_release_9 rfl 0 rfl ?_
      refine gq_iload_n C dX4_release_10 rfl 2 rfl ?_
      obtain ⟨x11, eo10, z9⟩ := bind_ex z8
      refine gq_V (As := [.int p2]) (rest := [.ref (eB E + 295)]) (j := 5) C (c_X4_isReach hN  eo10) (qn_m 295 (by decide) hN) (by decide) (by decide) rfl wk_7_147 wk_7_149 ws_X4_isReach wk_1_9 wk_7_150 hd_X4_isReach ⟨(Nat.le_of_ble_eq_true rfl), (Nat.le_of_ble_eq_true rfl)⟩ (Nat.le_of_ble_eq_true rfl) ⟨(Nat.le_of_ble_eq_true rfl), (Nat.le_of_ble_eq_true rfl)⟩ dX4_release_11 rfl rfl ?_
      rcases ite_ex z9 with ⟨c12, z13⟩ | ⟨c12, z13⟩
      · refine gq_if_ne_f (tgt := 21) C dX4_release_14 (by decide) c12 ?_
        refine gq_iconst (v := 1) C dX4_release_17 (by decide) ?_
        refine gq_goto (tgt := 48) C dX4_release_18 (by decide) ?_
        cases z13
        exact gq_widen (Nat.le_of_ble_eq_true rfl) (Nat.le_of_ble_eq_true rfl) (gq_sub [0, 1, 2, 3] rfl J48)
      · refine gq_if_ne_t (tgt := 21) C dX4_release_14 (by decide) c12 ?_
        refine gq_iload_n C dX4_release_21 rfl 3 rfl ?_
        refine gq_iconst (v := 1) C dX4_release_22 (by decide) ?_
        rcases ite_ex z13 with ⟨c14, z15⟩ | ⟨c14, z15⟩
        · refine gq_icmp_ge_t (tgt := 30) C dX4_release_23 (by decide) c14 ?_
          refine gq_aload_n C dX4_release_30 rfl 0 rfl ?_
          refine gq_get5 C (qn_m 295 (by decide) hN) (by decide) 1 (by decide) wk_6_163 rfl dX4_release_31 ?_
          refine gq_bipush (v := 26) C dX4_release_34 (by decide) ?_
          refine gq_iload_n C dX4_release_36 rfl 1 rfl ?_
          refine gq_iadd C dX4_release_37 ?_
          obtain ⟨x16, ex16, z17⟩ := bind_ex z15
          refine gq_ialoadI C (qn_m 296 (by decide) hN) (by decide) ex16 dX4_release_38 ?_
          refine gq_iload_n C dX4_release_39 rfl 3 rfl ?_
          rcases ite_ex z17 with ⟨c18, z19⟩ | ⟨c18, z19⟩
          · refine gq_icmp_ge_t (tgt := 47) C dX4_release_40 (by decide) c18 ?_
            refine gq_iconst (v := 0) C dX4_release_47 (by decide) ?_
            cases z19
            exact gq_widen (Nat.le_of_ble_eq_true rfl) (Nat.le_of_ble_eq_true rfl) (gq_sub [0, 1, 2, 3] rfl J48)
          · refine gq_icmp_ge_f (tgt := 47) C dX4_release_40 (by decide) c18 ?_
            refine gq_iconst (v := 3) C dX4_release_43 (by decide) ?_
            refine gq_goto (tgt := 48) C dX4_release_44 (by decide) ?_
            cases z19
            exact gq_widen (Nat.le_of_ble_eq_true rfl) (Nat.le_of_ble_eq_true rfl) (gq_sub [0, 1, 2, 3] rfl J48)
        · refine gq_icmp_ge_f (tgt := 30) C dX4_release_23 (by decide) c14 ?_
          refine gq_iconst (v := 2) C dX4_release_26 (by decide) ?_
          refine gq_goto (tgt := 48) C dX4_release_27 (by decide) ?_
          cases z15
          exact gq_widen (Nat.le_of_ble_eq_true rfl) (Nat.le_of_ble_eq_true rfl) (gq_sub [0, 1, 2, 3] rfl J48)
abbrev rm_X4_sets : Room := { frames := 1, cells := 0, slots := 0, locals := 21 }
def F_X4_sets (p1 : Int32) (p2 : Int32) (μ : Mm) : Option (Int32 × Mm) :=
  (F_X4_record  μ).bind fun o2 =>
  (aI o2 296 p1).bind fun x4 =>
  (sI o2 296 p1 p2).bind fun m6 =>
  some (x4, m6)
set_option maxHeartbeats 4000000 in
set_option maxRecDepth 100000 in
theorem c_X4_sets {l : Launch} {E : Ev} (hN : 311 ≤ eN E) {p1 : Int32} {p2 : Int32} {μ : Mm} {r : Int32} {μ' : Mm} (z0 : F_X4_sets p1 p2 μ = some (r, μ')) : Ct l E yX4_sets (Cond.code yX4_sets cX4_sets 4 (some .int) :: GW) rm_X4_sets [.ref (eB E + 295), .int p1, .int p2] μ (some (.int r)) μ' := by
  refine ct_of (by decide) (Nat.le_of_ble_eq_true rfl) (fun p e s m args below meth c C hr => ?_)
  have C : Cq E p s m args meth c cX4_sets 4 RX4 := C
  refine gq_lv (lv' := [(0, .ref (eB E + 295)), (1, .int p1), (2, .int p2)]) rfl ?_
  unfold F_X4_sets at z0
  refine gq_aload_n C dX4_sets_0 rfl 0 rfl ?_
  obtain ⟨m3, eo2, z1⟩ := bind_ex z0
  refine gq_V (As := []) (rest := []) (j := 5) C (c_X4_record hN  eo2) (qn_m 295 (by decide) hN) (by decide) (by decide) rfl wk_8_176 wk_8_178 ws_X4_record wk_1_9 wk_8_179 hd_X4_record ⟨(Nat.le_of_ble_eq_true rfl), (Nat.le_of_ble_eq_true rfl)⟩ (Nat.le_of_ble_eq_true rfl) ⟨(Nat.le_of_ble_eq_true rfl), (Nat.le_of_ble_eq_true rfl)⟩ dX4_sets_1 rfl rfl ?_
  refine gq_aload_n C dX4_sets_4 rfl 0 rfl ?_
  refine gq_get5 C (qn_m 295 (by decide) hN) (by decide) 1 (by decide) wk_6_163 rfl dX4_sets_5 ?_
  refine gq_iload_n C dX4_sets_8 rfl 1 rfl ?_
  obtain ⟨x4, ex4, z5⟩ := bind_ex z1
  refine gq_ialoadI C (qn_m 296 (by decide) hN) (by decide) ex4 dX4_sets_9 ?_
  refine gq_istore_n (lv' := [(3, .int x4), (0, .ref (eB E + 295)), (1, .int p1), (2, .int p2)]) C dX4_sets_10 rfl (by decide) rfl ?_
  refine gq_aload_n C dX4_sets_11 rfl 1 rfl ?_
  refine gq_get5 C (qn_m 295 (by decide) hN) (by decide) 1 (by decide) wk_6_163 rfl dX4_sets_12 ?_
  refine gq_iload_n C dX4_sets_15 rfl 2 rfl ?_
  refine gq_iload_n C dX4_sets_16 rfl 3 rfl ?_
  obtain ⟨m6, em6, z7⟩ := bind_ex z5
  refine gq_iastore C (qn_m 296 (by decide) hN) (by decide) em6 dX4_sets_17 ?_
  refine gq_iload_n C dX4_sets_18 rfl 0 rfl ?_
  cases z7
  exact gq_iret C hr dX4_sets_19 (Nat.le_of_ble_eq_true rfl) (Nat.le_of_ble_eq_true rfl)
abbrev rm_X4_setKeep : Room := { frames := 2, cells := 0, slots := 0, locals := 44 }
def F_X4_setKeep (p1 : Int32) (p2 : Int32) (μ : Mm) : Option (Int32 × Mm) :=
  (F_X4_isRight p1 μ).bind fun o2 =>
  (if o2 = 0 then
  (some (1 : Int32))
  else
  ((F_X4_inRange p2 (0 : Int32) (100 : Int32) μ).bind fun o10 =>
  if o10 = 0 then
  (some (2 : Int32))
  else
  (some (0 : Int32)))).bind fun o14 =>
  (some (uI μ 295 0 o14)).bind fun m15 =>
  if (m15.1 295 0) ≤ 0 then
  ((F_X4_rightAt p1 (6 : Int32) m15).bind fun o20 =>
  (F_X4_sets o20 p2 m15).bind fun o23 =>
  some (o23.1, o23.2))
  else
  (some ((0 : Int32), m15))
set_option maxHeartbeats 4000000 in
set_option maxRecDepth 100000 in
theorem c_X4_setKeep {l : Launch} {E : Ev} (hN : 311 ≤ eN E) {p1 : Int32} {p2 : Int32} {μ : Mm} {r : Int32} {μ' : Mm} (z0 : F_X4_setKeep p1 p2 μ = some (r, μ')) : Ct l E yX4_setKeep (Cond.code yX4_setKeep cX4_setKeep 3 (some .int) :: GW) rm_X4_setKeep [.ref (eB E + 295), .int p1, .int p2] μ (some (.int r)) μ' := by
  refine ct_of (by decide) (Nat.le_of_ble_eq_true rfl) (fun p e s m args below meth c C hr => ?_)
  have C : Cq E p s m args meth c cX4_setKeep 3 RX4 := C
  refine gq_lv (lv' := [(0, .ref (eB E + 295)), (1, .int p1), (2, .int p2)]) rfl ?_
  unfold F_X4_setKeep at z0
  refine gq_aload_n C dX4_setKeep_0 rfl 0 rfl ?_
  refine gq_aload_n C dX4_setKeep_1 rfl 0 rfl ?_
  refine gq_iload_n C dX4_setKeep_2 rfl 1 rfl ?_
  obtain ⟨x3, eo2, z1⟩ := bind_ex z0
  refine gq_V (As := [.int p1]) (rest := [.ref (eB E + 295)]) (j := 5) C (c_X4_isRight hN  eo2) (qn_m 295 (by decide) hN) (by decide) (by decide) rfl wk_7_175 wk_7_177 ws_X4_isRight wk_1_9 wk_7_178 hd_X4_isRight ⟨(Nat.le_of_ble_eq_true rfl), (Nat.le_of_ble_eq_true rfl)⟩ (Nat.le_of_ble_eq_true rfl) ⟨(Nat.le_of_ble_eq_true rfl), (Nat.le_of_ble_eq_true rfl)⟩ dX4_setKeep_3 rfl rfl ?_
  obtain ⟨x4, z5, z6⟩ := bind_ex z1
  refine gq_join (k' := 0) (n' := 0) (pc' := 28) (lv' := [(0, .ref (eB E + 295)), (1, .int p1), (2, .int p2)]) (st' := [.int x4, .ref (eB E + 295)]) (μ' := μ) ?_ (fun J28 => ?_)
  · obtain ⟨m15, em15, z16⟩ := bind_ex z6
    refine gq_put5_0 C (qn_m 295 (by decide) hN) (by decide) wk_6_162 (Option.some.inj em15).symm dX4_setKeep_28 ?_
    refine gq_aload_n C dX4_setKeep_31 rfl 0 rfl ?_
    refine gq_get5 C (qn_m 295 (by decide) hN) (by decide) 0 (by decide) wk_6_162 rfl dX4_setKeep_32 ?_
    rcases ite_ex z16 with ⟨c17, z18⟩ | ⟨c17, z18⟩
    · refine gq_if_le_t (tgt := 42) C dX4_setKeep_35 (by decide) c17 ?_
      refine gq_aload_n C dX4_setKeep_42 rfl 0 rfl ?_
      refine gq_iload_n C dX4_setKeep_43 rfl 1 rfl ?_
      refine gq_bipush (v := 6) C dX4_setKeep_44 (by decide) ?_
      obtain ⟨x21, eo20, z19⟩ := bind_ex z18
      refine gq_S (As := [.int p1, .int (6 : Int32)]) (rest := [.ref (eB E + 295)]) C (c_X4_rightAt hN  eo20) wk_7_88 wk_7_89 wk_1_9 wk_7_90 hd_X4_rightAt ⟨(Nat.le_of_ble_eq_true rfl), (Nat.le_of_ble_eq_true rfl)⟩ (Nat.le_of_ble_eq_true rfl) ⟨(Nat.le_of_ble_eq_true rfl), (Nat.le_of_ble_eq_true rfl)⟩ dX4_setKeep_46 rfl rfl ?_
      refine gq_iload_n C dX4_setKeep_49 rfl 2 rfl ?_
      obtain ⟨⟨x24, m25⟩, eo23, z22⟩ := bind_ex z19
      dsimp only at z22
      refine gq_V (As := [.int x21, .int p2]) (rest := []) (j := 5) C (c_X4_sets hN  eo23) (qn_m 295 (by decide) hN) (by decide) (by decide) rfl wk_8_196 wk_8_198 ws_X4_sets wk_1_9 wk_8_199 hd_X4_sets ⟨(Nat.le_of_ble_eq_true rfl), (Nat.le_of_ble_eq_true rfl)⟩ (Nat.le_of_ble_eq_true rfl) ⟨(Nat.le_of_ble_eq_true rfl), (Nat.le_of_ble_eq_true rfl)⟩ dX4_setKeep_50 rfl rfl ?_
      cases z22
      exact gq_iret C hr dX4_setKeep_53 (Nat.le_of_ble_eq_true rfl) (Nat.le_of_ble_eq_true rfl)
    · refine gq_if_le_f (tgt := 42) C dX4_setKeep_35 (by decide) c17 ?_
      refine gq_iconst (v := 0) C dX4_setKeep_38 (by decide) ?_
      refine gq_goto (tgt := 53) C dX4_setKeep_39 (by decide) ?_
      cases z18
      exact gq_iret C hr dX4_setKeep_53 (Nat.le_of_ble_eq_true rfl) (Nat.le_of_ble_eq_true rfl)
  · rcases ite_ex z5 with ⟨c7, z8⟩ | ⟨c7, z8⟩
    · refine gq_if_ne_f (tgt := 13) C dX4_setKeep_6 (by decide) c7 ?_
      refine gq_iconst (v := 1) C dX4_setKeep_9 (by decide) ?_
      refine gq_goto (tgt := 28) C dX4_setKeep_10 (by decide) ?_
      cases z8
      exact gq_widen (Nat.le_of_ble_eq_true rfl) (Nat.le_of_ble_eq_true rfl) (gq_sub [0, 1, 2] rfl J28)
    · refine gq_if_ne_t (tgt := 13) C dX4_setKeep_6 (by decide) c7 ?_
      refine gq_iload_n C dX4_setKeep_13 rfl 2 rfl ?_
      refine gq_iconst (v := 0) C dX4_setKeep_14 (by decide) ?_
      refine gq_bipush (v := 100) C dX4_setKeep_15 (by decide) ?_
      obtain ⟨x11, eo10, z9⟩ := bind_ex z8
      refine gq_S (As := [.int p2, .int (0 : Int32), .int (100 : Int32)]) (rest := [.ref (eB E + 295)]) C (c_X4_inRange hN  eo10) wk_7_50 wk_7_51 wk_1_9 wk_7_52 hd_X4_inRange ⟨(Nat.le_of_ble_eq_true rfl), (Nat.le_of_ble_eq_true rfl)⟩ (Nat.le_of_ble_eq_true rfl) ⟨(Nat.le_of_ble_eq_true rfl), (Nat.le_of_ble_eq_true rfl)⟩ dX4_setKeep_17 rfl rfl ?_
      rcases ite_ex z9 with ⟨c12, z13⟩ | ⟨c12, z13⟩
      · refine gq_if_ne_f (tgt := 27) C dX4_setKeep_20 (by decide) c12 ?_
        refine gq_iconst (v := 2) C dX4_setKeep_23 (by decide) ?_
        refine gq_goto (tgt := 28) C dX4_setKeep_24 (by decide) ?_
        cases z13
        exact gq_widen (Nat.le_of_ble_eq_true rfl) (Nat.le_of_ble_eq_true rfl) (gq_sub [0, 1, 2] rfl J28)
      · refine gq_if_ne_t (tgt := 27) C dX4_setKeep_20 (by decide) c12 ?_
        refine gq_iconst (v := 0) C dX4_setKeep_27 (by decide) ?_
        cases z13
        exact gq_widen (Nat.le_of_ble_eq_true rfl) (Nat.le_of_ble_eq_true rfl) (gq_sub [0, 1, 2] rfl J28)
abbrev rm_X4_setMinimum : Room := { frames := 2, cells := 0, slots := 0, locals := 44 }
def F_X4_setMinimum (p1 : Int32) (p2 : Int32) (μ : Mm) : Option (Int32 × Mm) :=
  (F_X4_isReach p1 μ).bind fun o2 =>
  (if o2 = 0 then
  (some (1 : Int32))
  else
  ((F_X4_inRange p2 (0 : Int32) (999 : Int32) μ).bind fun o10 =>
  if o10 = 0 then
  (some (2 : Int32))
  else
  (some (0 : Int32)))).bind fun o14 =>
  (some (uI μ 295 0 o14)).bind fun m15 =>
  if (m15.1 295 0) ≤ 0 then
  ((F_X4_sets ((14 : Int32) + p1) p2 m15).bind fun o20 =>
  some (o20.1, o20.2))
  else
  (some ((0 : Int32), m15))
set_option maxHeartbeats 4000000 in
set_option maxRecDepth 100000 in
theorem c_X4_setMinimum {l : Launch} {E : Ev} (hN : 311 ≤ eN E) {p1 : Int32} {p2 : Int32} {μ : Mm} {r : Int32} {μ' : Mm} (z0 : F_X4_setMinimum p1 p2 μ = some (r, μ')) : Ct l E yX4_setMinimum (Cond.code yX4_setMinimum cX4_setMinimum 3 (some .int) :: GW) rm_X4_setMinimum [.ref (eB E + 295), .int p1, .int p2] μ (some (.int r)) μ' := by
  refine ct_of (by decide) (Nat.le_of_ble_eq_true rfl) (fun p e s m args below meth c C hr => ?_)
  have C : Cq E p s m args meth c cX4_setMinimum 3 RX4 := C
  refine gq_lv (lv' := [(0, .ref (eB E + 295)), (1, .int p1), (2, .int p2)]) rfl ?_
  unfold F_X4_setMinimum at z0
  refine gq_aload_n C dX4_setMinimum_0 rfl 0 rfl ?_
  refine gq_aload_n C dX4_setMinimum_1 rfl 0 rfl ?_
  refine gq_iload_n C dX4_setMinimum_2 rfl 1 rfl ?_
  obtain ⟨x3, eo2, z1⟩ := bind_ex z0
  refine gq_V (As := [.int p1]) (rest := [.ref (eB E + 295)]) (j := 5) C (c_X4_isReach hN  eo2) (qn_m 295 (by decide) hN) (by decide) (by decide) rfl wk_7_147 wk_7_149 ws_X4_isReach wk_1_9 wk_7_150 hd_X4_isReach ⟨(Nat.le_of_ble_eq_true rfl), (Nat.le_of_ble_eq_true rfl)⟩ (Nat.le_of_ble_eq_true rfl) ⟨(Nat.le_of_ble_eq_true rfl), (Nat.le_of_ble_eq_true rfl)⟩ dX4_setMinimum_3 rfl rfl ?_
  obtain ⟨x4, z5, z6⟩ := bind_ex z1
  refine gq_join (k' := 0) (n' := 0) (pc' := 29) (lv' := [(0, .ref (eB E + 295)), (1, .int p1), (2, .int p2)]) (st' := [.int x4, .ref (eB E + 295)]) (μ' := μ) ?_ (fun J29 => ?_)
  · obtain ⟨m15, em15, z16⟩ := bind_ex z6
    refine gq_put5_0 C (qn_m 295 (by decide) hN) (by decide) wk_6_162 (Option.some.inj em15).symm dX4_setMinimum_29 ?_
    refine gq_aload_n C dX4_setMinimum_32 rfl 0 rfl ?_
    refine gq_get5 C (qn_m 295 (by decide) hN) (by decide) 0 (by decide) wk_6_162 rfl dX4_setMinimum_33 ?_
    rcases ite_ex z16 with ⟨c17, z18⟩ | ⟨c17, z18⟩
    · refine gq_if_le_t (tgt := 43) C dX4_setMinimum_36 (by decide) c17 ?_
      refine gq_aload_n C dX4_setMinimum_43 rfl 0 rfl ?_
      refine gq_bipush (v := 14) C dX4_setMinimum_44 (by decide) ?_
      refine gq_iload_n C dX4_setMinimum_46 rfl 1 rfl ?_
      refine gq_iadd C dX4_setMinimum_47 ?_
      refine gq_iload_n C dX4_setMinimum_48 rfl 2 rfl ?_
      obtain ⟨⟨x21, m22⟩, eo20, z19⟩ := bind_ex z18
      dsimp only at z19
      refine gq_V (As := [.int ((14 : Int32) + p1), .int p2]) (rest := []) (j := 5) C (c_X4_sets hN  eo20) (qn_m 295 (by decide) hN) (by decide) (by decide) rfl wk_8_196 wk_8_198 ws_X4_sets wk_1_9 wk_8_199 hd_X4_sets ⟨(Nat.le_of_ble_eq_true rfl), (Nat.le_of_ble_eq_true rfl)⟩ (Nat.le_of_ble_eq_true rfl) ⟨(Nat.le_of_ble_eq_true rfl), (Nat.le_of_ble_eq_true rfl)⟩ dX4_setMinimum_49 rfl rfl ?_
      cases z19
      exact gq_iret C hr dX4_setMinimum_52 (Nat.le_of_ble_eq_true rfl) (Nat.le_of_ble_eq_true rfl)
    · refine gq_if_le_f (tgt := 43) C dX4_setMinimum_36 (by decide) c17 ?_
      refine gq_iconst (v := 0) C dX4_setMinimum_39 (by decide) ?_
      refine gq_goto (tgt := 52) C dX4_setMinimum_40 (by decide) ?_
      cases z18
      exact gq_iret C hr dX4_setMinimum_52 (Nat.le_of_ble_eq_true rfl) (Nat.le_of_ble_eq_true rfl)
  · rcases ite_ex z5 with ⟨c7, z8⟩ | ⟨c7, z8⟩
    · refine gq_if_ne_f (tgt := 13) C dX4_setMinimum_6 (by decide) c7 ?_
      refine gq_iconst (v := 1) C dX4_setMinimum_9 (by decide) ?_
      refine gq_goto (tgt := 29) C dX4_setMinimum_10 (by decide) ?_
      cases z8
      exact gq_widen (Nat.le_of_ble_eq_true rfl) (Nat.le_of_ble_eq_true rfl) (gq_sub [0, 1, 2] rfl J29)
    · refine gq_if_ne_t (tgt := 13) C dX4_setMinimum_6 (by decide) c7 ?_
      refine gq_iload_n C dX4_setMinimum_13 rfl 2 rfl ?_
      refine gq_iconst (v := 0) C dX4_setMinimum_14 (by decide) ?_
      refine gq_sipush (v := 999) C dX4_setMinimum_15 (by decide) ?_
      obtain ⟨x11, eo10, z9⟩ := bind_ex z8
      refine gq_S (As := [.int p2, .int (0 : Int32), .int (999 : Int32)]) (rest := [.ref (eB E + 295)]) C (c_X4_inRange hN  eo10) wk_7_50 wk_7_51 wk_1_9 wk_7_52 hd_X4_inRange ⟨(Nat.le_of_ble_eq_true rfl), (Nat.le_of_ble_eq_true rfl)⟩ (Nat.le_of_ble_eq_true rfl) ⟨(Nat.le_of_ble_eq_true rfl), (Nat.le_of_ble_eq_true rfl)⟩ dX4_setMinimum_18 rfl rfl ?_
      rcases ite_ex z9 with ⟨c12, z13⟩ | ⟨c12, z13⟩
      · refine gq_if_ne_f (tgt := 28) C dX4_setMinimum_21 (by decide) c12 ?_
        refine gq_iconst (v := 2) C dX4_setMinimum_24 (by decide) ?_
        refine gq_goto (tgt := 29) C dX4_setMinimum_25 (by decide) ?_
        cases z13
        exact gq_widen (Nat.le_of_ble_eq_true rfl) (Nat.le_of_ble_eq_true rfl) (gq_sub [0, 1, 2] rfl J29)
      · refine gq_if_ne_t (tgt := 28) C dX4_setMinimum_21 (by decide) c12 ?_
        refine gq_iconst (v := 0) C dX4_setMinimum_28 (by decide) ?_
        cases z13
        exact gq_widen (Nat.le_of_ble_eq_true rfl) (Nat.le_of_ble_eq_true rfl) (gq_sub [0, 1, 2] rfl J29)
abbrev rm_X4_transfer : Room := { frames := 2, cells := 0, slots := 0, locals := 44 }
def F_X4_transfer (p1 : Int32) (p2 : Int32) (p3 : Int32) (μ : Mm) : Option (Int32 × Mm) :=
  (F_X4_isRight p1 μ).bind fun o2 =>
  (if o2 = 0 then
  (some (1 : Int32))
  else
  ((F_X4_isAccount p2 μ).bind fun o10 =>
  if o10 = 0 then
  (some (1 : Int32))
  else
  ((F_X4_inRange p3 (0 : Int32) (9999 : Int32) μ).bind fun o15 =>
  if o15 = 0 then
  (some (2 : Int32))
  else
  (some (0 : Int32))))).bind fun o19 =>
  (some (uI μ 295 0 o19)).bind fun m20 =>
  if (m20.1 295 0) ≤ 0 then
  ((F_X4_rightAt p1 (0 : Int32) m20).bind fun o25 =>
  (F_X4_sets o25 p2 m20).bind fun o28 =>
  (F_X4_pays p2 o28.1 (Int32.toInt64 p3) o28.2).bind fun o32 =>
  some (o28.1, o32))
  else
  (some ((0 : Int32), m20))
set_option maxHeartbeats 4000000 in
set_option maxRecDepth 100000 in
theorem c_X4_transfer {l : Launch} {E : Ev} (hN : 311 ≤ eN E) {p1 : Int32} {p2 : Int32} {p3 : Int32} {μ : Mm} {r : Int32} {μ' : Mm} (z0 : F_X4_transfer p1 p2 p3 μ = some (r, μ')) : Ct l E yX4_transfer (Cond.code yX4_transfer cX4_transfer 5 (some .int) :: GW) rm_X4_transfer [.ref (eB E + 295), .int p1, .int p2, .int p3] μ (some (.int r)) μ' := by
  refine ct_of (by decide) (Nat.le_of_ble_eq_true rfl) (fun p e s m args below meth c C hr => ?_)
  have C : Cq E p s m args meth c cX4_transfer 5 RX4 := C
  refine gq_lv (lv' := [(0, .ref (eB E + 295)), (1, .int p1), (2, .int p2), (3, .int p3)]) rfl ?_
  unfold F_X4_transfer at z0
  refine gq_aload_n C dX4_transfer_0 rfl 0 rfl ?_
  refine gq_aload_n C dX4_transfer_1 rfl 0 rfl ?_
  refine gq_iload_n C dX4_transfer_2 rfl 1 rfl ?_
  obtain ⟨x3, eo2, z1⟩ := bind_ex z0
  refine gq_V (As := [.int p1]) (rest := [.ref (eB E + 295)]) (j := 5) C (c_X4_isRight hN  eo2) (qn_m 295 (by decide) hN) (by decide) (by decide) rfl wk_7_175 wk_7_177 ws_X4_isRight wk_1_9 wk_7_178 hd_X4_isRight ⟨(Nat.le_of_ble_eq_true rfl), (Nat.le_of_ble_eq_true rfl)⟩ (Nat.le_of_ble_eq_true rfl) ⟨(Nat.le_of_ble_eq_true rfl), (Nat.le_of_ble_eq_true rfl)⟩ dX4_transfer_3 rfl rfl ?_
  obtain ⟨x4, z5, z6⟩ := bind_ex z1
  refine gq_join (k' := 0) (n' := 0) (pc' := 37) (lv' := [(0, .ref (eB E + 295)), (1, .int p1), (2, .int p2), (3, .int p3)]) (st' := [.int x4, .ref (eB E + 295)]) (μ' := μ) ?_ (fun J37 => ?_)
  · obtain ⟨m20, em20, z21⟩ := bind_ex z6
    refine gq_put5_0 C (qn_m 295 (by decide) hN) (by decide) wk_6_162 (Option.some.inj em20).symm dX4_transfer_37 ?_
    refine gq_aload_n C dX4_transfer_40 rfl 0 rfl ?_
    refine gq_get5 C (qn_m 295 (by decide) hN) (by decide) 0 (by decide) wk_6_162 rfl dX4_transfer_41 ?_
    rcases ite_ex z21 with ⟨c22, z23⟩ | ⟨c22, z23⟩
    · refine gq_if_le_t (tgt := 49) C dX4_transfer_44 (by decide) c22 ?_
      refine gq_aload_n C dX4_transfer_49 rfl 0 rfl ?_
      refine gq_iload_n C dX4_transfer_50 rfl 1 rfl ?_
      refine gq_iconst (v := 0) C dX4_transfer_51 (by decide) ?_
      obtain ⟨x26, eo25, z24⟩ := bind_ex z23
      refine gq_S (As := [.int p1, .int (0 : Int32)]) (rest := [.ref (eB E + 295)]) C (c_X4_rightAt hN  eo25) wk_7_88 wk_7_89 wk_1_9 wk_7_90 hd_X4_rightAt ⟨(Nat.le_of_ble_eq_true rfl), (Nat.le_of_ble_eq_true rfl)⟩ (Nat.le_of_ble_eq_true rfl) ⟨(Nat.le_of_ble_eq_true rfl), (Nat.le_of_ble_eq_true rfl)⟩ dX4_transfer_52 rfl rfl ?_
      refine gq_iload_n C dX4_transfer_55 rfl 2 rfl ?_
      obtain ⟨⟨x29, m30⟩, eo28, z27⟩ := bind_ex z24
      dsimp only at z27
      refine gq_V (As := [.int x26, .int p2]) (rest := []) (j := 5) C (c_X4_sets hN  eo28) (qn_m 295 (by decide) hN) (by decide) (by decide) rfl wk_8_196 wk_8_198 ws_X4_sets wk_1_9 wk_8_199 hd_X4_sets ⟨(Nat.le_of_ble_eq_true rfl), (Nat.le_of_ble_eq_true rfl)⟩ (Nat.le_of_ble_eq_true rfl) ⟨(Nat.le_of_ble_eq_true rfl), (Nat.le_of_ble_eq_true rfl)⟩ dX4_transfer_56 rfl rfl ?_
      refine gq_istore (lv' := [(4, .int x29), (0, .ref (eB E + 295)), (1, .int p1), (2, .int p2), (3, .int p3)]) C dX4_transfer_59 (by decide) rfl ?_
      refine gq_aload_n C dX4_transfer_61 rfl 1 rfl ?_
      refine gq_iload_n C dX4_transfer_62 rfl 3 rfl ?_
      refine gq_iload C dX4_transfer_63 0 rfl ?_
      refine gq_iload_n C dX4_transfer_65 rfl 4 rfl ?_
      refine gq_i2l C dX4_transfer_66 ?_
      obtain ⟨m33, eo32, z31⟩ := bind_ex z27
      refine gq_V (As := [.int p2, .int x29, .long (Int32.toInt64 p3)]) (rest := []) (j := 5) C (c_X4_pays hN  eo32) (qn_m 295 (by decide) hN) (by decide) (by decide) rfl wk_8_83 wk_8_85 ws_X4_pays wk_1_9 wk_8_86 hd_X4_pays ⟨(Nat.le_of_ble_eq_true rfl), (Nat.le_of_ble_eq_true rfl)⟩ (Nat.le_of_ble_eq_true rfl) ⟨(Nat.le_of_ble_eq_true rfl), (Nat.le_of_ble_eq_true rfl)⟩ dX4_transfer_67 rfl rfl ?_
      refine gq_iload C dX4_transfer_70 0 rfl ?_
      cases z31
      exact gq_iret C hr dX4_transfer_72 (Nat.le_of_ble_eq_true rfl) (Nat.le_of_ble_eq_true rfl)
    · refine gq_if_le_f (tgt := 49) C dX4_transfer_44 (by decide) c22 ?_
      refine gq_iconst (v := 0) C dX4_transfer_47 (by decide) ?_
      cases z23
      exact gq_iret C hr dX4_transfer_48 (Nat.le_of_ble_eq_true rfl) (Nat.le_of_ble_eq_true rfl)
  · rcases ite_ex z5 with ⟨c7, z8⟩ | ⟨c7, z8⟩
    · refine gq_if_eq_t (tgt := 17) C dX4_transfer_6 (by decide) c7 ?_
      refine gq_iconst (v := 1) C dX4_transfer_17 (by decide) ?_
      refine gq_goto (tgt := 37) C dX4_transfer_18 (by decide) ?_
      cases z8
      exact gq_widen (Nat.le_of_ble_eq_true rfl) (Nat.le_of_ble_eq_true rfl) (gq_sub [0, 1, 2, 3] rfl J37)
    · refine gq_if_eq_f (tgt := 17) C dX4_transfer_6 (by decide) c7 ?_
      refine gq_aload_n C dX4_transfer_9 rfl 0 rfl ?_
      refine gq_iload_n C dX4_transfer_10 rfl 2 rfl ?_
      obtain ⟨x11, eo10, z9⟩ := bind_ex z8
      refine gq_V (As := [.int p2]) (rest := [.ref (eB E + 295)]) (j := 5) C (c_X4_isAccount hN  eo10) (qn_m 295 (by decide) hN) (by decide) (by decide) rfl wk_7_163 wk_7_165 ws_X4_isAccount wk_1_9 wk_7_166 hd_X4_isAccount ⟨(Nat.le_of_ble_eq_true rfl), (Nat.le_of_ble_eq_true rfl)⟩ (Nat.le_of_ble_eq_true rfl) ⟨(Nat.le_of_ble_eq_true rfl), (Nat.le_of_ble_eq_true rfl)⟩ dX4_transfer_11 rfl rfl ?_
      rcases ite_ex z9 with ⟨c12, z13⟩ | ⟨c12, z13⟩
      · refine gq_if_ne_f (tgt := 21) C dX4_transfer_14 (by decide) c12 ?_
        refine gq_iconst (v := 1) C dX4_transfer_17 (by decide) ?_
        refine gq_goto (tgt := 37) C dX4_transfer_18 (by decide) ?_
        cases z13
        exact gq_widen (Nat.le_of_ble_eq_true rfl) (Nat.le_of_ble_eq_true rfl) (gq_sub [0, 1, 2, 3] rfl J37)
      · refine gq_if_ne_t (tgt := 21) C dX4_transfer_14 (by decide) c12 ?_
        refine gq_iload_n C dX4_transfer_21 rfl 3 rfl ?_
        refine gq_iconst (v := 0) C dX4_transfer_22 (by decide) ?_
        refine gq_sipush (v := 9999) C dX4_transfer_23 (by decide) ?_
        obtain ⟨x16, eo15, z14⟩ := bind_ex z13
        refine gq_S (As := [.int p3, .int (0 : Int32), .int (9999 : Int32)]) (rest := [.ref (eB E + 295)]) C (c_X4_inRange hN  eo15) wk_7_50 wk_7_51 wk_1_9 wk_7_52 hd_X4_inRange ⟨(Nat.le_of_ble_eq_true rfl), (Nat.le_of_ble_eq_true rfl)⟩ (Nat.le_of_ble_eq_true rfl) ⟨(Nat.le_of_ble_eq_true rfl), (Nat.le_of_ble_eq_true rfl)⟩ dX4_transfer_26 rfl rfl ?_
        rcases ite_ex z14 with ⟨c17, z18⟩ | ⟨c17, z18⟩
        · refine gq_if_ne_f (tgt := 36) C dX4_transfer_29 (by decide) c17 ?_
          refine gq_iconst (v := 2) C dX4_transfer_32 (by decide) ?_
          refine gq_goto (tgt := 37) C dX4_transfer_33 (by decide) ?_
          cases z18
          exact gq_widen (Nat.le_of_ble_eq_true rfl) (Nat.le_of_ble_eq_true rfl) (gq_sub [0, 1, 2, 3] rfl J37)
        · refine gq_if_ne_t (tgt := 36) C dX4_transfer_29 (by decide) c17 ?_
          refine gq_iconst (v := 0) C dX4_transfer_36 (by decide) ?_
          cases z18
          exact gq_widen (Nat.le_of_ble_eq_true rfl) (Nat.le_of_ble_eq_true rfl) (gq_sub [0, 1, 2, 3] rfl J37)
abbrev rm_X4_swap : Room := { frames := 2, cells := 0, slots := 0, locals := 44 }
def F_X4_swap (p1 : Int32) (p2 : Int32) (μ : Mm) : Option (Int32 × Mm) :=
  (F_X4_isRight p1 μ).bind fun o2 =>
  (if o2 = 0 then
  (some (1 : Int32))
  else
  ((F_X4_isRight p2 μ).bind fun o10 =>
  if o10 = 0 then
  (some (1 : Int32))
  else
  ((F_X4_rightOf p1 (0 : Int32) μ).bind fun o15 =>
  (F_X4_rightOf p2 (0 : Int32) μ).bind fun o18 =>
  if o15 = o18 then
  (some (0 : Int32))
  else
  (some (2 : Int32))))).bind fun o22 =>
  (some (uI μ 295 0 o22)).bind fun m23 =>
  if (m23.1 295 0) ≤ 0 then
  ((F_X4_rightAt p1 (2 : Int32) m23).bind fun o28 =>
  (F_X4_rightOf p2 (2 : Int32) m23).bind fun o31 =>
  (F_X4_sets o28 o31 m23).bind fun o34 =>
  (F_X4_rightAt p2 (2 : Int32) o34.2).bind fun o38 =>
  (sI o34.2 296 o38 o34.1).bind fun m40 =>
  (F_X4_rightOf p1 (2 : Int32) m40).bind fun o43 =>
  some (o43, m40))
  else
  (some ((0 : Int32), m23))
set_option maxHeartbeats 4000000 in
set_option maxRecDepth 100000 in
theorem c_X4_swap {l : Launch} {E : Ev} (hN : 311 ≤ eN E) {p1 : Int32} {p2 : Int32} {μ : Mm} {r : Int32} {μ' : Mm} (z0 : F_X4_swap p1 p2 μ = some (r, μ')) : Ct l E yX4_swap (Cond.code yX4_swap cX4_swap 4 (some .int) :: GW) rm_X4_swap [.ref (eB E + 295), .int p1, .int p2] μ (some (.int r)) μ' := by
  refine ct_of (by decide) (Nat.le_of_ble_eq_true rfl) (fun p e s m args below meth c C hr => ?_)
  have C : Cq E p s m args meth c cX4_swap 4 RX4 := C
  refine gq_lv (lv' := [(0, .ref (eB E + 295)), (1, .int p1), (2, .int p2)]) rfl ?_
  unfold F_X4_swap at z0
  refine gq_aload_n C dX4_swap_0 rfl 0 rfl ?_
  refine gq_aload_n C dX4_swap_1 rfl 0 rfl ?_
  refine gq_iload_n C dX4_swap_2 rfl 1 rfl ?_
  obtain ⟨x3, eo2, z1⟩ := bind_ex z0
  refine gq_V (As := [.int p1]) (rest := [.ref (eB E + 295)]) (j := 5) C (c_X4_isRight hN  eo2) (qn_m 295 (by decide) hN) (by decide) (by decide) rfl wk_7_175 wk_7_177 ws_X4_isRight wk_1_9 wk_7_178 hd_X4_isRight ⟨(Nat.le_of_ble_eq_true rfl), (Nat.le_of_ble_eq_true rfl)⟩ (Nat.le_of_ble_eq_true rfl) ⟨(Nat.le_of_ble_eq_true rfl), (Nat.le_of_ble_eq_true rfl)⟩ dX4_swap_3 rfl rfl ?_
  obtain ⟨x4, z5, z6⟩ := bind_ex z1
  refine gq_join (k' := 0) (n' := 0) (pc' := 41) (lv' := [(0, .ref (eB E + 295)), (1, .int p1), (2, .int p2)]) (st' := [.int x4, .ref (eB E + 295)]) (μ' := μ) ?_ (fun J41 => ?_)
  · obtain ⟨m23, em23, z24⟩ := bind_ex z6
    refine gq_put5_0 C (qn_m 295 (by decide) hN) (by decide) wk_6_162 (Option.some.inj em23).symm dX4_swap_41 ?_
    refine gq_aload_n C dX4_swap_44 rfl 0 rfl ?_
    refine gq_get5 C (qn_m 295 (by decide) hN) (by decide) 0 (by decide) wk_6_162 rfl dX4_swap_45 ?_
    rcases ite_ex z24 with ⟨c25, z26⟩ | ⟨c25, z26⟩
    · refine gq_if_le_t (tgt := 53) C dX4_swap_48 (by decide) c25 ?_
      refine gq_aload_n C dX4_swap_53 rfl 0 rfl ?_
      refine gq_iload_n C dX4_swap_54 rfl 1 rfl ?_
      refine gq_iconst (v := 2) C dX4_swap_55 (by decide) ?_
      obtain ⟨x29, eo28, z27⟩ := bind_ex z26
      refine gq_S (As := [.int p1, .int (2 : Int32)]) (rest := [.ref (eB E + 295)]) C (c_X4_rightAt hN  eo28) wk_7_88 wk_7_89 wk_1_9 wk_7_90 hd_X4_rightAt ⟨(Nat.le_of_ble_eq_true rfl), (Nat.le_of_ble_eq_true rfl)⟩ (Nat.le_of_ble_eq_true rfl) ⟨(Nat.le_of_ble_eq_true rfl), (Nat.le_of_ble_eq_true rfl)⟩ dX4_swap_56 rfl rfl ?_
      refine gq_aload_n C dX4_swap_59 rfl 0 rfl ?_
      refine gq_iload_n C dX4_swap_60 rfl 2 rfl ?_
      refine gq_iconst (v := 2) C dX4_swap_61 (by decide) ?_
      obtain ⟨x32, eo31, z30⟩ := bind_ex z27
      refine gq_V (As := [.int p2, .int (2 : Int32)]) (rest := [.int x29, .ref (eB E + 295)]) (j := 5) C (c_X4_rightOf hN  eo31) (qn_m 295 (by decide) hN) (by decide) (by decide) rfl wk_7_179 wk_7_181 ws_X4_rightOf wk_1_9 wk_7_182 hd_X4_rightOf ⟨(Nat.le_of_ble_eq_true rfl), (Nat.le_of_ble_eq_true rfl)⟩ (Nat.le_of_ble_eq_true rfl) ⟨(Nat.le_of_ble_eq_true rfl), (Nat.le_of_ble_eq_true rfl)⟩ dX4_swap_62 rfl rfl ?_
      obtain ⟨⟨x35, m36⟩, eo34, z33⟩ := bind_ex z30
      dsimp only at z33
      refine gq_V (As := [.int x29, .int x32]) (rest := []) (j := 5) C (c_X4_sets hN  eo34) (qn_m 295 (by decide) hN) (by decide) (by decide) rfl wk_8_196 wk_8_198 ws_X4_sets wk_1_9 wk_8_199 hd_X4_sets ⟨(Nat.le_of_ble_eq_true rfl), (Nat.le_of_ble_eq_true rfl)⟩ (Nat.le_of_ble_eq_true rfl) ⟨(Nat.le_of_ble_eq_true rfl), (Nat.le_of_ble_eq_true rfl)⟩ dX4_swap_65 rfl rfl ?_
      refine gq_istore_n (lv' := [(3, .int x35), (0, .ref (eB E + 295)), (1, .int p1), (2, .int p2)]) C dX4_swap_68 rfl (by decide) rfl ?_
      refine gq_aload_n C dX4_swap_69 rfl 1 rfl ?_
      refine gq_get5 C (qn_m 295 (by decide) hN) (by decide) 1 (by decide) wk_6_163 rfl dX4_swap_70 ?_
      refine gq_iload_n C dX4_swap_73 rfl 3 rfl ?_
      refine gq_iconst (v := 2) C dX4_swap_74 (by decide) ?_
      obtain ⟨x39, eo38, z37⟩ := bind_ex z33
      refine gq_S (As := [.int p2, .int (2 : Int32)]) (rest := [.ref (eB E + 296)]) C (c_X4_rightAt hN  eo38) wk_7_88 wk_7_89 wk_1_9 wk_7_90 hd_X4_rightAt ⟨(Nat.le_of_ble_eq_true rfl), (Nat.le_of_ble_eq_true rfl)⟩ (Nat.le_of_ble_eq_true rfl) ⟨(Nat.le_of_ble_eq_true rfl), (Nat.le_of_ble_eq_true rfl)⟩ dX4_swap_75 rfl rfl ?_
      refine gq_iload_n C dX4_swap_78 rfl 0 rfl ?_
      obtain ⟨m40, em40, z41⟩ := bind_ex z37
      refine gq_iastore C (qn_m 296 (by decide) hN) (by decide) em40 dX4_swap_79 ?_
      refine gq_aload_n C dX4_swap_80 rfl 1 rfl ?_
      refine gq_iload_n C dX4_swap_81 rfl 2 rfl ?_
      refine gq_iconst (v := 2) C dX4_swap_82 (by decide) ?_
      obtain ⟨x44, eo43, z42⟩ := bind_ex z41
      refine gq_V (As := [.int p1, .int (2 : Int32)]) (rest := []) (j := 5) C (c_X4_rightOf hN  eo43) (qn_m 295 (by decide) hN) (by decide) (by decide) rfl wk_7_179 wk_7_181 ws_X4_rightOf wk_1_9 wk_7_182 hd_X4_rightOf ⟨(Nat.le_of_ble_eq_true rfl), (Nat.le_of_ble_eq_true rfl)⟩ (Nat.le_of_ble_eq_true rfl) ⟨(Nat.le_of_ble_eq_true rfl), (Nat.le_of_ble_eq_true rfl)⟩ dX4_swap_83 rfl rfl ?_
      cases z42
      exact gq_iret C hr dX4_swap_86 (Nat.le_of_ble_eq_true rfl) (Nat.le_of_ble_eq_true rfl)
    · refine gq_if_le_f (tgt := 53) C dX4_swap_48 (by decide) c25 ?_
      refine gq_iconst (v := 0) C dX4_swap_51 (by decide) ?_
      cases z26
      exact gq_iret C hr dX4_swap_52 (Nat.le_of_ble_eq_true rfl) (Nat.le_of_ble_eq_true rfl)
  · rcases ite_ex z5 with ⟨c7, z8⟩ | ⟨c7, z8⟩
    · refine gq_if_eq_t (tgt := 17) C dX4_swap_6 (by decide) c7 ?_
      refine gq_iconst (v := 1) C dX4_swap_17 (by decide) ?_
      refine gq_goto (tgt := 41) C dX4_swap_18 (by decide) ?_
      cases z8
      exact gq_widen (Nat.le_of_ble_eq_true rfl) (Nat.le_of_ble_eq_true rfl) (gq_sub [0, 1, 2] rfl J41)
    · refine gq_if_eq_f (tgt := 17) C dX4_swap_6 (by decide) c7 ?_
      refine gq_aload_n C dX4_swap_9 rfl 0 rfl ?_
      refine gq_iload_n C dX4_swap_10 rfl 2 rfl ?_
      obtain ⟨x11, eo10, z9⟩ := bind_ex z8
      refine gq_V (As := [.int p2]) (rest := [.ref (eB E + 295)]) (j := 5) C (c_X4_isRight hN  eo10) (qn_m 295 (by decide) hN) (by decide) (by decide) rfl wk_7_175 wk_7_177 ws_X4_isRight wk_1_9 wk_7_178 hd_X4_isRight ⟨(Nat.le_of_ble_eq_true rfl), (Nat.le_of_ble_eq_true rfl)⟩ (Nat.le_of_ble_eq_true rfl) ⟨(Nat.le_of_ble_eq_true rfl), (Nat.le_of_ble_eq_true rfl)⟩ dX4_swap_11 rfl rfl ?_
      rcases ite_ex z9 with ⟨c12, z13⟩ | ⟨c12, z13⟩
      · refine gq_if_ne_f (tgt := 21) C dX4_swap_14 (by decide) c12 ?_
        refine gq_iconst (v := 1) C dX4_swap_17 (by decide) ?_
        refine gq_goto (tgt := 41) C dX4_swap_18 (by decide) ?_
        cases z13
        exact gq_widen (Nat.le_of_ble_eq_true rfl) (Nat.le_of_ble_eq_true rfl) (gq_sub [0, 1, 2] rfl J41)
      · refine gq_if_ne_t (tgt := 21) C dX4_swap_14 (by decide) c12 ?_
        refine gq_aload_n C dX4_swap_21 rfl 0 rfl ?_
        refine gq_iload_n C dX4_swap_22 rfl 1 rfl ?_
        refine gq_iconst (v := 0) C dX4_swap_23 (by decide) ?_
        obtain ⟨x16, eo15, z14⟩ := bind_ex z13
        refine gq_V (As := [.int p1, .int (0 : Int32)]) (rest := [.ref (eB E + 295)]) (j := 5) C (c_X4_rightOf hN  eo15) (qn_m 295 (by decide) hN) (by decide) (by decide) rfl wk_7_179 wk_7_181 ws_X4_rightOf wk_1_9 wk_7_182 hd_X4_rightOf ⟨(Nat.le_of_ble_eq_true rfl), (Nat.le_of_ble_eq_true rfl)⟩ (Nat.le_of_ble_eq_true rfl) ⟨(Nat.le_of_ble_eq_true rfl), (Nat.le_of_ble_eq_true rfl)⟩ dX4_swap_24 rfl rfl ?_
        refine gq_aload_n C dX4_swap_27 rfl 0 rfl ?_
        refine gq_iload_n C dX4_swap_28 rfl 2 rfl ?_
        refine gq_iconst (v := 0) C dX4_swap_29 (by decide) ?_
        obtain ⟨x19, eo18, z17⟩ := bind_ex z14
        refine gq_V (As := [.int p2, .int (0 : Int32)]) (rest := [.int x16, .ref (eB E + 295)]) (j := 5) C (c_X4_rightOf hN  eo18) (qn_m 295 (by decide) hN) (by decide) (by decide) rfl wk_7_179 wk_7_181 ws_X4_rightOf wk_1_9 wk_7_182 hd_X4_rightOf ⟨(Nat.le_of_ble_eq_true rfl), (Nat.le_of_ble_eq_true rfl)⟩ (Nat.le_of_ble_eq_true rfl) ⟨(Nat.le_of_ble_eq_true rfl), (Nat.le_of_ble_eq_true rfl)⟩ dX4_swap_30 rfl rfl ?_
        rcases ite_ex z17 with ⟨c20, z21⟩ | ⟨c20, z21⟩
        · refine gq_icmp_eq_t (tgt := 40) C dX4_swap_33 (by decide) c20 ?_
          refine gq_iconst (v := 0) C dX4_swap_40 (by decide) ?_
          cases z21
          exact gq_widen (Nat.le_of_ble_eq_true rfl) (Nat.le_of_ble_eq_true rfl) (gq_sub [0, 1, 2] rfl J41)
        · refine gq_icmp_eq_f (tgt := 40) C dX4_swap_33 (by decide) c20 ?_
          refine gq_iconst (v := 2) C dX4_swap_36 (by decide) ?_
          refine gq_goto (tgt := 41) C dX4_swap_37 (by decide) ?_
          cases z21
          exact gq_widen (Nat.le_of_ble_eq_true rfl) (Nat.le_of_ble_eq_true rfl) (gq_sub [0, 1, 2] rfl J41)
abbrev rm_X4_save : Room := { frames := 1, cells := 0, slots := 0, locals := 22 }
def F_X4_save_43 (u1 : Int32) (u2 : Int32) : Nat → Int32 → Mm → Option Mm
  | 0, _, _ => none
  | n + 1, v3, μ =>
  if (521 : Int32) ≤ v3 then
  (some μ)
  else
  ((aI μ 296 v3).bind fun x20 =>
  (sI μ 303 (((521 : Int32) * u1) + v3) x20).bind fun m22 =>
  F_X4_save_43 u1 u2 n (v3 + 1) m22)
def F_X4_save_76 (u1 : Int32) (u2 : Int32) : Nat → Int32 → Mm → Option Mm
  | 0, _, _ => none
  | n + 1, v3, μ =>
  if (15 : Int32) ≤ v3 then
  (some μ)
  else
  ((aL μ 300 v3).bind fun x29 =>
  (sL μ 304 (((15 : Int32) * u1) + v3) x29).bind fun m31 =>
  F_X4_save_76 u1 u2 n (v3 + 1) m31)
def F_X4_save (p1 : Int32) (μ : Mm) : Option (Int32 × Mm) :=
  (F_X4_inRange p1 (0 : Int32) (1 : Int32) μ).bind fun o2 =>
  (if o2 = 0 then
  (some (1 : Int32))
  else
  (some (0 : Int32))).bind fun o9 =>
  (some (uI μ 295 0 o9)).bind fun m10 =>
  if (m10.1 295 0) ≤ 0 then
  ((aI m10 305 p1).bind fun x14 =>
  (sZ m10 305 p1 (1 : Int32)).bind fun m16 =>
  (F_X4_save_43 p1 x14 qFuel (0 : Int32) m16).bind fun o25 =>
  (F_X4_save_76 p1 x14 qFuel (0 : Int32) o25).bind fun o34 =>
  (zb x14).bind fun x36 => some (x36, o34))
  else
  (some ((0 : Int32), m10))
set_option maxHeartbeats 4000000 in
set_option maxRecDepth 100000 in
theorem l_X4_save_43 {l : Launch} {E : Ev} (hN : 311 ≤ eN E) {p : Program} {e : Env} {s : State} {m : MethodId} {args : Array Value} {below : List Frame} {meth : Method} {c : Code} (C : Cq E p s m args meth c cX4_save 4 RX4) {Q : State → Prop} {u1 : Int32} {u2 : Int32} : ∀ (n : Nat) (v3 : Int32) (μ : Mm) (μx : Mm), F_X4_save_43 u1 u2 n v3 μ = some μx → Gq E p l e rm_X4_save s m args below meth c 0 0 4 Q 74 [(0, .ref (eB E + 295)), (1, .int u1), (2, .int u2)] [] μx → Gq E p l e rm_X4_save s m args below meth c 0 0 4 Q 43 [(0, .ref (eB E + 295)), (1, .int u1), (2, .int u2), (3, .int v3)] [] μ := by
  intro n
  induction n with
  | zero =>
    intro v3 μ μx z0 kk
    rw [F_X4_save_43] at z0
    cases z0
  | succ n ih =>
    intro v3 μ μx z0 kk
    rw [F_X4_save_43] at z0
    refine gq_iload_n C dX4_save_43 rfl 3 rfl ?_
    refine gq_sipush (v := 521) C dX4_save_44 (by decide) ?_
    rcases ite_ex z0 with ⟨c18, z19⟩ | ⟨c18, z19⟩
    · refine gq_icmp_ge_t (tgt := 74) C dX4_save_47 (by decide) c18 ?_
      cases z19
      exact gq_widen (Nat.le_of_ble_eq_true rfl) (Nat.le_of_ble_eq_true rfl) (gq_sub [0, 1, 2] rfl kk)
    · refine gq_icmp_ge_f (tgt := 74) C dX4_save_47 (by decide) c18 ?_
      refine gq_aload_n C dX4_save_50 rfl 0 rfl ?_
      refine gq_get5 C (qn_m 295 (by decide) hN) (by decide) 9 (by decide) wk_6_171 rfl dX4_save_51 ?_
      refine gq_sipush (v := 521) C dX4_save_54 (by decide) ?_
      refine gq_iload_n C dX4_save_57 rfl 1 rfl ?_
      refine gq_imul C dX4_save_58 ?_
      refine gq_iload_n C dX4_save_59 rfl 3 rfl ?_
      refine gq_iadd C dX4_save_60 ?_
      refine gq_aload_n C dX4_save_61 rfl 0 rfl ?_
      refine gq_get5 C (qn_m 295 (by decide) hN) (by decide) 1 (by decide) wk_6_163 rfl dX4_save_62 ?_
      refine gq_iload_n C dX4_save_65 rfl 3 rfl ?_
      obtain ⟨x20, ex20, z21⟩ := bind_ex z19
      refine gq_ialoadI C (qn_m 296 (by decide) hN) (by decide) ex20 dX4_save_66 ?_
      obtain ⟨m22, em22, z23⟩ := bind_ex z21
      refine gq_iastore C (qn_m 303 (by decide) hN) (by decide) em22 dX4_save_67 ?_
      refine gq_iinc (v := (v3 + 1)) (lv' := [(3, .int (v3 + 1)), (0, .ref (eB E + 295)), (1, .int u1), (2, .int u2)]) (q := 3) C dX4_save_68 rfl rfl (by decide) rfl ?_
      refine gq_goto (tgt := 43) C dX4_save_71 (by decide) ?_
      refine gq_widen (k' := 0) (n' := 0) (Nat.le_of_ble_eq_true rfl) (Nat.le_of_ble_eq_true rfl) (gq_sub [1, 2, 3, 0] rfl ?_)
      exact ih _ _ _ z23 kk
set_option maxHeartbeats 4000000 in
set_option maxRecDepth 100000 in
theorem l_X4_save_76 {l : Launch} {E : Ev} (hN : 311 ≤ eN E) {p : Program} {e : Env} {s : State} {m : MethodId} {args : Array Value} {below : List Frame} {meth : Method} {c : Code} (C : Cq E p s m args meth c cX4_save 4 RX4) {Q : State → Prop} {u1 : Int32} {u2 : Int32} : ∀ (n : Nat) (v3 : Int32) (μ : Mm) (μx : Mm), F_X4_save_76 u1 u2 n v3 μ = some μx → Gq E p l e rm_X4_save s m args below meth c 0 0 4 Q 105 [(2, .int u2)] [] μx → Gq E p l e rm_X4_save s m args below meth c 0 0 4 Q 76 [(0, .ref (eB E + 295)), (1, .int u1), (2, .int u2), (3, .int v3)] [] μ := by
  intro n
  induction n with
  | zero =>
    intro v3 μ μx z0 kk
    rw [F_X4_save_76] at z0
    cases z0
  | succ n ih =>
    intro v3 μ μx z0 kk
    rw [F_X4_save_76] at z0
    refine gq_iload_n C dX4_save_76 rfl 3 rfl ?_
    refine gq_bipush (v := 15) C dX4_save_77 (by decide) ?_
    rcases ite_ex z0 with ⟨c27, z28⟩ | ⟨c27, z28⟩
    · refine gq_icmp_ge_t (tgt := 105) C dX4_save_79 (by decide) c27 ?_
      cases z28
      exact gq_widen (Nat.le_of_ble_eq_true rfl) (Nat.le_of_ble_eq_true rfl) (gq_sub [2] rfl kk)
    · refine gq_icmp_ge_f (tgt := 105) C dX4_save_79 (by decide) c27 ?_
      refine gq_aload_n C dX4_save_82 rfl 0 rfl ?_
      refine gq_get5 C (qn_m 295 (by decide) hN) (by decide) 10 (by decide) wk_6_172 rfl dX4_save_83 ?_
      refine gq_bipush (v := 15) C dX4_save_86 (by decide) ?_
      refine gq_iload_n C dX4_save_88 rfl 1 rfl ?_
      refine gq_imul C dX4_save_89 ?_
      refine gq_iload_n C dX4_save_90 rfl 3 rfl ?_
      refine gq_iadd C dX4_save_91 ?_
      refine gq_aload_n C dX4_save_92 rfl 0 rfl ?_
      refine gq_get5 C (qn_m 295 (by decide) hN) (by decide) 5 (by decide) wk_6_167 rfl dX4_save_93 ?_
      refine gq_iload_n C dX4_save_96 rfl 3 rfl ?_
      obtain ⟨x29, ex29, z30⟩ := bind_ex z28
      refine gq_laloadL C (qn_m 300 (by decide) hN) (by decide) ex29 dX4_save_97 ?_
      obtain ⟨m31, em31, z32⟩ := bind_ex z30
      refine gq_lastore C (qn_m 304 (by decide) hN) (by decide) em31 dX4_save_98 ?_
      refine gq_iinc (v := (v3 + 1)) (lv' := [(3, .int (v3 + 1)), (0, .ref (eB E + 295)), (1, .int u1), (2, .int u2)]) (q := 3) C dX4_save_99 rfl rfl (by decide) rfl ?_
      refine gq_goto (tgt := 76) C dX4_save_102 (by decide) ?_
      refine gq_widen (k' := 0) (n' := 0) (Nat.le_of_ble_eq_true rfl) (Nat.le_of_ble_eq_true rfl) (gq_sub [1, 2, 3, 0] rfl ?_)
      exact ih _ _ _ z32 kk
set_option maxHeartbeats 4000000 in
set_option maxRecDepth 100000 in
theorem c_X4_save {l : Launch} {E : Ev} (hN : 311 ≤ eN E) {p1 : Int32} {μ : Mm} {r : Int32} {μ' : Mm} (z0 : F_X4_save p1 μ = some (r, μ')) : Ct l E yX4_save (Cond.code yX4_save cX4_save 4 (some .boolean) :: GW) rm_X4_save [.ref (eB E + 295), .int p1] μ (some (.int r)) μ' := by
  refine ct_of (by decide) (Nat.le_of_ble_eq_true rfl) (fun p e s m args below meth c C hr => ?_)
  have C : Cq E p s m args meth c cX4_save 4 RX4 := C
  refine gq_lv (lv' := [(0, .ref (eB E + 295)), (1, .int p1)]) rfl ?_
  unfold F_X4_save at z0
  refine gq_aload_n C dX4_save_0 rfl 0 rfl ?_
  refine gq_iload_n C dX4_save_1 rfl 1 rfl ?_
  refine gq_iconst (v := 0) C dX4_save_2 (by decide) ?_
  refine gq_iconst (v := 1) C dX4_save_3 (by decide) ?_
  obtain ⟨x3, eo2, z1⟩ := bind_ex z0
  refine gq_S (As := [.int p1, .int (0 : Int32), .int (1 : Int32)]) (rest := [.ref (eB E + 295)]) C (c_X4_inRange hN  eo2) wk_7_50 wk_7_51 wk_1_9 wk_7_52 hd_X4_inRange ⟨(Nat.le_of_ble_eq_true rfl), (Nat.le_of_ble_eq_true rfl)⟩ (Nat.le_of_ble_eq_true rfl) ⟨(Nat.le_of_ble_eq_true rfl), (Nat.le_of_ble_eq_true rfl)⟩ dX4_save_4 rfl rfl ?_
  obtain ⟨x4, z5, z6⟩ := bind_ex z1
  refine gq_join (k' := 0) (n' := 0) (pc' := 15) (lv' := [(0, .ref (eB E + 295)), (1, .int p1)]) (st' := [.int x4, .ref (eB E + 295)]) (μ' := μ) ?_ (fun J15 => ?_)
  · obtain ⟨m10, em10, z11⟩ := bind_ex z6
    refine gq_put5_0 C (qn_m 295 (by decide) hN) (by decide) wk_6_162 (Option.some.inj em10).symm dX4_save_15 ?_
    refine gq_aload_n C dX4_save_18 rfl 0 rfl ?_
    refine gq_get5 C (qn_m 295 (by decide) hN) (by decide) 0 (by decide) wk_6_162 rfl dX4_save_19 ?_
    rcases ite_ex z11 with ⟨c12, z13⟩ | ⟨c12, z13⟩
    · refine gq_if_le_t (tgt := 27) C dX4_save_22 (by decide) c12 ?_
      refine gq_aload_n C dX4_save_27 rfl 0 rfl ?_
      refine gq_get5 C (qn_m 295 (by decide) hN) (by decide) 11 (by decide) wk_6_173 rfl dX4_save_28 ?_
      refine gq_iload_n C dX4_save_31 rfl 1 rfl ?_
      obtain ⟨x14, ex14, z15⟩ := bind_ex z13
      refine gq_baloadZ C (qn_m 305 (by decide) hN) (by decide) ex14 dX4_save_32 ?_
      refine gq_istore_n (lv' := [(2, .int x14), (0, .ref (eB E + 295)), (1, .int p1)]) C dX4_save_33 rfl (by decide) rfl ?_
      refine gq_aload_n C dX4_save_34 rfl 1 rfl ?_
      refine gq_get5 C (qn_m 295 (by decide) hN) (by decide) 11 (by decide) wk_6_173 rfl dX4_save_35 ?_
      refine gq_iload_n C dX4_save_38 rfl 2 rfl ?_
      refine gq_iconst (v := 1) C dX4_save_39 (by decide) ?_
      obtain ⟨m16, em16, z17⟩ := bind_ex z15
      refine gq_bastoreZ C (qn_m 305 (by decide) hN) (by decide) em16 dX4_save_40 ?_
      refine gq_iconst (v := 0) C dX4_save_41 (by decide) ?_
      refine gq_istore_n (lv' := [(3, .int (0 : Int32)), (2, .int x14), (0, .ref (eB E + 295)), (1, .int p1)]) C dX4_save_42 rfl (by decide) rfl ?_
      obtain ⟨m26, eo25, z24⟩ := bind_ex z17
      refine gq_widen (k' := 0) (n' := 0) (Nat.le_of_ble_eq_true rfl) (Nat.le_of_ble_eq_true rfl) (gq_sub [2, 3, 1, 0] rfl ?_)
      refine l_X4_save_43 hN C  qFuel _ _ _ eo25 ?_
      refine gq_iconst (v := 0) C dX4_save_74 (by decide) ?_
      refine gq_istore_n (lv' := [(3, .int (0 : Int32)), (0, .ref (eB E + 295)), (1, .int p1), (2, .int x14)]) C dX4_save_75 rfl (by decide) rfl ?_
      obtain ⟨m35, eo34, z33⟩ := bind_ex z24
      refine gq_widen (k' := 0) (n' := 0) (Nat.le_of_ble_eq_true rfl) (Nat.le_of_ble_eq_true rfl) (gq_sub [1, 2, 3, 0] rfl ?_)
      refine l_X4_save_76 hN C  qFuel _ _ _ eo34 ?_
      refine gq_iload_n C dX4_save_105 rfl 0 rfl ?_
      obtain ⟨x36, ex36, z37⟩ := bind_ex z33
      obtain ⟨nx36, qx36⟩ := zb_ex2 ex36
      subst qx36
      cases z37
      exact gq_zret C hr nx36 dX4_save_106 (Nat.le_of_ble_eq_true rfl) (Nat.le_of_ble_eq_true rfl)
    · refine gq_if_le_f (tgt := 27) C dX4_save_22 (by decide) c12 ?_
      refine gq_iconst (v := 0) C dX4_save_25 (by decide) ?_
      cases z13
      exact gq_zret C hr (by decide) dX4_save_26 (Nat.le_of_ble_eq_true rfl) (Nat.le_of_ble_eq_true rfl)
  · rcases ite_ex z5 with ⟨c7, z8⟩ | ⟨c7, z8⟩
    · refine gq_if_eq_t (tgt := 14) C dX4_save_7 (by decide) c7 ?_
      refine gq_iconst (v := 1) C dX4_save_14 (by decide) ?_
      cases z8
      exact gq_widen (Nat.le_of_ble_eq_true rfl) (Nat.le_of_ble_eq_true rfl) (gq_sub [0, 1] rfl J15)
    · refine gq_if_eq_f (tgt := 14) C dX4_save_7 (by decide) c7 ?_
      refine gq_iconst (v := 0) C dX4_save_10 (by decide) ?_
      refine gq_goto (tgt := 15) C dX4_save_11 (by decide) ?_
      cases z8
      exact gq_widen (Nat.le_of_ble_eq_true rfl) (Nat.le_of_ble_eq_true rfl) (gq_sub [0, 1] rfl J15)
abbrev rm_X4_restore : Room := { frames := 1, cells := 0, slots := 0, locals := 22 }
def F_X4_restore_42 (u1 : Int32) : Nat → Int32 → Mm → Option Mm
  | 0, _, _ => none
  | n + 1, v2, μ =>
  if (521 : Int32) ≤ v2 then
  (some μ)
  else
  ((aI μ 303 (((521 : Int32) * u1) + v2)).bind fun x20 =>
  (sI μ 296 v2 x20).bind fun m22 =>
  F_X4_restore_42 u1 n (v2 + 1) m22)
def F_X4_restore_75 (u1 : Int32) : Nat → Int32 → Mm → Option Mm
  | 0, _, _ => none
  | n + 1, v2, μ =>
  if (15 : Int32) ≤ v2 then
  (some μ)
  else
  ((aL μ 304 (((15 : Int32) * u1) + v2)).bind fun x29 =>
  (sL μ 300 v2 x29).bind fun m31 =>
  F_X4_restore_75 u1 n (v2 + 1) m31)
def F_X4_restore (p1 : Int32) (μ : Mm) : Option (Int32 × Mm) :=
  (F_X4_inRange p1 (0 : Int32) (1 : Int32) μ).bind fun o2 =>
  (if o2 = 0 then
  (some (1 : Int32))
  else
  ((aI μ 305 p1).bind fun x9 =>
  if x9 = 0 then
  (some (2 : Int32))
  else
  (some (0 : Int32)))).bind fun o13 =>
  (some (uI μ 295 0 o13)).bind fun m14 =>
  if (m14.1 295 0) ≤ 0 then
  ((F_X4_restore_42 p1 qFuel (0 : Int32) m14).bind fun o25 =>
  (F_X4_restore_75 p1 qFuel (0 : Int32) o25).bind fun o34 =>
  (some (uI o34 295 8 (0 : Int32))).bind fun m36 =>
  (aI m36 296 (5 : Int32)).bind fun x38 =>
  some (x38, m36))
  else
  (some ((0 : Int32), m14))
set_option maxHeartbeats 4000000 in
set_option maxRecDepth 100000 in
theorem l_X4_restore_42 {l : Launch} {E : Ev} (hN : 311 ≤ eN E) {p : Program} {e : Env} {s : State} {m : MethodId} {args : Array Value} {below : List Frame} {meth : Method} {c : Code} (C : Cq E p s m args meth c cX4_restore 3 RX4) {Q : State → Prop} {u1 : Int32} : ∀ (n : Nat) (v2 : Int32) (μ : Mm) (μx : Mm), F_X4_restore_42 u1 n v2 μ = some μx → Gq E p l e rm_X4_restore s m args below meth c 0 0 3 Q 73 [(0, .ref (eB E + 295)), (1, .int u1)] [] μx → Gq E p l e rm_X4_restore s m args below meth c 0 0 3 Q 42 [(0, .ref (eB E + 295)), (1, .int u1), (2, .int v2)] [] μ := by
  intro n
  induction n with
  | zero =>
    intro v2 μ μx z0 kk
    rw [F_X4_restore_42] at z0
    cases z0
  | succ n ih =>
    intro v2 μ μx z0 kk
    rw [F_X4_restore_42] at z0
    refine gq_iload_n C dX4_restore_42 rfl 2 rfl ?_
    refine gq_sipush (v := 521) C dX4_restore_43 (by decide) ?_
    rcases ite_ex z0 with ⟨c18, z19⟩ | ⟨c18, z19⟩
    · refine gq_icmp_ge_t (tgt := 73) C dX4_restore_46 (by decide) c18 ?_
      cases z19
      exact gq_widen (Nat.le_of_ble_eq_true rfl) (Nat.le_of_ble_eq_true rfl) (gq_sub [0, 1] rfl kk)
    · refine gq_icmp_ge_f (tgt := 73) C dX4_restore_46 (by decide) c18 ?_
      refine gq_aload_n C dX4_restore_49 rfl 0 rfl ?_
      refine gq_get5 C (qn_m 295 (by decide) hN) (by decide) 1 (by decide) wk_6_163 rfl dX4_restore_50 ?_
      refine gq_iload_n C dX4_restore_53 rfl 2 rfl ?_
      refine gq_aload_n C dX4_restore_54 rfl 0 rfl ?_
      refine gq_get5 C (qn_m 295 (by decide) hN) (by decide) 9 (by decide) wk_6_171 rfl dX4_restore_55 ?_
      refine gq_sipush (v := 521) C dX4_restore_58 (by decide) ?_
      refine gq_iload_n C dX4_restore_61 rfl 1 rfl ?_
      refine gq_imul C dX4_restore_62 ?_
      refine gq_iload_n C dX4_restore_63 rfl 2 rfl ?_
      refine gq_iadd C dX4_restore_64 ?_
      obtain ⟨x20, ex20, z21⟩ := bind_ex z19
      refine gq_ialoadI C (qn_m 303 (by decide) hN) (by decide) ex20 dX4_restore_65 ?_
      obtain ⟨m22, em22, z23⟩ := bind_ex z21
      refine gq_iastore C (qn_m 296 (by decide) hN) (by decide) em22 dX4_restore_66 ?_
      refine gq_iinc (v := (v2 + 1)) (lv' := [(2, .int (v2 + 1)), (0, .ref (eB E + 295)), (1, .int u1)]) (q := 2) C dX4_restore_67 rfl rfl (by decide) rfl ?_
      refine gq_goto (tgt := 42) C dX4_restore_70 (by decide) ?_
      refine gq_widen (k' := 0) (n' := 0) (Nat.le_of_ble_eq_true rfl) (Nat.le_of_ble_eq_true rfl) (gq_sub [1, 2, 0] rfl ?_)
      exact ih _ _ _ z23 kk
set_option maxHeartbeats 4000000 in
set_option maxRecDepth 100000 in
theorem l_X4_restore_75 {l : Launch} {E : Ev} (hN : 311 ≤ eN E) {p : Program} {e : Env} {s : State} {m : MethodId} {args : Array Value} {below : List Frame} {meth : Method} {c : Code} (C : Cq E p s m args meth c cX4_restore 3 RX4) {Q : State → Prop} {u1 : Int32} : ∀ (n : Nat) (v2 : Int32) (μ : Mm) (μx : Mm), F_X4_restore_75 u1 n v2 μ = some μx → Gq E p l e rm_X4_restore s m args below meth c 0 0 3 Q 104 [(0, .ref (eB E + 295))] [] μx → Gq E p l e rm_X4_restore s m args below meth c 0 0 3 Q 75 [(0, .ref (eB E + 295)), (1, .int u1), (2, .int v2)] [] μ := by
  intro n
  induction n with
  | zero =>
    intro v2 μ μx z0 kk
    rw [F_X4_restore_75] at z0
    cases z0
  | succ n ih =>
    intro v2 μ μx z0 kk
    rw [F_X4_restore_75] at z0
    refine gq_iload_n C dX4_restore_75 rfl 2 rfl ?_
    refine gq_bipush (v := 15) C dX4_restore_76 (by decide) ?_
    rcases ite_ex z0 with ⟨c27, z28⟩ | ⟨c27, z28⟩
    · refine gq_icmp_ge_t (tgt := 104) C dX4_restore_78 (by decide) c27 ?_
      cases z28
      exact gq_widen (Nat.le_of_ble_eq_true rfl) (Nat.le_of_ble_eq_true rfl) (gq_sub [0] rfl kk)
    · refine gq_icmp_ge_f (tgt := 104) C dX4_restore_78 (by decide) c27 ?_
      refine gq_aload_n C dX4_restore_81 rfl 0 rfl ?_
      refine gq_get5 C (qn_m 295 (by decide) hN) (by decide) 5 (by decide) wk_6_167 rfl dX4_restore_82 ?_
      refine gq_iload_n C dX4_restore_85 rfl 2 rfl ?_
      refine gq_aload_n C dX4_restore_86 rfl 0 rfl ?_
      refine gq_get5 C (qn_m 295 (by decide) hN) (by decide) 10 (by decide) wk_6_172 rfl dX4_restore_87 ?_
      refine gq_bipush (v := 15) C dX4_restore_90 (by decide) ?_
      refine gq_iload_n C dX4_restore_92 rfl 1 rfl ?_
      refine gq_imul C dX4_restore_93 ?_
      refine gq_iload_n C dX4_restore_94 rfl 2 rfl ?_
      refine gq_iadd C dX4_restore_95 ?_
      obtain ⟨x29, ex29, z30⟩ := bind_ex z28
      refine gq_laloadL C (qn_m 304 (by decide) hN) (by decide) ex29 dX4_restore_96 ?_
      obtain ⟨m31, em31, z32⟩ := bind_ex z30
      refine gq_lastore C (qn_m 300 (by decide) hN) (by decide) em31 dX4_restore_97 ?_
      refine gq_iinc (v := (v2 + 1)) (lv' := [(2, .int (v2 + 1)), (0, .ref (eB E + 295)), (1, .int u1)]) (q := 2) C dX4_restore_98 rfl rfl (by decide) rfl ?_
      refine gq_goto (tgt := 75) C dX4_restore_101 (by decide) ?_
      refine gq_widen (k' := 0) (n' := 0) (Nat.le_of_ble_eq_true rfl) (Nat.le_of_ble_eq_true rfl) (gq_sub [1, 2, 0] rfl ?_)
      exact ih _ _ _ z32 kk
set_option maxHeartbeats 4000000 in
set_option maxRecDepth 100000 in
theorem c_X4_restore {l : Launch} {E : Ev} (hN : 311 ≤ eN E) {p1 : Int32} {μ : Mm} {r : Int32} {μ' : Mm} (z0 : F_X4_restore p1 μ = some (r, μ')) : Ct l E yX4_restore (Cond.code yX4_restore cX4_restore 3 (some .int) :: GW) rm_X4_restore [.ref (eB E + 295), .int p1] μ (some (.int r)) μ' := by
  refine ct_of (by decide) (Nat.le_of_ble_eq_true rfl) (fun p e s m args below meth c C hr => ?_)
  have C : Cq E p s m args meth c cX4_restore 3 RX4 := C
  refine gq_lv (lv' := [(0, .ref (eB E + 295)), (1, .int p1)]) rfl ?_
  unfold F_X4_restore at z0
  refine gq_aload_n C dX4_restore_0 rfl 0 rfl ?_
  refine gq_iload_n C dX4_restore_1 rfl 1 rfl ?_
  refine gq_iconst (v := 0) C dX4_restore_2 (by decide) ?_
  refine gq_iconst (v := 1) C dX4_restore_3 (by decide) ?_
  obtain ⟨x3, eo2, z1⟩ := bind_ex z0
  refine gq_S (As := [.int p1, .int (0 : Int32), .int (1 : Int32)]) (rest := [.ref (eB E + 295)]) C (c_X4_inRange hN  eo2) wk_7_50 wk_7_51 wk_1_9 wk_7_52 hd_X4_inRange ⟨(Nat.le_of_ble_eq_true rfl), (Nat.le_of_ble_eq_true rfl)⟩ (Nat.le_of_ble_eq_true rfl) ⟨(Nat.le_of_ble_eq_true rfl), (Nat.le_of_ble_eq_true rfl)⟩ dX4_restore_4 rfl rfl ?_
  obtain ⟨x4, z5, z6⟩ := bind_ex z1
  refine gq_join (k' := 0) (n' := 0) (pc' := 28) (lv' := [(0, .ref (eB E + 295)), (1, .int p1)]) (st' := [.int x4, .ref (eB E + 295)]) (μ' := μ) ?_ (fun J28 => ?_)
  · obtain ⟨m14, em14, z15⟩ := bind_ex z6
    refine gq_put5_0 C (qn_m 295 (by decide) hN) (by decide) wk_6_162 (Option.some.inj em14).symm dX4_restore_28 ?_
    refine gq_aload_n C dX4_restore_31 rfl 0 rfl ?_
    refine gq_get5 C (qn_m 295 (by decide) hN) (by decide) 0 (by decide) wk_6_162 rfl dX4_restore_32 ?_
    rcases ite_ex z15 with ⟨c16, z17⟩ | ⟨c16, z17⟩
    · refine gq_if_le_t (tgt := 40) C dX4_restore_35 (by decide) c16 ?_
      refine gq_iconst (v := 0) C dX4_restore_40 (by decide) ?_
      refine gq_istore_n (lv' := [(2, .int (0 : Int32)), (0, .ref (eB E + 295)), (1, .int p1)]) C dX4_restore_41 rfl (by decide) rfl ?_
      obtain ⟨m26, eo25, z24⟩ := bind_ex z17
      refine gq_widen (k' := 0) (n' := 0) (Nat.le_of_ble_eq_true rfl) (Nat.le_of_ble_eq_true rfl) (gq_sub [1, 2, 0] rfl ?_)
      refine l_X4_restore_42 hN C  qFuel _ _ _ eo25 ?_
      refine gq_iconst (v := 0) C dX4_restore_73 (by decide) ?_
      refine gq_istore_n (lv' := [(2, .int (0 : Int32)), (0, .ref (eB E + 295)), (1, .int p1)]) C dX4_restore_74 rfl (by decide) rfl ?_
      obtain ⟨m35, eo34, z33⟩ := bind_ex z24
      refine gq_widen (k' := 0) (n' := 0) (Nat.le_of_ble_eq_true rfl) (Nat.le_of_ble_eq_true rfl) (gq_sub [1, 2, 0] rfl ?_)
      refine l_X4_restore_75 hN C  qFuel _ _ _ eo34 ?_
      refine gq_aload_n C dX4_restore_104 rfl 0 rfl ?_
      refine gq_iconst (v := 0) C dX4_restore_105 (by decide) ?_
      obtain ⟨m36, em36, z37⟩ := bind_ex z33
      refine gq_put5_8 C (qn_m 295 (by decide) hN) (by decide) wk_6_170 (Option.some.inj em36).symm dX4_restore_106 ?_
      refine gq_aload_n C dX4_restore_109 rfl 0 rfl ?_
      refine gq_get5 C (qn_m 295 (by decide) hN) (by decide) 1 (by decide) wk_6_163 rfl dX4_restore_110 ?_
      refine gq_iconst (v := 5) C dX4_restore_113 (by decide) ?_
      obtain ⟨x38, ex38, z39⟩ := bind_ex z37
      refine gq_ialoadI C (qn_m 296 (by decide) hN) (by decide) ex38 dX4_restore_114 ?_
      cases z39
      exact gq_iret C hr dX4_restore_115 (Nat.le_of_ble_eq_true rfl) (Nat.le_of_ble_eq_true rfl)
    · refine gq_if_le_f (tgt := 40) C dX4_restore_35 (by decide) c16 ?_
      refine gq_iconst (v := 0) C dX4_restore_38 (by decide) ?_
      cases z17
      exact gq_iret C hr dX4_restore_39 (Nat.le_of_ble_eq_true rfl) (Nat.le_of_ble_eq_true rfl)
  · rcases ite_ex z5 with ⟨c7, z8⟩ | ⟨c7, z8⟩
    · refine gq_if_ne_f (tgt := 14) C dX4_restore_7 (by decide) c7 ?_
      refine gq_iconst (v := 1) C dX4_restore_10 (by decide) ?_
      refine gq_goto (tgt := 28) C dX4_restore_11 (by decide) ?_
      cases z8
      exact gq_widen (Nat.le_of_ble_eq_true rfl) (Nat.le_of_ble_eq_true rfl) (gq_sub [0, 1] rfl J28)
    · refine gq_if_ne_t (tgt := 14) C dX4_restore_7 (by decide) c7 ?_
      refine gq_aload_n C dX4_restore_14 rfl 0 rfl ?_
      refine gq_get5 C (qn_m 295 (by decide) hN) (by decide) 11 (by decide) wk_6_173 rfl dX4_restore_15 ?_
      refine gq_iload_n C dX4_restore_18 rfl 1 rfl ?_
      obtain ⟨x9, ex9, z10⟩ := bind_ex z8
      refine gq_baloadZ C (qn_m 305 (by decide) hN) (by decide) ex9 dX4_restore_19 ?_
      rcases ite_ex z10 with ⟨c11, z12⟩ | ⟨c11, z12⟩
      · refine gq_if_ne_f (tgt := 27) C dX4_restore_20 (by decide) c11 ?_
        refine gq_iconst (v := 2) C dX4_restore_23 (by decide) ?_
        refine gq_goto (tgt := 28) C dX4_restore_24 (by decide) ?_
        cases z12
        exact gq_widen (Nat.le_of_ble_eq_true rfl) (Nat.le_of_ble_eq_true rfl) (gq_sub [0, 1] rfl J28)
      · refine gq_if_ne_t (tgt := 27) C dX4_restore_20 (by decide) c11 ?_
        refine gq_iconst (v := 0) C dX4_restore_27 (by decide) ?_
        cases z12
        exact gq_widen (Nat.le_of_ble_eq_true rfl) (Nat.le_of_ble_eq_true rfl) (gq_sub [0, 1] rfl J28)
abbrev rm_X4_undo : Room := { frames := 0, cells := 0, slots := 0, locals := 0 }
def F_X4_undo_26  : Nat → Int32 → Mm → Option Mm
  | 0, _, _ => none
  | n + 1, v1, μ =>
  if (521 : Int32) ≤ v1 then
  (some μ)
  else
  ((aI μ 299 (((521 : Int32) * (μ.1 295 8)) + v1)).bind fun x9 =>
  (sI μ 296 v1 x9).bind fun m11 =>
  F_X4_undo_26 n (v1 + 1) m11)
def F_X4_undo_62  : Nat → Int32 → Mm → Option Mm
  | 0, _, _ => none
  | n + 1, v1, μ =>
  if (15 : Int32) ≤ v1 then
  (some μ)
  else
  ((aL μ 302 (((15 : Int32) * (μ.1 295 8)) + v1)).bind fun x18 =>
  (sL μ 300 v1 x18).bind fun m20 =>
  F_X4_undo_62 n (v1 + 1) m20)
def F_X4_undo  (μ : Mm) : Option (Int32 × Mm) :=
  (some (uI μ 295 0 (0 : Int32))).bind fun m1 =>
  if (m1.1 295 8) = 0 then
  (some ((-1 : Int32), m1))
  else
  ((some (uI m1 295 8 ((m1.1 295 8) - (1 : Int32)))).bind fun m5 =>
  (F_X4_undo_26 qFuel (0 : Int32) m5).bind fun o14 =>
  (F_X4_undo_62 qFuel (0 : Int32) o14).bind fun o23 =>
  some ((o23.1 295 8), o23))
set_option maxHeartbeats 4000000 in
set_option maxRecDepth 100000 in
theorem l_X4_undo_26 {l : Launch} {E : Ev} (hN : 311 ≤ eN E) {p : Program} {e : Env} {s : State} {m : MethodId} {args : Array Value} {below : List Frame} {meth : Method} {c : Code} (C : Cq E p s m args meth c cX4_undo 2 RX4) {Q : State → Prop} : ∀ (n : Nat) (v1 : Int32) (μ : Mm) (μx : Mm), F_X4_undo_26 n v1 μ = some μx → Gq E p l e rm_X4_undo s m args below meth c 0 0 2 Q 60 [(0, .ref (eB E + 295))] [] μx → Gq E p l e rm_X4_undo s m args below meth c 0 0 2 Q 26 [(0, .ref (eB E + 295)), (1, .int v1)] [] μ := by
  intro n
  induction n with
  | zero =>
    intro v1 μ μx z0 kk
    rw [F_X4_undo_26] at z0
    cases z0
  | succ n ih =>
    intro v1 μ μx z0 kk
    rw [F_X4_undo_26] at z0
    refine gq_iload_n C dX4_undo_26 rfl 1 rfl ?_
    refine gq_sipush (v := 521) C dX4_undo_27 (by decide) ?_
    rcases ite_ex z0 with ⟨c7, z8⟩ | ⟨c7, z8⟩
    · refine gq_icmp_ge_t (tgt := 60) C dX4_undo_30 (by decide) c7 ?_
      cases z8
      exact gq_widen (Nat.le_of_ble_eq_true rfl) (Nat.le_of_ble_eq_true rfl) (gq_sub [0] rfl kk)
    · refine gq_icmp_ge_f (tgt := 60) C dX4_undo_30 (by decide) c7 ?_
      refine gq_aload_n C dX4_undo_33 rfl 0 rfl ?_
      refine gq_get5 C (qn_m 295 (by decide) hN) (by decide) 1 (by decide) wk_6_163 rfl dX4_undo_34 ?_
      refine gq_iload_n C dX4_undo_37 rfl 1 rfl ?_
      refine gq_aload_n C dX4_undo_38 rfl 0 rfl ?_
      refine gq_get5 C (qn_m 295 (by decide) hN) (by decide) 4 (by decide) wk_6_166 rfl dX4_undo_39 ?_
      refine gq_sipush (v := 521) C dX4_undo_42 (by decide) ?_
      refine gq_aload_n C dX4_undo_45 rfl 0 rfl ?_
      refine gq_get5 C (qn_m 295 (by decide) hN) (by decide) 8 (by decide) wk_6_170 rfl dX4_undo_46 ?_
      refine gq_imul C dX4_undo_49 ?_
      refine gq_iload_n C dX4_undo_50 rfl 1 rfl ?_
      refine gq_iadd C dX4_undo_51 ?_
      obtain ⟨x9, ex9, z10⟩ := bind_ex z8
      refine gq_ialoadI C (qn_m 299 (by decide) hN) (by decide) ex9 dX4_undo_52 ?_
      obtain ⟨m11, em11, z12⟩ := bind_ex z10
      refine gq_iastore C (qn_m 296 (by decide) hN) (by decide) em11 dX4_undo_53 ?_
      refine gq_iinc (v := (v1 + 1)) (lv' := [(1, .int (v1 + 1)), (0, .ref (eB E + 295))]) (q := 1) C dX4_undo_54 rfl rfl (by decide) rfl ?_
      refine gq_goto (tgt := 26) C dX4_undo_57 (by decide) ?_
      refine gq_widen (k' := 0) (n' := 0) (Nat.le_of_ble_eq_true rfl) (Nat.le_of_ble_eq_true rfl) (gq_sub [1, 0] rfl ?_)
      exact ih _ _ _ z12 kk
set_option maxHeartbeats 4000000 in
set_option maxRecDepth 100000 in
theorem l_X4_undo_62 {l : Launch} {E : Ev} (hN : 311 ≤ eN E) {p : Program} {e : Env} {s : State} {m : MethodId} {args : Array Value} {below : List Frame} {meth : Method} {c : Code} (C : Cq E p s m args meth c cX4_undo 2 RX4) {Q : State → Prop} : ∀ (n : Nat) (v1 : Int32) (μ : Mm) (μx : Mm), F_X4_undo_62 n v1 μ = some μx → Gq E p l e rm_X4_undo s m args below meth c 0 0 2 Q 94 [(0, .ref (eB E + 295))] [] μx → Gq E p l e rm_X4_undo s m args below meth c 0 0 2 Q 62 [(0, .ref (eB E + 295)), (1, .int v1)] [] μ := by
  intro n
  induction n with
  | zero =>
    intro v1 μ μx z0 kk
    rw [F_X4_undo_62] at z0
    cases z0
  | succ n ih =>
    intro v1 μ μx z0 kk
    rw [F_X4_undo_62] at z0
    refine gq_iload_n C dX4_undo_62 rfl 1 rfl ?_
    refine gq_bipush (v := 15) C dX4_undo_63 (by decide) ?_
    rcases ite_ex z0 with ⟨c16, z17⟩ | ⟨c16, z17⟩
    · refine gq_icmp_ge_t (tgt := 94) C dX4_undo_65 (by decide) c16 ?_
      cases z17
      exact gq_widen (Nat.le_of_ble_eq_true rfl) (Nat.le_of_ble_eq_true rfl) (gq_sub [0] rfl kk)
    · refine gq_icmp_ge_f (tgt := 94) C dX4_undo_65 (by decide) c16 ?_
      refine gq_aload_n C dX4_undo_68 rfl 0 rfl ?_
      refine gq_get5 C (qn_m 295 (by decide) hN) (by decide) 5 (by decide) wk_6_167 rfl dX4_undo_69 ?_
      refine gq_iload_n C dX4_undo_72 rfl 1 rfl ?_
      refine gq_aload_n C dX4_undo_73 rfl 0 rfl ?_
      refine gq_get5 C (qn_m 295 (by decide) hN) (by decide) 7 (by decide) wk_6_169 rfl dX4_undo_74 ?_
      refine gq_bipush (v := 15) C dX4_undo_77 (by decide) ?_
      refine gq_aload_n C dX4_undo_79 rfl 0 rfl ?_
      refine gq_get5 C (qn_m 295 (by decide) hN) (by decide) 8 (by decide) wk_6_170 rfl dX4_undo_80 ?_
      refine gq_imul C dX4_undo_83 ?_
      refine gq_iload_n C dX4_undo_84 rfl 1 rfl ?_
      refine gq_iadd C dX4_undo_85 ?_
      obtain ⟨x18, ex18, z19⟩ := bind_ex z17
      refine gq_laloadL C (qn_m 302 (by decide) hN) (by decide) ex18 dX4_undo_86 ?_
      obtain ⟨m20, em20, z21⟩ := bind_ex z19
      refine gq_lastore C (qn_m 300 (by decide) hN) (by decide) em20 dX4_undo_87 ?_
      refine gq_iinc (v := (v1 + 1)) (lv' := [(1, .int (v1 + 1)), (0, .ref (eB E + 295))]) (q := 1) C dX4_undo_88 rfl rfl (by decide) rfl ?_
      refine gq_goto (tgt := 62) C dX4_undo_91 (by decide) ?_
      refine gq_widen (k' := 0) (n' := 0) (Nat.le_of_ble_eq_true rfl) (Nat.le_of_ble_eq_true rfl) (gq_sub [1, 0] rfl ?_)
      exact ih _ _ _ z21 kk
set_option maxHeartbeats 4000000 in
set_option maxRecDepth 100000 in
theorem c_X4_undo {l : Launch} {E : Ev} (hN : 311 ≤ eN E) {μ : Mm} {r : Int32} {μ' : Mm} (z0 : F_X4_undo  μ = some (r, μ')) : Ct l E yX4_undo (Cond.code yX4_undo cX4_undo 2 (some .int) :: GW) rm_X4_undo [.ref (eB E + 295)] μ (some (.int r)) μ' := by
  refine ct_of (by decide) (Nat.le_of_ble_eq_true rfl) (fun p e s m args below meth c C hr => ?_)
  have C : Cq E p s m args meth c cX4_undo 2 RX4 := C
  refine gq_lv (lv' := [(0, .ref (eB E + 295))]) rfl ?_
  unfold F_X4_undo at z0
  refine gq_aload_n C dX4_undo_0 rfl 0 rfl ?_
  refine gq_iconst (v := 0) C dX4_undo_1 (by decide) ?_
  obtain ⟨m1, em1, z2⟩ := bind_ex z0
  refine gq_put5_0 C (qn_m 295 (by decide) hN) (by decide) wk_6_162 (Option.some.inj em1).symm dX4_undo_2 ?_
  refine gq_aload_n C dX4_undo_5 rfl 0 rfl ?_
  refine gq_get5 C (qn_m 295 (by decide) hN) (by decide) 8 (by decide) wk_6_170 rfl dX4_undo_6 ?_
  rcases ite_ex z2 with ⟨c3, z4⟩ | ⟨c3, z4⟩
  · refine gq_if_ne_f (tgt := 14) C dX4_undo_9 (by decide) c3 ?_
    refine gq_iconst (v := -1) C dX4_undo_12 (by decide) ?_
    cases z4
    exact gq_iret C hr dX4_undo_13 (Nat.le_of_ble_eq_true rfl) (Nat.le_of_ble_eq_true rfl)
  · refine gq_if_ne_t (tgt := 14) C dX4_undo_9 (by decide) c3 ?_
    refine gq_aload_n C dX4_undo_14 rfl 0 rfl ?_
    refine gq_dupr C dX4_undo_15 ?_
    refine gq_get5 C (qn_m 295 (by decide) hN) (by decide) 8 (by decide) wk_6_170 rfl dX4_undo_16 ?_
    refine gq_iconst (v := 1) C dX4_undo_19 (by decide) ?_
    refine gq_isub C dX4_undo_20 ?_
    obtain ⟨m5, em5, z6⟩ := bind_ex z4
    refine gq_put5_8 C (qn_m 295 (by decide) hN) (by decide) wk_6_170 (Option.some.inj em5).symm dX4_undo_21 ?_
    refine gq_iconst (v := 0) C dX4_undo_24 (by decide) ?_
    refine gq_istore_n (lv' := [(1, .int (0 : Int32)), (0, .ref (eB E + 295))]) C dX4_undo_25 rfl (by decide) rfl ?_
    obtain ⟨m15, eo14, z13⟩ := bind_ex z6
    refine gq_widen (k' := 0) (n' := 0) (Nat.le_of_ble_eq_true rfl) (Nat.le_of_ble_eq_true rfl) (gq_sub [1, 0] rfl ?_)
    refine l_X4_undo_26 hN C  qFuel _ _ _ eo14 ?_
    refine gq_iconst (v := 0) C dX4_undo_60 (by decide) ?_
    refine gq_istore_n (lv' := [(1, .int (0 : Int32)), (0, .ref (eB E + 295))]) C dX4_undo_61 rfl (by decide) rfl ?_
    obtain ⟨m24, eo23, z22⟩ := bind_ex z13
    refine gq_widen (k' := 0) (n' := 0) (Nat.le_of_ble_eq_true rfl) (Nat.le_of_ble_eq_true rfl) (gq_sub [1, 0] rfl ?_)
    refine l_X4_undo_62 hN C  qFuel _ _ _ eo23 ?_
    refine gq_aload_n C dX4_undo_94 rfl 0 rfl ?_
    refine gq_get5 C (qn_m 295 (by decide) hN) (by decide) 8 (by decide) wk_6_170 rfl dX4_undo_95 ?_
    cases z22
    exact gq_iret C hr dX4_undo_98 (Nat.le_of_ble_eq_true rfl) (Nat.le_of_ble_eq_true rfl)
abbrev rm_X4_undoDepth : Room := { frames := 0, cells := 0, slots := 0, locals := 0 }
def F_X4_undoDepth  (μ : Mm) : Option (Int32 × Mm) :=
  (some (uI μ 295 0 (0 : Int32))).bind fun m1 =>
  some ((m1.1 295 8), m1)
set_option maxHeartbeats 4000000 in
set_option maxRecDepth 100000 in
theorem c_X4_undoDepth {l : Launch} {E : Ev} (hN : 311 ≤ eN E) {μ : Mm} {r : Int32} {μ' : Mm} (z0 : F_X4_undoDepth  μ = some (r, μ')) : Ct l E yX4_undoDepth (Cond.code yX4_undoDepth cX4_undoDepth 1 (some .int) :: GW) rm_X4_undoDepth [.ref (eB E + 295)] μ (some (.int r)) μ' := by
  refine ct_of (by decide) (Nat.le_of_ble_eq_true rfl) (fun p e s m args below meth c C hr => ?_)
  have C : Cq E p s m args meth c cX4_undoDepth 1 RX4 := C
  refine gq_lv (lv' := [(0, .ref (eB E + 295))]) rfl ?_
  unfold F_X4_undoDepth at z0
  refine gq_aload_n C dX4_undoDepth_0 rfl 0 rfl ?_
  refine gq_iconst (v := 0) C dX4_undoDepth_1 (by decide) ?_
  obtain ⟨m1, em1, z2⟩ := bind_ex z0
  refine gq_put5_0 C (qn_m 295 (by decide) hN) (by decide) wk_6_162 (Option.some.inj em1).symm dX4_undoDepth_2 ?_
  refine gq_aload_n C dX4_undoDepth_5 rfl 0 rfl ?_
  refine gq_get5 C (qn_m 295 (by decide) hN) (by decide) 8 (by decide) wk_6_170 rfl dX4_undoDepth_6 ?_
  cases z2
  exact gq_iret C hr dX4_undoDepth_9 (Nat.le_of_ble_eq_true rfl) (Nat.le_of_ble_eq_true rfl)
abbrev rm_X4_says : Room := { frames := 0, cells := 0, slots := 0, locals := 0 }
def F_X4_says (p1 : Int32) (μ : Mm) : Option Mm :=
  (sI μ 310 (μ.1 295 29) p1).bind fun m1 =>
  (some (uI m1 295 29 ((m1.1 295 29) + (1 : Int32)))).bind fun m3 =>
  some m3
set_option maxHeartbeats 4000000 in
set_option maxRecDepth 100000 in
theorem c_X4_says {l : Launch} {E : Ev} (hN : 311 ≤ eN E) {p1 : Int32} {μ : Mm} {μ' : Mm} (z0 : F_X4_says p1 μ = some μ') : Ct l E yX4_says (Cond.code yX4_says cX4_says 2 none :: GW) rm_X4_says [.ref (eB E + 295), .int p1] μ none μ' := by
  refine ct_of (by decide) (Nat.le_of_ble_eq_true rfl) (fun p e s m args below meth c C hr => ?_)
  have C : Cq E p s m args meth c cX4_says 2 RX4 := C
  refine gq_lv (lv' := [(0, .ref (eB E + 295)), (1, .int p1)]) rfl ?_
  unfold F_X4_says at z0
  refine gq_aload_n C dX4_says_0 rfl 0 rfl ?_
  refine gq_get5 C (qn_m 295 (by decide) hN) (by decide) 28 (by decide) wk_6_190 rfl dX4_says_1 ?_
  refine gq_aload_n C dX4_says_4 rfl 0 rfl ?_
  refine gq_get5 C (qn_m 295 (by decide) hN) (by decide) 29 (by decide) wk_6_191 rfl dX4_says_5 ?_
  refine gq_iload_n C dX4_says_8 rfl 1 rfl ?_
  obtain ⟨m1, em1, z2⟩ := bind_ex z0
  refine gq_iastore C (qn_m 310 (by decide) hN) (by decide) em1 dX4_says_9 ?_
  refine gq_aload_n C dX4_says_10 rfl 0 rfl ?_
  refine gq_dupr C dX4_says_11 ?_
  refine gq_get5 C (qn_m 295 (by decide) hN) (by decide) 29 (by decide) wk_6_191 rfl dX4_says_12 ?_
  refine gq_iconst (v := 1) C dX4_says_15 (by decide) ?_
  refine gq_iadd C dX4_says_16 ?_
  obtain ⟨m3, em3, z4⟩ := bind_ex z2
  refine gq_put5_29 C (qn_m 295 (by decide) hN) (by decide) wk_6_191 (Option.some.inj em3).symm dX4_says_17 ?_
  cases z4
  exact gq_vret C hr dX4_says_20 (Nat.le_of_ble_eq_true rfl) (Nat.le_of_ble_eq_true rfl)
abbrev rm_X4_saysNumber : Room := { frames := 1, cells := 0, slots := 0, locals := 21 }
def F_X4_saysNumber_2 (u1 : Int32) (μ : Mm) : Nat → Int32 → Option Int32
  | 0, _ => none
  | n + 1, v2 =>
  (idv u1 v2).bind fun x1 => if x1 ≤ (9 : Int32) then
  (some v2)
  else
  (F_X4_saysNumber_2 u1 μ n (v2 * (10 : Int32)))
def F_X4_saysNumber_18 (u1 : Int32) : Nat → Int32 → Mm → Option Mm
  | 0, _, _ => none
  | n + 1, v2, μ =>
  if v2 ≤ 0 then
  (some μ)
  else
  ((idv u1 v2).bind fun x10 => (F_X4_says ((48 : Int32) + (x10 - x10 / (10 : Int32) * (10 : Int32))) μ).bind fun o13 =>
  F_X4_saysNumber_18 u1 n (v2 / (10 : Int32)) o13)
def F_X4_saysNumber (p1 : Int32) (μ : Mm) : Option Mm :=
  (F_X4_saysNumber_2 p1 μ qFuel (1 : Int32)).bind fun o6 =>
  (F_X4_saysNumber_18 p1 qFuel o6 μ).bind fun o16 =>
  some o16
set_option maxHeartbeats 4000000 in
set_option maxRecDepth 100000 in
theorem l_X4_saysNumber_2 {l : Launch} {E : Ev} (hN : 311 ≤ eN E) {p : Program} {e : Env} {s : State} {m : MethodId} {args : Array Value} {below : List Frame} {meth : Method} {c : Code} (C : Cq E p s m args meth c cX4_saysNumber 3 RX4) {Q : State → Prop} {u1 : Int32} {μ : Mm} : ∀ (n : Nat) (v2 : Int32) (w2 : Int32), F_X4_saysNumber_2 u1 μ n v2 = some w2 → Gq E p l e rm_X4_saysNumber s m args below meth c 0 0 3 Q 18 [(0, .ref (eB E + 295)), (1, .int u1), (2, .int w2)] [] μ → Gq E p l e rm_X4_saysNumber s m args below meth c 0 0 3 Q 2 [(0, .ref (eB E + 295)), (1, .int u1), (2, .int v2)] [] μ := by
  intro n
  induction n with
  | zero =>
    intro v2 w2 z0 kk
    rw [F_X4_saysNumber_2] at z0
    cases z0
  | succ n ih =>
    intro v2 w2 z0 kk
    rw [F_X4_saysNumber_2] at z0
    refine gq_iload_n C dX4_saysNumber_2 rfl 1 rfl ?_
    refine gq_iload_n C dX4_saysNumber_3 rfl 2 rfl ?_
    obtain ⟨x1, ex1, z2⟩ := bind_ex z0
    obtain ⟨nx1, qx1⟩ := idv_ex ex1
    refine gq_idivE C dX4_saysNumber_4 nx1 qx1 ?_
    refine gq_bipush (v := 9) C dX4_saysNumber_5 (by decide) ?_
    rcases ite_ex z2 with ⟨c3, z4⟩ | ⟨c3, z4⟩
    · refine gq_icmp_le_t (tgt := 18) C dX4_saysNumber_7 (by decide) c3 ?_
      cases z4
      exact gq_widen (Nat.le_of_ble_eq_true rfl) (Nat.le_of_ble_eq_true rfl) (gq_sub [0, 1, 2] rfl kk)
    · refine gq_icmp_le_f (tgt := 18) C dX4_saysNumber_7 (by decide) c3 ?_
      refine gq_iload_n C dX4_saysNumber_10 rfl 2 rfl ?_
      refine gq_bipush (v := 10) C dX4_saysNumber_11 (by decide) ?_
      refine gq_imul C dX4_saysNumber_13 ?_
      refine gq_istore_n (lv' := [(2, .int (v2 * (10 : Int32))), (0, .ref (eB E + 295)), (1, .int u1)]) C dX4_saysNumber_14 rfl (by decide) rfl ?_
      refine gq_goto (tgt := 2) C dX4_saysNumber_15 (by decide) ?_
      refine gq_widen (k' := 0) (n' := 0) (Nat.le_of_ble_eq_true rfl) (Nat.le_of_ble_eq_true rfl) (gq_sub [1, 2, 0] rfl ?_)
      exact ih _ _ z4 kk
set_option maxHeartbeats 4000000 in
set_option maxRecDepth 100000 in
theorem l_X4_saysNumber_18 {l : Launch} {E : Ev} (hN : 311 ≤ eN E) {p : Program} {e : Env} {s : State} {m : MethodId} {args : Array Value} {below : List Frame} {meth : Method} {c : Code} (C : Cq E p s m args meth c cX4_saysNumber 3 RX4) {Q : State → Prop} {u1 : Int32} : ∀ (n : Nat) (v2 : Int32) (μ : Mm) (μx : Mm), F_X4_saysNumber_18 u1 n v2 μ = some μx → Gq E p l e rm_X4_saysNumber s m args below meth c 0 0 3 Q 43 [] [] μx → Gq E p l e rm_X4_saysNumber s m args below meth c 0 0 3 Q 18 [(0, .ref (eB E + 295)), (1, .int u1), (2, .int v2)] [] μ := by
  intro n
  induction n with
  | zero =>
    intro v2 μ μx z0 kk
    rw [F_X4_saysNumber_18] at z0
    cases z0
  | succ n ih =>
    intro v2 μ μx z0 kk
    rw [F_X4_saysNumber_18] at z0
    refine gq_iload_n C dX4_saysNumber_18 rfl 2 rfl ?_
    rcases ite_ex z0 with ⟨c8, z9⟩ | ⟨c8, z9⟩
    · refine gq_if_le_t (tgt := 43) C dX4_saysNumber_19 (by decide) c8 ?_
      cases z9
      exact gq_widen (Nat.le_of_ble_eq_true rfl) (Nat.le_of_ble_eq_true rfl) (gq_sub [] rfl kk)
    · refine gq_if_le_f (tgt := 43) C dX4_saysNumber_19 (by decide) c8 ?_
      refine gq_aload_n C dX4_saysNumber_22 rfl 0 rfl ?_
      refine gq_bipush (v := 48) C dX4_saysNumber_23 (by decide) ?_
      refine gq_iload_n C dX4_saysNumber_25 rfl 1 rfl ?_
      refine gq_iload_n C dX4_saysNumber_26 rfl 2 rfl ?_
      obtain ⟨x10, ex10, z11⟩ := bind_ex z9
      obtain ⟨nx10, qx10⟩ := idv_ex ex10
      refine gq_idivE C dX4_saysNumber_27 nx10 qx10 ?_
      refine gq_bipush (v := 10) C dX4_saysNumber_28 (by decide) ?_
      refine gq_irem C dX4_saysNumber_30 (by decide) ?_
      refine gq_iadd C dX4_saysNumber_31 ?_
      obtain ⟨m14, eo13, z12⟩ := bind_ex z11
      refine gq_V (As := [.int ((48 : Int32) + (x10 - x10 / (10 : Int32) * (10 : Int32)))]) (rest := []) (j := 5) C (c_X4_says hN  eo13) (qn_m 295 (by decide) hN) (by decide) (by decide) rfl wk_8_232 wk_8_234 ws_X4_says wk_1_9 wk_8_235 hd_X4_says ⟨(Nat.le_of_ble_eq_true rfl), (Nat.le_of_ble_eq_true rfl)⟩ (Nat.le_of_ble_eq_true rfl) ⟨(Nat.le_of_ble_eq_true rfl), (Nat.le_of_ble_eq_true rfl)⟩ dX4_saysNumber_32 rfl rfl ?_
      refine gq_iload_n C dX4_saysNumber_35 rfl 2 rfl ?_
      refine gq_bipush (v := 10) C dX4_saysNumber_36 (by decide) ?_
      refine gq_idiv C dX4_saysNumber_38 (by decide) ?_
      refine gq_istore_n (lv' := [(2, .int (v2 / (10 : Int32))), (0, .ref (eB E + 295)), (1, .int u1)]) C dX4_saysNumber_39 rfl (by decide) rfl ?_
      refine gq_goto (tgt := 18) C dX4_saysNumber_40 (by decide) ?_
      refine gq_widen (k' := 0) (n' := 0) (Nat.le_of_ble_eq_true rfl) (Nat.le_of_ble_eq_true rfl) (gq_sub [1, 2, 0] rfl ?_)
      exact ih _ _ _ z12 kk
set_option maxHeartbeats 4000000 in
set_option maxRecDepth 100000 in
theorem c_X4_saysNumber {l : Launch} {E : Ev} (hN : 311 ≤ eN E) {p1 : Int32} {μ : Mm} {μ' : Mm} (z0 : F_X4_saysNumber p1 μ = some μ') : Ct l E yX4_saysNumber (Cond.code yX4_saysNumber cX4_saysNumber 3 none :: GW) rm_X4_saysNumber [.ref (eB E + 295), .int p1] μ none μ' := by
  refine ct_of (by decide) (Nat.le_of_ble_eq_true rfl) (fun p e s m args below meth c C hr => ?_)
  have C : Cq E p s m args meth c cX4_saysNumber 3 RX4 := C
  refine gq_lv (lv' := [(0, .ref (eB E + 295)), (1, .int p1)]) rfl ?_
  unfold F_X4_saysNumber at z0
  refine gq_iconst (v := 1) C dX4_saysNumber_0 (by decide) ?_
  refine gq_istore_n (lv' := [(2, .int (1 : Int32)), (0, .ref (eB E + 295)), (1, .int p1)]) C dX4_saysNumber_1 rfl (by decide) rfl ?_
  obtain ⟨x7, eo6, z5⟩ := bind_ex z0
  refine gq_widen (k' := 0) (n' := 0) (Nat.le_of_ble_eq_true rfl) (Nat.le_of_ble_eq_true rfl) (gq_sub [1, 2, 0] rfl ?_)
  refine l_X4_saysNumber_2 hN C  qFuel _ _ eo6 ?_
  obtain ⟨m17, eo16, z15⟩ := bind_ex z5
  refine gq_widen (k' := 0) (n' := 0) (Nat.le_of_ble_eq_true rfl) (Nat.le_of_ble_eq_true rfl) (gq_sub [0, 1, 2] rfl ?_)
  refine l_X4_saysNumber_18 hN C  qFuel _ _ _ eo16 ?_
  cases z15
  exact gq_vret C hr dX4_saysNumber_43 (Nat.le_of_ble_eq_true rfl) (Nat.le_of_ble_eq_true rfl)
abbrev rm_X4_formatClaims : Room := { frames := 2, cells := 0, slots := 0, locals := 43 }
def F_X4_formatClaims_12  : Nat → Int32 → Mm → Option Mm
  | 0, _, _ => none
  | n + 1, v1, μ =>
  (aI μ 296 (56 : Int32)).bind fun x5 =>
  if x5 ≤ v1 then
  (some μ)
  else
  ((if v1 ≤ 0 then
  (some μ)
  else
  ((F_X4_says (32 : Int32) μ).bind fun o15 =>
  some o15)).bind fun o17 =>
  (F_X4_claimOf v1 (0 : Int32) o17).bind fun o19 =>
  (if o19 = 0 then
  (some (114 : Int32))
  else
  ((F_X4_claimOf v1 (0 : Int32) o17).bind fun o27 =>
  if o27 = (1 : Int32) then
  (some (108 : Int32))
  else
  (some (111 : Int32)))).bind fun o31 =>
  (F_X4_says o31 o17).bind fun o33 =>
  (F_X4_claimOf v1 (1 : Int32) o33).bind fun o36 =>
  (F_X4_saysNumber o36 o33).bind fun o39 =>
  (F_X4_says (58 : Int32) o39).bind fun o42 =>
  (F_X4_claimOf v1 (5 : Int32) o42).bind fun o45 =>
  (F_X4_saysNumber o45 o42).bind fun o48 =>
  (F_X4_says (47 : Int32) o48).bind fun o51 =>
  (F_X4_claimOf v1 (4 : Int32) o51).bind fun o54 =>
  (F_X4_saysNumber o54 o51).bind fun o57 =>
  F_X4_formatClaims_12 n (v1 + 1) o57)
def F_X4_formatClaims  (μ : Mm) : Option (Int32 × Mm) :=
  (some (uI μ 295 0 (0 : Int32))).bind fun m1 =>
  (some (uI m1 295 29 (0 : Int32))).bind fun m3 =>
  (F_X4_formatClaims_12 qFuel (0 : Int32) m3).bind fun o60 =>
  some ((o60.1 295 29), o60)
set_option maxHeartbeats 4000000 in
set_option maxRecDepth 100000 in
theorem l_X4_formatClaims_12 {l : Launch} {E : Ev} (hN : 311 ≤ eN E) {p : Program} {e : Env} {s : State} {m : MethodId} {args : Array Value} {below : List Frame} {meth : Method} {c : Code} (C : Cq E p s m args meth c cX4_formatClaims 2 RX4) {Q : State → Prop} : ∀ (n : Nat) (v1 : Int32) (μ : Mm) (μx : Mm), F_X4_formatClaims_12 n v1 μ = some μx → Gq E p l e rm_X4_formatClaims s m args below meth c 0 0 2 Q 116 [(0, .ref (eB E + 295))] [] μx → Gq E p l e rm_X4_formatClaims s m args below meth c 0 0 2 Q 12 [(0, .ref (eB E + 295)), (1, .int v1)] [] μ := by
  intro n
  induction n with
  | zero =>
    intro v1 μ μx z0 kk
    rw [F_X4_formatClaims_12] at z0
    cases z0
  | succ n ih =>
    intro v1 μ μx z0 kk
    rw [F_X4_formatClaims_12] at z0
    refine gq_iload_n C dX4_formatClaims_12 rfl 1 rfl ?_
    refine gq_aload_n C dX4_formatClaims_13 rfl 0 rfl ?_
    refine gq_get5 C (qn_m 295 (by decide) hN) (by decide) 1 (by decide) wk_6_163 rfl dX4_formatClaims_14 ?_
    refine gq_bipush (v := 56) C dX4_formatClaims_17 (by decide) ?_
    obtain ⟨x5, ex5, z6⟩ := bind_ex z0
    refine gq_ialoadI C (qn_m 296 (by decide) hN) (by decide) ex5 dX4_formatClaims_19 ?_
    rcases ite_ex z6 with ⟨c7, z8⟩ | ⟨c7, z8⟩
    · refine gq_icmp_ge_t (tgt := 116) C dX4_formatClaims_20 (by decide) c7 ?_
      cases z8
      exact gq_widen (Nat.le_of_ble_eq_true rfl) (Nat.le_of_ble_eq_true rfl) (gq_sub [0] rfl kk)
    · refine gq_icmp_ge_f (tgt := 116) C dX4_formatClaims_20 (by decide) c7 ?_
      refine gq_iload_n C dX4_formatClaims_23 rfl 1 rfl ?_
      obtain ⟨m9, z10, z11⟩ := bind_ex z8
      refine gq_join (k' := 0) (n' := 0) (pc' := 33) (lv' := [(0, .ref (eB E + 295)), (1, .int v1)]) (st' := []) (μ' := m9) ?_ (fun J33 => ?_)
      · refine gq_aload_n C dX4_formatClaims_33 rfl 0 rfl ?_
        refine gq_aload_n C dX4_formatClaims_34 rfl 0 rfl ?_
        refine gq_iload_n C dX4_formatClaims_35 rfl 1 rfl ?_
        refine gq_iconst (v := 0) C dX4_formatClaims_36 (by decide) ?_
        obtain ⟨x20, eo19, z18⟩ := bind_ex z11
        refine gq_V (As := [.int v1, .int (0 : Int32)]) (rest := [.ref (eB E + 295)]) (j := 5) C (c_X4_claimOf hN  eo19) (qn_m 295 (by decide) hN) (by decide) (by decide) rfl wk_7_223 wk_7_225 ws_X4_claimOf wk_1_9 wk_7_226 hd_X4_claimOf ⟨(Nat.le_of_ble_eq_true rfl), (Nat.le_of_ble_eq_true rfl)⟩ (Nat.le_of_ble_eq_true rfl) ⟨(Nat.le_of_ble_eq_true rfl), (Nat.le_of_ble_eq_true rfl)⟩ dX4_formatClaims_37 rfl rfl ?_
        obtain ⟨x21, z22, z23⟩ := bind_ex z18
        refine gq_join (k' := 0) (n' := 0) (pc' := 65) (lv' := [(0, .ref (eB E + 295)), (1, .int v1)]) (st' := [.int x21, .ref (eB E + 295)]) (μ' := m9) ?_ (fun J65 => ?_)
        · obtain ⟨m34, eo33, z32⟩ := bind_ex z23
          refine gq_V (As := [.int x21]) (rest := []) (j := 5) C (c_X4_says hN  eo33) (qn_m 295 (by decide) hN) (by decide) (by decide) rfl wk_8_232 wk_8_234 ws_X4_says wk_1_9 wk_8_235 hd_X4_says ⟨(Nat.le_of_ble_eq_true rfl), (Nat.le_of_ble_eq_true rfl)⟩ (Nat.le_of_ble_eq_true rfl) ⟨(Nat.le_of_ble_eq_true rfl), (Nat.le_of_ble_eq_true rfl)⟩ dX4_formatClaims_65 rfl rfl ?_
          refine gq_aload_n C dX4_formatClaims_68 rfl 0 rfl ?_
          refine gq_aload_n C dX4_formatClaims_69 rfl 0 rfl ?_
          refine gq_iload_n C dX4_formatClaims_70 rfl 1 rfl ?_
          refine gq_iconst (v := 1) C dX4_formatClaims_71 (by decide) ?_
          obtain ⟨x37, eo36, z35⟩ := bind_ex z32
          refine gq_V (As := [.int v1, .int (1 : Int32)]) (rest := [.ref (eB E + 295)]) (j := 5) C (c_X4_claimOf hN  eo36) (qn_m 295 (by decide) hN) (by decide) (by decide) rfl wk_7_223 wk_7_225 ws_X4_claimOf wk_1_9 wk_7_226 hd_X4_claimOf ⟨(Nat.le_of_ble_eq_true rfl), (Nat.le_of_ble_eq_true rfl)⟩ (Nat.le_of_ble_eq_true rfl) ⟨(Nat.le_of_ble_eq_true rfl), (Nat.le_of_ble_eq_true rfl)⟩ dX4_formatClaims_72 rfl rfl ?_
          obtain ⟨m40, eo39, z38⟩ := bind_ex z35
          refine gq_V (As := [.int x37]) (rest := []) (j := 5) C (c_X4_saysNumber hN  eo39) (qn_m 295 (by decide) hN) (by decide) (by decide) rfl wk_8_236 wk_8_238 ws_X4_saysNumber wk_1_9 wk_8_239 hd_X4_saysNumber ⟨(Nat.le_of_ble_eq_true rfl), (Nat.le_of_ble_eq_true rfl)⟩ (Nat.le_of_ble_eq_true rfl) ⟨(Nat.le_of_ble_eq_true rfl), (Nat.le_of_ble_eq_true rfl)⟩ dX4_formatClaims_75 rfl rfl ?_
          refine gq_aload_n C dX4_formatClaims_78 rfl 0 rfl ?_
          refine gq_bipush (v := 58) C dX4_formatClaims_79 (by decide) ?_
          obtain ⟨m43, eo42, z41⟩ := bind_ex z38
          refine gq_V (As := [.int (58 : Int32)]) (rest := []) (j := 5) C (c_X4_says hN  eo42) (qn_m 295 (by decide) hN) (by decide) (by decide) rfl wk_8_232 wk_8_234 ws_X4_says wk_1_9 wk_8_235 hd_X4_says ⟨(Nat.le_of_ble_eq_true rfl), (Nat.le_of_ble_eq_true rfl)⟩ (Nat.le_of_ble_eq_true rfl) ⟨(Nat.le_of_ble_eq_true rfl), (Nat.le_of_ble_eq_true rfl)⟩ dX4_formatClaims_81 rfl rfl ?_
          refine gq_aload_n C dX4_formatClaims_84 rfl 0 rfl ?_
          refine gq_aload_n C dX4_formatClaims_85 rfl 0 rfl ?_
          refine gq_iload_n C dX4_formatClaims_86 rfl 1 rfl ?_
          refine gq_iconst (v := 5) C dX4_formatClaims_87 (by decide) ?_
          obtain ⟨x46, eo45, z44⟩ := bind_ex z41
          refine gq_V (As := [.int v1, .int (5 : Int32)]) (rest := [.ref (eB E + 295)]) (j := 5) C (c_X4_claimOf hN  eo45) (qn_m 295 (by decide) hN) (by decide) (by decide) rfl wk_7_223 wk_7_225 ws_X4_claimOf wk_1_9 wk_7_226 hd_X4_claimOf ⟨(Nat.le_of_ble_eq_true rfl), (Nat.le_of_ble_eq_true rfl)⟩ (Nat.le_of_ble_eq_true rfl) ⟨(Nat.le_of_ble_eq_true rfl), (Nat.le_of_ble_eq_true rfl)⟩ dX4_formatClaims_88 rfl rfl ?_
          obtain ⟨m49, eo48, z47⟩ := bind_ex z44
          refine gq_V (As := [.int x46]) (rest := []) (j := 5) C (c_X4_saysNumber hN  eo48) (qn_m 295 (by decide) hN) (by decide) (by decide) rfl wk_8_236 wk_8_238 ws_X4_saysNumber wk_1_9 wk_8_239 hd_X4_saysNumber ⟨(Nat.le_of_ble_eq_true rfl), (Nat.le_of_ble_eq_true rfl)⟩ (Nat.le_of_ble_eq_true rfl) ⟨(Nat.le_of_ble_eq_true rfl), (Nat.le_of_ble_eq_true rfl)⟩ dX4_formatClaims_91 rfl rfl ?_
          refine gq_aload_n C dX4_formatClaims_94 rfl 0 rfl ?_
          refine gq_bipush (v := 47) C dX4_formatClaims_95 (by decide) ?_
          obtain ⟨m52, eo51, z50⟩ := bind_ex z47
          refine gq_V (As := [.int (47 : Int32)]) (rest := []) (j := 5) C (c_X4_says hN  eo51) (qn_m 295 (by decide) hN) (by decide) (by decide) rfl wk_8_232 wk_8_234 ws_X4_says wk_1_9 wk_8_235 hd_X4_says ⟨(Nat.le_of_ble_eq_true rfl), (Nat.le_of_ble_eq_true rfl)⟩ (Nat.le_of_ble_eq_true rfl) ⟨(Nat.le_of_ble_eq_true rfl), (Nat.le_of_ble_eq_true rfl)⟩ dX4_formatClaims_97 rfl rfl ?_
          refine gq_aload_n C dX4_formatClaims_100 rfl 0 rfl ?_
          refine gq_aload_n C dX4_formatClaims_101 rfl 0 rfl ?_
          refine gq_iload_n C dX4_formatClaims_102 rfl 1 rfl ?_
          refine gq_iconst (v := 4) C dX4_formatClaims_103 (by decide) ?_
          obtain ⟨x55, eo54, z53⟩ := bind_ex z50
          refine gq_V (As := [.int v1, .int (4 : Int32)]) (rest := [.ref (eB E + 295)]) (j := 5) C (c_X4_claimOf hN  eo54) (qn_m 295 (by decide) hN) (by decide) (by decide) rfl wk_7_223 wk_7_225 ws_X4_claimOf wk_1_9 wk_7_226 hd_X4_claimOf ⟨(Nat.le_of_ble_eq_true rfl), (Nat.le_of_ble_eq_true rfl)⟩ (Nat.le_of_ble_eq_true rfl) ⟨(Nat.le_of_ble_eq_true rfl), (Nat.le_of_ble_eq_true rfl)⟩ dX4_formatClaims_104 rfl rfl ?_
          obtain ⟨m58, eo57, z56⟩ := bind_ex z53
          refine gq_V (As := [.int x55]) (rest := []) (j := 5) C (c_X4_saysNumber hN  eo57) (qn_m 295 (by decide) hN) (by decide) (by decide) rfl wk_8_236 wk_8_238 ws_X4_saysNumber wk_1_9 wk_8_239 hd_X4_saysNumber ⟨(Nat.le_of_ble_eq_true rfl), (Nat.le_of_ble_eq_true rfl)⟩ (Nat.le_of_ble_eq_true rfl) ⟨(Nat.le_of_ble_eq_true rfl), (Nat.le_of_ble_eq_true rfl)⟩ dX4_formatClaims_107 rfl rfl ?_
          refine gq_iinc (v := (v1 + 1)) (lv' := [(1, .int (v1 + 1)), (0, .ref (eB E + 295))]) (q := 1) C dX4_formatClaims_110 rfl rfl (by decide) rfl ?_
          refine gq_goto (tgt := 12) C dX4_formatClaims_113 (by decide) ?_
          refine gq_widen (k' := 0) (n' := 0) (Nat.le_of_ble_eq_true rfl) (Nat.le_of_ble_eq_true rfl) (gq_sub [1, 0] rfl ?_)
          exact ih _ _ _ z56 kk
        · rcases ite_ex z22 with ⟨c24, z25⟩ | ⟨c24, z25⟩
          · refine gq_if_ne_f (tgt := 48) C dX4_formatClaims_40 (by decide) c24 ?_
            refine gq_bipush (v := 114) C dX4_formatClaims_43 (by decide) ?_
            refine gq_goto (tgt := 65) C dX4_formatClaims_45 (by decide) ?_
            cases z25
            exact gq_widen (Nat.le_of_ble_eq_true rfl) (Nat.le_of_ble_eq_true rfl) (gq_sub [0, 1] rfl J65)
          · refine gq_if_ne_t (tgt := 48) C dX4_formatClaims_40 (by decide) c24 ?_
            refine gq_aload_n C dX4_formatClaims_48 rfl 0 rfl ?_
            refine gq_iload_n C dX4_formatClaims_49 rfl 1 rfl ?_
            refine gq_iconst (v := 0) C dX4_formatClaims_50 (by decide) ?_
            obtain ⟨x28, eo27, z26⟩ := bind_ex z25
            refine gq_V (As := [.int v1, .int (0 : Int32)]) (rest := [.ref (eB E + 295)]) (j := 5) C (c_X4_claimOf hN  eo27) (qn_m 295 (by decide) hN) (by decide) (by decide) rfl wk_7_223 wk_7_225 ws_X4_claimOf wk_1_9 wk_7_226 hd_X4_claimOf ⟨(Nat.le_of_ble_eq_true rfl), (Nat.le_of_ble_eq_true rfl)⟩ (Nat.le_of_ble_eq_true rfl) ⟨(Nat.le_of_ble_eq_true rfl), (Nat.le_of_ble_eq_true rfl)⟩ dX4_formatClaims_51 rfl rfl ?_
            refine gq_iconst (v := 1) C dX4_formatClaims_54 (by decide) ?_
            rcases ite_ex z26 with ⟨c29, z30⟩ | ⟨c29, z30⟩
            · refine gq_icmp_ne_f (tgt := 63) C dX4_formatClaims_55 (by decide) c29 ?_
              refine gq_bipush (v := 108) C dX4_formatClaims_58 (by decide) ?_
              refine gq_goto (tgt := 65) C dX4_formatClaims_60 (by decide) ?_
              cases z30
              exact gq_widen (Nat.le_of_ble_eq_true rfl) (Nat.le_of_ble_eq_true rfl) (gq_sub [0, 1] rfl J65)
            · refine gq_icmp_ne_t (tgt := 63) C dX4_formatClaims_55 (by decide) c29 ?_
              refine gq_bipush (v := 111) C dX4_formatClaims_63 (by decide) ?_
              cases z30
              exact gq_widen (Nat.le_of_ble_eq_true rfl) (Nat.le_of_ble_eq_true rfl) (gq_sub [0, 1] rfl J65)
      · rcases ite_ex z10 with ⟨c12, z13⟩ | ⟨c12, z13⟩
        · refine gq_if_le_t (tgt := 33) C dX4_formatClaims_24 (by decide) c12 ?_
          cases z13
          exact gq_widen (Nat.le_of_ble_eq_true rfl) (Nat.le_of_ble_eq_true rfl) (gq_sub [0, 1] rfl J33)
        · refine gq_if_le_f (tgt := 33) C dX4_formatClaims_24 (by decide) c12 ?_
          refine gq_aload_n C dX4_formatClaims_27 rfl 0 rfl ?_
          refine gq_bipush (v := 32) C dX4_formatClaims_28 (by decide) ?_
          obtain ⟨m16, eo15, z14⟩ := bind_ex z13
          refine gq_V (As := [.int (32 : Int32)]) (rest := []) (j := 5) C (c_X4_says hN  eo15) (qn_m 295 (by decide) hN) (by decide) (by decide) rfl wk_8_232 wk_8_234 ws_X4_says wk_1_9 wk_8_235 hd_X4_says ⟨(Nat.le_of_ble_eq_true rfl), (Nat.le_of_ble_eq_true rfl)⟩ (Nat.le_of_ble_eq_true rfl) ⟨(Nat.le_of_ble_eq_true rfl), (Nat.le_of_ble_eq_true rfl)⟩ dX4_formatClaims_30 rfl rfl ?_
          cases z14
          exact gq_widen (Nat.le_of_ble_eq_true rfl) (Nat.le_of_ble_eq_true rfl) (gq_sub [0, 1] rfl J33)
set_option maxHeartbeats 4000000 in
set_option maxRecDepth 100000 in
theorem c_X4_formatClaims {l : Launch} {E : Ev} (hN : 311 ≤ eN E) {μ : Mm} {r : Int32} {μ' : Mm} (z0 : F_X4_formatClaims  μ = some (r, μ')) : Ct l E yX4_formatClaims (Cond.code yX4_formatClaims cX4_formatClaims 2 (some .int) :: GW) rm_X4_formatClaims [.ref (eB E + 295)] μ (some (.int r)) μ' := by
  refine ct_of (by decide) (Nat.le_of_ble_eq_true rfl) (fun p e s m args below meth c C hr => ?_)
  have C : Cq E p s m args meth c cX4_formatClaims 2 RX4 := C
  refine gq_lv (lv' := [(0, .ref (eB E + 295))]) rfl ?_
  unfold F_X4_formatClaims at z0
  refine gq_aload_n C dX4_formatClaims_0 rfl 0 rfl ?_
  refine gq_iconst (v := 0) C dX4_formatClaims_1 (by decide) ?_
  obtain ⟨m1, em1, z2⟩ := bind_ex z0
  refine gq_put5_0 C (qn_m 295 (by decide) hN) (by decide) wk_6_162 (Option.some.inj em1).symm dX4_formatClaims_2 ?_
  refine gq_aload_n C dX4_formatClaims_5 rfl 0 rfl ?_
  refine gq_iconst (v := 0) C dX4_formatClaims_6 (by decide) ?_
  obtain ⟨m3, em3, z4⟩ := bind_ex z2
  refine gq_put5_29 C (qn_m 295 (by decide) hN) (by decide) wk_6_191 (Option.some.inj em3).symm dX4_formatClaims_7 ?_
  refine gq_iconst (v := 0) C dX4_formatClaims_10 (by decide) ?_
  refine gq_istore_n (lv' := [(1, .int (0 : Int32)), (0, .ref (eB E + 295))]) C dX4_formatClaims_11 rfl (by decide) rfl ?_
  obtain ⟨m61, eo60, z59⟩ := bind_ex z4
  refine gq_widen (k' := 0) (n' := 0) (Nat.le_of_ble_eq_true rfl) (Nat.le_of_ble_eq_true rfl) (gq_sub [1, 0] rfl ?_)
  refine l_X4_formatClaims_12 hN C  qFuel _ _ _ eo60 ?_
  refine gq_aload_n C dX4_formatClaims_116 rfl 0 rfl ?_
  refine gq_get5 C (qn_m 295 (by decide) hN) (by decide) 29 (by decide) wk_6_191 rfl dX4_formatClaims_117 ?_
  cases z59
  exact gq_iret C hr dX4_formatClaims_120 (Nat.le_of_ble_eq_true rfl) (Nat.le_of_ble_eq_true rfl)
abbrev rm_X4_formatRiver : Room := { frames := 2, cells := 0, slots := 0, locals := 43 }
def F_X4_formatRiver_12  : Nat → Int32 → Mm → Option Mm
  | 0, _, _ => none
  | n + 1, v1, μ =>
  (aI μ 296 (0 : Int32)).bind fun x5 =>
  if x5 ≤ v1 then
  (some μ)
  else
  ((if v1 ≤ 0 then
  (some μ)
  else
  ((F_X4_says (62 : Int32) μ).bind fun o15 =>
  some o15)).bind fun o17 =>
  (F_X4_gaugeOf v1 (2 : Int32) o17).bind fun o19 =>
  (F_X4_saysNumber o19 o17).bind fun o22 =>
  F_X4_formatRiver_12 n (v1 + 1) o22)
def F_X4_formatRiver  (μ : Mm) : Option (Int32 × Mm) :=
  (some (uI μ 295 0 (0 : Int32))).bind fun m1 =>
  (some (uI m1 295 29 (0 : Int32))).bind fun m3 =>
  (F_X4_formatRiver_12 qFuel (0 : Int32) m3).bind fun o25 =>
  some ((o25.1 295 29), o25)
set_option maxHeartbeats 4000000 in
set_option maxRecDepth 100000 in
theorem l_X4_formatRiver_12 {l : Launch} {E : Ev} (hN : 311 ≤ eN E) {p : Program} {e : Env} {s : State} {m : MethodId} {args : Array Value} {below : List Frame} {meth : Method} {c : Code} (C : Cq E p s m args meth c cX4_formatRiver 2 RX4) {Q : State → Prop} : ∀ (n : Nat) (v1 : Int32) (μ : Mm) (μx : Mm), F_X4_formatRiver_12 n v1 μ = some μx → Gq E p l e rm_X4_formatRiver s m args below meth c 0 0 2 Q 48 [(0, .ref (eB E + 295))] [] μx → Gq E p l e rm_X4_formatRiver s m args below meth c 0 0 2 Q 12 [(0, .ref (eB E + 295)), (1, .int v1)] [] μ := by
  intro n
  induction n with
  | zero =>
    intro v1 μ μx z0 kk
    rw [F_X4_formatRiver_12] at z0
    cases z0
  | succ n ih =>
    intro v1 μ μx z0 kk
    rw [F_X4_formatRiver_12] at z0
    refine gq_iload_n C dX4_formatRiver_12 rfl 1 rfl ?_
    refine gq_aload_n C dX4_formatRiver_13 rfl 0 rfl ?_
    refine gq_get5 C (qn_m 295 (by decide) hN) (by decide) 1 (by decide) wk_6_163 rfl dX4_formatRiver_14 ?_
    refine gq_iconst (v := 0) C dX4_formatRiver_17 (by decide) ?_
    obtain ⟨x5, ex5, z6⟩ := bind_ex z0
    refine gq_ialoadI C (qn_m 296 (by decide) hN) (by decide) ex5 dX4_formatRiver_18 ?_
    rcases ite_ex z6 with ⟨c7, z8⟩ | ⟨c7, z8⟩
    · refine gq_icmp_ge_t (tgt := 48) C dX4_formatRiver_19 (by decide) c7 ?_
      cases z8
      exact gq_widen (Nat.le_of_ble_eq_true rfl) (Nat.le_of_ble_eq_true rfl) (gq_sub [0] rfl kk)
    · refine gq_icmp_ge_f (tgt := 48) C dX4_formatRiver_19 (by decide) c7 ?_
      refine gq_iload_n C dX4_formatRiver_22 rfl 1 rfl ?_
      obtain ⟨m9, z10, z11⟩ := bind_ex z8
      refine gq_join (k' := 0) (n' := 0) (pc' := 32) (lv' := [(0, .ref (eB E + 295)), (1, .int v1)]) (st' := []) (μ' := m9) ?_ (fun J32 => ?_)
      · refine gq_aload_n C dX4_formatRiver_32 rfl 0 rfl ?_
        refine gq_aload_n C dX4_formatRiver_33 rfl 0 rfl ?_
        refine gq_iload_n C dX4_formatRiver_34 rfl 1 rfl ?_
        refine gq_iconst (v := 2) C dX4_formatRiver_35 (by decide) ?_
        obtain ⟨x20, eo19, z18⟩ := bind_ex z11
        refine gq_V (As := [.int v1, .int (2 : Int32)]) (rest := [.ref (eB E + 295)]) (j := 5) C (c_X4_gaugeOf hN  eo19) (qn_m 295 (by decide) hN) (by decide) (by decide) rfl wk_7_231 wk_7_233 ws_X4_gaugeOf wk_1_9 wk_7_234 hd_X4_gaugeOf ⟨(Nat.le_of_ble_eq_true rfl), (Nat.le_of_ble_eq_true rfl)⟩ (Nat.le_of_ble_eq_true rfl) ⟨(Nat.le_of_ble_eq_true rfl), (Nat.le_of_ble_eq_true rfl)⟩ dX4_formatRiver_36 rfl rfl ?_
        obtain ⟨m23, eo22, z21⟩ := bind_ex z18
        refine gq_V (As := [.int x20]) (rest := []) (j := 5) C (c_X4_saysNumber hN  eo22) (qn_m 295 (by decide) hN) (by decide) (by decide) rfl wk_8_236 wk_8_238 ws_X4_saysNumber wk_1_9 wk_8_239 hd_X4_saysNumber ⟨(Nat.le_of_ble_eq_true rfl), (Nat.le_of_ble_eq_true rfl)⟩ (Nat.le_of_ble_eq_true rfl) ⟨(Nat.le_of_ble_eq_true rfl), (Nat.le_of_ble_eq_true rfl)⟩ dX4_formatRiver_39 rfl rfl ?_
        refine gq_iinc (v := (v1 + 1)) (lv' := [(1, .int (v1 + 1)), (0, .ref (eB E + 295))]) (q := 1) C dX4_formatRiver_42 rfl rfl (by decide) rfl ?_
        refine gq_goto (tgt := 12) C dX4_formatRiver_45 (by decide) ?_
        refine gq_widen (k' := 0) (n' := 0) (Nat.le_of_ble_eq_true rfl) (Nat.le_of_ble_eq_true rfl) (gq_sub [1, 0] rfl ?_)
        exact ih _ _ _ z21 kk
      · rcases ite_ex z10 with ⟨c12, z13⟩ | ⟨c12, z13⟩
        · refine gq_if_le_t (tgt := 32) C dX4_formatRiver_23 (by decide) c12 ?_
          cases z13
          exact gq_widen (Nat.le_of_ble_eq_true rfl) (Nat.le_of_ble_eq_true rfl) (gq_sub [0, 1] rfl J32)
        · refine gq_if_le_f (tgt := 32) C dX4_formatRiver_23 (by decide) c12 ?_
          refine gq_aload_n C dX4_formatRiver_26 rfl 0 rfl ?_
          refine gq_bipush (v := 62) C dX4_formatRiver_27 (by decide) ?_
          obtain ⟨m16, eo15, z14⟩ := bind_ex z13
          refine gq_V (As := [.int (62 : Int32)]) (rest := []) (j := 5) C (c_X4_says hN  eo15) (qn_m 295 (by decide) hN) (by decide) (by decide) rfl wk_8_232 wk_8_234 ws_X4_says wk_1_9 wk_8_235 hd_X4_says ⟨(Nat.le_of_ble_eq_true rfl), (Nat.le_of_ble_eq_true rfl)⟩ (Nat.le_of_ble_eq_true rfl) ⟨(Nat.le_of_ble_eq_true rfl), (Nat.le_of_ble_eq_true rfl)⟩ dX4_formatRiver_29 rfl rfl ?_
          cases z14
          exact gq_widen (Nat.le_of_ble_eq_true rfl) (Nat.le_of_ble_eq_true rfl) (gq_sub [0, 1] rfl J32)
set_option maxHeartbeats 4000000 in
set_option maxRecDepth 100000 in
theorem c_X4_formatRiver {l : Launch} {E : Ev} (hN : 311 ≤ eN E) {μ : Mm} {r : Int32} {μ' : Mm} (z0 : F_X4_formatRiver  μ = some (r, μ')) : Ct l E yX4_formatRiver (Cond.code yX4_formatRiver cX4_formatRiver 2 (some .int) :: GW) rm_X4_formatRiver [.ref (eB E + 295)] μ (some (.int r)) μ' := by
  refine ct_of (by decide) (Nat.le_of_ble_eq_true rfl) (fun p e s m args below meth c C hr => ?_)
  have C : Cq E p s m args meth c cX4_formatRiver 2 RX4 := C
  refine gq_lv (lv' := [(0, .ref (eB E + 295))]) rfl ?_
  unfold F_X4_formatRiver at z0
  refine gq_aload_n C dX4_formatRiver_0 rfl 0 rfl ?_
  refine gq_iconst (v := 0) C dX4_formatRiver_1 (by decide) ?_
  obtain ⟨m1, em1, z2⟩ := bind_ex z0
  refine gq_put5_0 C (qn_m 295 (by decide) hN) (by decide) wk_6_162 (Option.some.inj em1).symm dX4_formatRiver_2 ?_
  refine gq_aload_n C dX4_formatRiver_5 rfl 0 rfl ?_
  refine gq_iconst (v := 0) C dX4_formatRiver_6 (by decide) ?_
  obtain ⟨m3, em3, z4⟩ := bind_ex z2
  refine gq_put5_29 C (qn_m 295 (by decide) hN) (by decide) wk_6_191 (Option.some.inj em3).symm dX4_formatRiver_7 ?_
  refine gq_iconst (v := 0) C dX4_formatRiver_10 (by decide) ?_
  refine gq_istore_n (lv' := [(1, .int (0 : Int32)), (0, .ref (eB E + 295))]) C dX4_formatRiver_11 rfl (by decide) rfl ?_
  obtain ⟨m26, eo25, z24⟩ := bind_ex z4
  refine gq_widen (k' := 0) (n' := 0) (Nat.le_of_ble_eq_true rfl) (Nat.le_of_ble_eq_true rfl) (gq_sub [1, 0] rfl ?_)
  refine l_X4_formatRiver_12 hN C  qFuel _ _ _ eo25 ?_
  refine gq_aload_n C dX4_formatRiver_48 rfl 0 rfl ?_
  refine gq_get5 C (qn_m 295 (by decide) hN) (by decide) 29 (by decide) wk_6_191 rfl dX4_formatRiver_49 ?_
  cases z24
  exact gq_iret C hr dX4_formatRiver_52 (Nat.le_of_ble_eq_true rfl) (Nat.le_of_ble_eq_true rfl)
abbrev rm_X4_formattedByte : Room := { frames := 1, cells := 0, slots := 0, locals := 22 }
def F_X4_formattedByte (p1 : Int32) (μ : Mm) : Option (Int32 × Mm) :=
  (some (uI μ 295 0 (0 : Int32))).bind fun m1 =>
  (F_X4_inRange p1 (0 : Int32) ((m1.1 295 29) - (1 : Int32)) m1).bind fun o4 =>
  if o4 = 0 then
  (some ((-1 : Int32), m1))
  else
  ((aI m1 310 p1).bind fun x8 =>
  some (x8, m1))
set_option maxHeartbeats 4000000 in
set_option maxRecDepth 100000 in
theorem c_X4_formattedByte {l : Launch} {E : Ev} (hN : 311 ≤ eN E) {p1 : Int32} {μ : Mm} {r : Int32} {μ' : Mm} (z0 : F_X4_formattedByte p1 μ = some (r, μ')) : Ct l E yX4_formattedByte (Cond.code yX4_formattedByte cX4_formattedByte 2 (some .int) :: GW) rm_X4_formattedByte [.ref (eB E + 295), .int p1] μ (some (.int r)) μ' := by
  refine ct_of (by decide) (Nat.le_of_ble_eq_true rfl) (fun p e s m args below meth c C hr => ?_)
  have C : Cq E p s m args meth c cX4_formattedByte 2 RX4 := C
  refine gq_lv (lv' := [(0, .ref (eB E + 295)), (1, .int p1)]) rfl ?_
  unfold F_X4_formattedByte at z0
  refine gq_aload_n C dX4_formattedByte_0 rfl 0 rfl ?_
  refine gq_iconst (v := 0) C dX4_formattedByte_1 (by decide) ?_
  obtain ⟨m1, em1, z2⟩ := bind_ex z0
  refine gq_put5_0 C (qn_m 295 (by decide) hN) (by decide) wk_6_162 (Option.some.inj em1).symm dX4_formattedByte_2 ?_
  refine gq_iload_n C dX4_formattedByte_5 rfl 1 rfl ?_
  refine gq_iconst (v := 0) C dX4_formattedByte_6 (by decide) ?_
  refine gq_aload_n C dX4_formattedByte_7 rfl 0 rfl ?_
  refine gq_get5 C (qn_m 295 (by decide) hN) (by decide) 29 (by decide) wk_6_191 rfl dX4_formattedByte_8 ?_
  refine gq_iconst (v := 1) C dX4_formattedByte_11 (by decide) ?_
  refine gq_isub C dX4_formattedByte_12 ?_
  obtain ⟨x5, eo4, z3⟩ := bind_ex z2
  refine gq_S (As := [.int p1, .int (0 : Int32), .int ((m1.1 295 29) - (1 : Int32))]) (rest := []) C (c_X4_inRange hN  eo4) wk_7_50 wk_7_51 wk_1_9 wk_7_52 hd_X4_inRange ⟨(Nat.le_of_ble_eq_true rfl), (Nat.le_of_ble_eq_true rfl)⟩ (Nat.le_of_ble_eq_true rfl) ⟨(Nat.le_of_ble_eq_true rfl), (Nat.le_of_ble_eq_true rfl)⟩ dX4_formattedByte_13 rfl rfl ?_
  rcases ite_ex z3 with ⟨c6, z7⟩ | ⟨c6, z7⟩
  · refine gq_if_eq_t (tgt := 28) C dX4_formattedByte_16 (by decide) c6 ?_
    refine gq_iconst (v := -1) C dX4_formattedByte_28 (by decide) ?_
    cases z7
    exact gq_iret C hr dX4_formattedByte_29 (Nat.le_of_ble_eq_true rfl) (Nat.le_of_ble_eq_true rfl)
  · refine gq_if_eq_f (tgt := 28) C dX4_formattedByte_16 (by decide) c6 ?_
    refine gq_aload_n C dX4_formattedByte_19 rfl 0 rfl ?_
    refine gq_get5 C (qn_m 295 (by decide) hN) (by decide) 28 (by decide) wk_6_190 rfl dX4_formattedByte_20 ?_
    refine gq_iload_n C dX4_formattedByte_23 rfl 1 rfl ?_
    obtain ⟨x8, ex8, z9⟩ := bind_ex z7
    refine gq_ialoadI C (qn_m 310 (by decide) hN) (by decide) ex8 dX4_formattedByte_24 ?_
    refine gq_goto (tgt := 29) C dX4_formattedByte_25 (by decide) ?_
    cases z9
    exact gq_iret C hr dX4_formattedByte_29 (Nat.le_of_ble_eq_true rfl) (Nat.le_of_ble_eq_true rfl)
