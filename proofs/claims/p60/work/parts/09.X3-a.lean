abbrev rm_X3_append : Room := { frames := 1, cells := 0, slots := 0, locals := 22 }
def F_X3_append (p1 : Int32) (p2 : Int32) (p3 : Int32) (p4 : Int32) (p5 : Int32) (μ : Mm) : Option (Int32 × Mm) :=
  if ((μ.1 45 2) + (20 : Int32)) ≤ (900 : Int32) then
  ((F_X0_addWord p1 μ).bind fun o4 =>
  (F_X0_addWord p2 o4).bind fun o7 =>
  (F_X0_addWord p3 o7).bind fun o10 =>
  (F_X0_addWord p4 o10).bind fun o13 =>
  (F_X0_addWord p5 o13).bind fun o16 =>
  some ((o16.1 45 2), o16))
  else
  (some ((-1 : Int32), μ))
set_option maxHeartbeats 4000000 in
set_option maxRecDepth 100000 in
theorem c_X3_append {l : Launch} {E : Ev} (hN : 295 ≤ eN E) {p1 : Int32} {p2 : Int32} {p3 : Int32} {p4 : Int32} {p5 : Int32} {μ : Mm} {r : Int32} {μ' : Mm} (z0 : F_X3_append p1 p2 p3 p4 p5 μ = some (r, μ')) : Ct l E yX3_append (Cond.code yX3_append cX3_append 6 (some .int) :: GW) rm_X3_append [.ref (eB E + 0), .int p1, .int p2, .int p3, .int p4, .int p5] μ (some (.int r)) μ' := by
  refine ct_of (by decide) (Nat.le_of_ble_eq_true rfl) (fun p e s m args below meth c C hr => ?_)
  have C : Cq E p s m args meth c cX3_append 6 RX3 := C
  refine gq_lv (lv' := [(0, .ref (eB E + 0)), (1, .int p1), (2, .int p2), (3, .int p3), (4, .int p4), (5, .int p5)]) rfl ?_
  unfold F_X3_append at z0
  refine gq_aload_n C dX3_append_0 rfl 0 rfl ?_
  refine gq_get0 C (qn_l 0 (by decide) hN) (by decide) 2 (by decide) wk_3_63 rfl dX3_append_1 ?_
  refine gq_get3N C (qn_l 45 (by decide) hN) (by decide) 2 (by decide) wk_2_239 rfl dX3_append_4 ?_
  refine gq_bipush (v := 20) C dX3_append_7 (by decide) ?_
  refine gq_iadd C dX3_append_9 ?_
  refine gq_sipush (v := 900) C dX3_append_10 (by decide) ?_
  rcases ite_ex z0 with ⟨c1, z2⟩ | ⟨c1, z2⟩
  · refine gq_icmp_le_t (tgt := 18) C dX3_append_13 (by decide) c1 ?_
    refine gq_aload_n C dX3_append_18 rfl 0 rfl ?_
    refine gq_get0 C (qn_l 0 (by decide) hN) (by decide) 2 (by decide) wk_3_63 rfl dX3_append_19 ?_
    refine gq_iload_n C dX3_append_22 rfl 1 rfl ?_
    obtain ⟨m5, eo4, z3⟩ := bind_ex z2
    refine gq_V (As := [.int p1]) (rest := []) (j := 3) C (c_X0_addWord hN  eo4) (qn_l 45 (by decide) hN) (by decide) (by decide) rfl wk_4_108 wk_4_109 wk_4_110 wk_1_6 wk_4_111 hd_X0_addWord ⟨(Nat.le_of_ble_eq_true rfl), (Nat.le_of_ble_eq_true rfl)⟩ (Nat.le_of_ble_eq_true rfl) ⟨(Nat.le_of_ble_eq_true rfl), (Nat.le_of_ble_eq_true rfl)⟩ dX3_append_23 rfl rfl ?_
    refine gq_aload_n C dX3_append_26 rfl 0 rfl ?_
    refine gq_get0 C (qn_l 0 (by decide) hN) (by decide) 2 (by decide) wk_3_63 rfl dX3_append_27 ?_
    refine gq_iload_n C dX3_append_30 rfl 2 rfl ?_
    obtain ⟨m8, eo7, z6⟩ := bind_ex z3
    refine gq_V (As := [.int p2]) (rest := []) (j := 3) C (c_X0_addWord hN  eo7) (qn_l 45 (by decide) hN) (by decide) (by decide) rfl wk_4_108 wk_4_109 wk_4_110 wk_1_6 wk_4_111 hd_X0_addWord ⟨(Nat.le_of_ble_eq_true rfl), (Nat.le_of_ble_eq_true rfl)⟩ (Nat.le_of_ble_eq_true rfl) ⟨(Nat.le_of_ble_eq_true rfl), (Nat.le_of_ble_eq_true rfl)⟩ dX3_append_31 rfl rfl ?_
    refine gq_aload_n C dX3_append_34 rfl 0 rfl ?_
    refine gq_get0 C (qn_l 0 (by decide) hN) (by decide) 2 (by decide) wk_3_63 rfl dX3_append_35 ?_
    refine gq_iload_n C dX3_append_38 rfl 3 rfl ?_
    obtain ⟨m11, eo10, z9⟩ := bind_ex z6
    refine gq_V (As := [.int p3]) (rest := []) (j := 3) C (c_X0_addWord hN  eo10) (qn_l 45 (by decide) hN) (by decide) (by decide) rfl wk_4_108 wk_4_109 wk_4_110 wk_1_6 wk_4_111 hd_X0_addWord ⟨(Nat.le_of_ble_eq_true rfl), (Nat.le_of_ble_eq_true rfl)⟩ (Nat.le_of_ble_eq_true rfl) ⟨(Nat.le_of_ble_eq_true rfl), (Nat.le_of_ble_eq_true rfl)⟩ dX3_append_39 rfl rfl ?_
    refine gq_aload_n C dX3_append_42 rfl 0 rfl ?_
    refine gq_get0 C (qn_l 0 (by decide) hN) (by decide) 2 (by decide) wk_3_63 rfl dX3_append_43 ?_
    refine gq_iload C dX3_append_46 4 rfl ?_
    obtain ⟨m14, eo13, z12⟩ := bind_ex z9
    refine gq_V (As := [.int p4]) (rest := []) (j := 3) C (c_X0_addWord hN  eo13) (qn_l 45 (by decide) hN) (by decide) (by decide) rfl wk_4_108 wk_4_109 wk_4_110 wk_1_6 wk_4_111 hd_X0_addWord ⟨(Nat.le_of_ble_eq_true rfl), (Nat.le_of_ble_eq_true rfl)⟩ (Nat.le_of_ble_eq_true rfl) ⟨(Nat.le_of_ble_eq_true rfl), (Nat.le_of_ble_eq_true rfl)⟩ dX3_append_48 rfl rfl ?_
    refine gq_aload_n C dX3_append_51 rfl 0 rfl ?_
    refine gq_get0 C (qn_l 0 (by decide) hN) (by decide) 2 (by decide) wk_3_63 rfl dX3_append_52 ?_
    refine gq_iload C dX3_append_55 5 rfl ?_
    obtain ⟨m17, eo16, z15⟩ := bind_ex z12
    refine gq_V (As := [.int p5]) (rest := []) (j := 3) C (c_X0_addWord hN  eo16) (qn_l 45 (by decide) hN) (by decide) (by decide) rfl wk_4_108 wk_4_109 wk_4_110 wk_1_6 wk_4_111 hd_X0_addWord ⟨(Nat.le_of_ble_eq_true rfl), (Nat.le_of_ble_eq_true rfl)⟩ (Nat.le_of_ble_eq_true rfl) ⟨(Nat.le_of_ble_eq_true rfl), (Nat.le_of_ble_eq_true rfl)⟩ dX3_append_57 rfl rfl ?_
    refine gq_aload_n C dX3_append_60 rfl 0 rfl ?_
    refine gq_get0 C (qn_l 0 (by decide) hN) (by decide) 2 (by decide) wk_3_63 rfl dX3_append_61 ?_
    refine gq_get3N C (qn_l 45 (by decide) hN) (by decide) 2 (by decide) wk_2_239 rfl dX3_append_64 ?_
    cases z15
    exact gq_iret C hr dX3_append_67 (Nat.le_of_ble_eq_true rfl) (Nat.le_of_ble_eq_true rfl)
  · refine gq_icmp_le_f (tgt := 18) C dX3_append_13 (by decide) c1 ?_
    refine gq_iconst (v := -1) C dX3_append_16 (by decide) ?_
    cases z2
    exact gq_iret C hr dX3_append_17 (Nat.le_of_ble_eq_true rfl) (Nat.le_of_ble_eq_true rfl)
abbrev rm_X3_truncate : Room := { frames := 0, cells := 0, slots := 0, locals := 0 }
def F_X3_truncate (p1 : Int32) (μ : Mm) : Option (Int32 × Mm) :=
  if p1 < 0 then
  (some ((0 : Int32), μ))
  else
  (if p1 ≤ (μ.1 45 2) then
  ((some (uI μ 45 2 p1)).bind fun m5 =>
  some ((1 : Int32), m5))
  else
  (some ((0 : Int32), μ)))
set_option maxHeartbeats 4000000 in
set_option maxRecDepth 100000 in
theorem c_X3_truncate {l : Launch} {E : Ev} (hN : 295 ≤ eN E) {p1 : Int32} {μ : Mm} {r : Int32} {μ' : Mm} (z0 : F_X3_truncate p1 μ = some (r, μ')) : Ct l E yX3_truncate (Cond.code yX3_truncate cX3_truncate 2 (some .boolean) :: GW) rm_X3_truncate [.ref (eB E + 0), .int p1] μ (some (.int r)) μ' := by
  refine ct_of (by decide) (Nat.le_of_ble_eq_true rfl) (fun p e s m args below meth c C hr => ?_)
  have C : Cq E p s m args meth c cX3_truncate 2 RX3 := C
  refine gq_lv (lv' := [(0, .ref (eB E + 0)), (1, .int p1)]) rfl ?_
  unfold F_X3_truncate at z0
  refine gq_iload_n C dX3_truncate_0 rfl 1 rfl ?_
  rcases ite_ex z0 with ⟨c1, z2⟩ | ⟨c1, z2⟩
  · refine gq_if_lt_t (tgt := 15) C dX3_truncate_1 (by decide) c1 ?_
    refine gq_iconst (v := 0) C dX3_truncate_15 (by decide) ?_
    cases z2
    exact gq_zret C hr (by decide) dX3_truncate_16 (Nat.le_of_ble_eq_true rfl) (Nat.le_of_ble_eq_true rfl)
  · refine gq_if_lt_f (tgt := 15) C dX3_truncate_1 (by decide) c1 ?_
    refine gq_iload_n C dX3_truncate_4 rfl 1 rfl ?_
    refine gq_aload_n C dX3_truncate_5 rfl 0 rfl ?_
    refine gq_get0 C (qn_l 0 (by decide) hN) (by decide) 2 (by decide) wk_3_63 rfl dX3_truncate_6 ?_
    refine gq_get3N C (qn_l 45 (by decide) hN) (by decide) 2 (by decide) wk_2_239 rfl dX3_truncate_9 ?_
    rcases ite_ex z2 with ⟨c3, z4⟩ | ⟨c3, z4⟩
    · refine gq_icmp_le_t (tgt := 17) C dX3_truncate_12 (by decide) c3 ?_
      refine gq_aload_n C dX3_truncate_17 rfl 0 rfl ?_
      refine gq_get0 C (qn_l 0 (by decide) hN) (by decide) 2 (by decide) wk_3_63 rfl dX3_truncate_18 ?_
      refine gq_iload_n C dX3_truncate_21 rfl 1 rfl ?_
      obtain ⟨m5, em5, z6⟩ := bind_ex z4
      refine gq_put3_2N C (qn_l 45 (by decide) hN) (by decide) wk_2_239 (Option.some.inj em5).symm dX3_truncate_22 ?_
      refine gq_iconst (v := 1) C dX3_truncate_25 (by decide) ?_
      cases z6
      exact gq_zret C hr (by decide) dX3_truncate_26 (Nat.le_of_ble_eq_true rfl) (Nat.le_of_ble_eq_true rfl)
    · refine gq_icmp_le_f (tgt := 17) C dX3_truncate_12 (by decide) c3 ?_
      refine gq_iconst (v := 0) C dX3_truncate_15 (by decide) ?_
      cases z4
      exact gq_zret C hr (by decide) dX3_truncate_16 (Nat.le_of_ble_eq_true rfl) (Nat.le_of_ble_eq_true rfl)
abbrev rm_X3_load : Room := { frames := 10, cells := 1, slots := 6, locals := 300 }
def F_X3_load_51  : Nat → Int32 → Mm → Option Mm
  | 0, _, _ => none
  | n + 1, v2, μ =>
  if (2 : Int32) ≤ v2 then
  (some μ)
  else
  ((sZ μ 292 v2 (0 : Int32)).bind fun m16 =>
  F_X3_load_51 n (v2 + 1) m16)
def F_X3_load  (μ : Mm) : Option (Nat × Int32 × Mm) :=
  (F_X0_readText  μ).bind fun o2 =>
  (some (uI o2.2 45 2 (0 : Int32))).bind fun m5 =>
  if o2.1 = 0 then
  (some (3, 0, m5))
  else
  ((F_X1_copyFrom 1 47 m5).bind fun o10 =>
  (some (uI o10 0 5 (0 : Int32))).bind fun m12 =>
  (F_X3_load_51 qFuel (0 : Int32) m12).bind fun o19 =>
  some (0, (o19.1 9 2), o19))
set_option maxHeartbeats 4000000 in
set_option maxRecDepth 100000 in
theorem l_X3_load_51 {l : Launch} {E : Ev} (hN : 295 ≤ eN E) {p : Program} {e : Env} {s : State} {m : MethodId} {args : Array Value} {below : List Frame} {meth : Method} {c : Code} (hl9 : l.stackTraces = false) (hout : ∀ x ∈ c.exceptionTable.toList, False) (C : Cq E p s m args meth c cX3_load 3 RX3) {Q : State → Prop} : ∀ (n : Nat) (v2 : Int32) (μ : Mm) (μx : Mm), F_X3_load_51 n v2 μ = some μx → Gq E p l e rm_X3_load s m args below meth c 0 0 3 Q 69 [(0, .ref (eB E + 0))] [] μx → Gq E p l e rm_X3_load s m args below meth c 0 0 3 Q 51 [(0, .ref (eB E + 0)), (2, .int v2)] [] μ := by
  intro n
  induction n with
  | zero =>
    intro v2 μ μx z0 kk
    rw [F_X3_load_51] at z0
    cases z0
  | succ n ih =>
    intro v2 μ μx z0 kk
    rw [F_X3_load_51] at z0
    refine gq_iload_n C dX3_load_51 rfl 1 rfl ?_
    refine gq_iconst (v := 2) C dX3_load_52 (by decide) ?_
    rcases ite_ex z0 with ⟨c14, z15⟩ | ⟨c14, z15⟩
    · refine gq_icmp_ge_t (tgt := 69) C dX3_load_53 (by decide) c14 ?_
      cases z15
      exact gq_widen (Nat.le_of_ble_eq_true rfl) (Nat.le_of_ble_eq_true rfl) (gq_sub [0] rfl kk)
    · refine gq_icmp_ge_f (tgt := 69) C dX3_load_53 (by decide) c14 ?_
      refine gq_aload_n C dX3_load_56 rfl 0 rfl ?_
      refine gq_get0 C (qn_l 0 (by decide) hN) (by decide) 7 (by decide) wk_3_68 rfl dX3_load_57 ?_
      refine gq_iload_n C dX3_load_60 rfl 1 rfl ?_
      refine gq_iconst (v := 0) C dX3_load_61 (by decide) ?_
      obtain ⟨m16, em16, z17⟩ := bind_ex z15
      refine gq_bastoreZ C (qn_l 292 (by decide) hN) (by decide) em16 dX3_load_62 ?_
      refine gq_iinc (v := (v2 + 1)) (lv' := [(2, .int (v2 + 1)), (0, .ref (eB E + 0))]) (q := 1) C dX3_load_63 rfl rfl (by decide) rfl ?_
      refine gq_goto (tgt := 51) C dX3_load_66 (by decide) ?_
      refine gq_widen (k' := 0) (n' := 0) (Nat.le_of_ble_eq_true rfl) (Nat.le_of_ble_eq_true rfl) (gq_sub [1, 0] rfl ?_)
      exact ih _ _ _ z17 kk
set_option maxHeartbeats 4000000 in
set_option maxRecDepth 100000 in
theorem c_X3_load {l : Launch} {E : Ev} (hN : 295 ≤ eN E) (hl9 : l.stackTraces = false) {μ : Mm} {ec : Nat} {r : Int32} {μ' : Mm} (z0 : F_X3_load  μ = some (ec, r, μ')) : Cx l E yX3_load (Cond.code yX3_load cX3_load 3 (some .int) :: GW) rm_X3_load [.ref (eB E + 0)] μ ec (some (.int r)) μ' := by
  refine cx_of (by decide) (Nat.le_of_ble_eq_true rfl) (fun p e s m args below meth c C hr hout => ?_)
  have C : Cq E p s m args meth c cX3_load 3 RX3 := C
  refine gq_lv (lv' := [(0, .ref (eB E + 0))]) rfl ?_
  unfold F_X3_load at z0
  refine gq_aload_n C dX3_load_0 rfl 0 rfl ?_
  refine gq_get0 C (qn_l 0 (by decide) hN) (by decide) 2 (by decide) wk_3_63 rfl dX3_load_1 ?_
  obtain ⟨⟨x3, m4⟩, eo2, z1⟩ := bind_ex z0
  dsimp only at z1
  refine gq_V (As := []) (rest := []) (j := 3) C (c_X0_readText hN  eo2) (qn_l 45 (by decide) hN) (by decide) (by decide) rfl wk_4_120 wk_4_121 wk_4_122 wk_1_6 wk_4_123 hd_X0_readText ⟨(Nat.le_of_ble_eq_true rfl), (Nat.le_of_ble_eq_true rfl)⟩ (Nat.le_of_ble_eq_true rfl) ⟨(Nat.le_of_ble_eq_true rfl), (Nat.le_of_ble_eq_true rfl)⟩ dX3_load_4 rfl rfl ?_
  refine gq_istore_n (lv' := [(1, .int x3), (0, .ref (eB E + 0))]) C dX3_load_7 rfl (by decide) rfl ?_
  refine gq_aload_n C dX3_load_8 rfl 1 rfl ?_
  refine gq_get0 C (qn_l 0 (by decide) hN) (by decide) 2 (by decide) wk_3_63 rfl dX3_load_9 ?_
  refine gq_iconst (v := 0) C dX3_load_12 (by decide) ?_
  obtain ⟨m5, em5, z6⟩ := bind_ex z1
  refine gq_put3_2N C (qn_l 45 (by decide) hN) (by decide) wk_2_239 (Option.some.inj em5).symm dX3_load_13 ?_
  refine gq_iload_n C dX3_load_16 rfl 0 rfl ?_
  rcases ite_ex z6 with ⟨c7, z8⟩ | ⟨c7, z8⟩
  · refine gq_if_ne_f (tgt := 30) C dX3_load_17 (by decide) c7 ?_
    cases z8
    exact gx_throw C hl9 (cls := "java/lang/IllegalArgumentException") (text := "the text does not match") (names := ["java/lang/RuntimeException", "java/lang/Exception"]) (j := 23) (by decide +kernel) (by decide +kernel) wk_1_180 wk_1_22 (by decide +kernel) (at_X3_67 C) at_X3_67_g dX3_load_20 dX3_load_23 dX3_load_24 dX3_load_26 dX3_load_29 hout (by decide) rfl (Nat.le_of_ble_eq_true rfl) (Nat.le_of_ble_eq_true rfl) (Nat.le_of_ble_eq_true rfl) (Nat.le_of_ble_eq_true rfl) (Nat.le_of_ble_eq_true rfl) (Nat.le_of_ble_eq_true rfl)
  · refine gq_if_ne_t (tgt := 30) C dX3_load_17 (by decide) c7 ?_
    refine gq_aload_n C dX3_load_30 rfl 1 rfl ?_
    refine gq_get0 C (qn_l 0 (by decide) hN) (by decide) 0 (by decide) wk_3_61 rfl dX3_load_31 ?_
    refine gq_aload_n C dX3_load_34 rfl 1 rfl ?_
    refine gq_get0 C (qn_l 0 (by decide) hN) (by decide) 2 (by decide) wk_3_63 rfl dX3_load_35 ?_
    refine gq_get3N C (qn_l 45 (by decide) hN) (by decide) 1 (by decide) wk_2_238 rfl dX3_load_38 ?_
    obtain ⟨m11, eo10, z9⟩ := bind_ex z8
    refine gq_V (As := [.ref (eB E + 47)]) (rest := []) (j := 1) C (c_X1_copyFrom hN (show kd 1 = 1 by decide) (show kd 47 = 1 by decide) eo10) (qn_l 1 (by decide) hN) (by decide) (by decide) rfl wk_1_221 wk_1_222 wk_1_223 wk_1_4 wk_1_224 hd_X1_copyFrom ⟨(Nat.le_of_ble_eq_true rfl), (Nat.le_of_ble_eq_true rfl)⟩ (Nat.le_of_ble_eq_true rfl) ⟨(Nat.le_of_ble_eq_true rfl), (Nat.le_of_ble_eq_true rfl)⟩ dX3_load_41 rfl rfl ?_
    refine gq_aload_n C dX3_load_44 rfl 1 rfl ?_
    refine gq_iconst (v := 0) C dX3_load_45 (by decide) ?_
    obtain ⟨m12, em12, z13⟩ := bind_ex z9
    refine gq_put0_5 C (qn_l 0 (by decide) hN) (by decide) wk_3_66 (Option.some.inj em12).symm dX3_load_46 ?_
    refine gq_iconst (v := 0) C dX3_load_49 (by decide) ?_
    refine gq_istore_n (lv' := [(2, .int (0 : Int32)), (1, .int x3), (0, .ref (eB E + 0))]) C dX3_load_50 rfl (by decide) rfl ?_
    obtain ⟨m20, eo19, z18⟩ := bind_ex z13
    refine gq_widen (k' := 0) (n' := 0) (Nat.le_of_ble_eq_true rfl) (Nat.le_of_ble_eq_true rfl) (gq_sub [2, 0] rfl ?_)
    refine l_X3_load_51 hN hl9 hout C  qFuel _ _ _ eo19 ?_
    refine gq_aload_n C dX3_load_69 rfl 0 rfl ?_
    refine gq_get0 C (qn_l 0 (by decide) hN) (by decide) 0 (by decide) wk_3_61 rfl dX3_load_70 ?_
    refine gq_get1N C (qn_l 1 (by decide) hN) (by decide) 6 (by decide) wk_2_165 rfl dX3_load_73 ?_
    refine gq_get2N C (qn_l 9 (by decide) hN) (by decide) 2 (by decide) wk_2_139 rfl dX3_load_76 ?_
    cases z18
    exact gx_ret (gq_iret C hr dX3_load_79 (Nat.le_of_ble_eq_true rfl) (Nat.le_of_ble_eq_true rfl))
abbrev rm_X3_errorKind : Room := { frames := 0, cells := 0, slots := 0, locals := 0 }
def F_X3_errorKind  (μ : Mm) : Option Int32 :=
  some (μ.1 45 4)
set_option maxHeartbeats 4000000 in
set_option maxRecDepth 100000 in
theorem c_X3_errorKind {l : Launch} {E : Ev} (hN : 295 ≤ eN E) {μ : Mm} {r : Int32} (z0 : F_X3_errorKind  μ = some r) : Ct l E yX3_errorKind (Cond.code yX3_errorKind cX3_errorKind 1 (some .int) :: GW) rm_X3_errorKind [.ref (eB E + 0)] μ (some (.int r)) μ := by
  refine ct_of (by decide) (Nat.le_of_ble_eq_true rfl) (fun p e s m args below meth c C hr => ?_)
  have C : Cq E p s m args meth c cX3_errorKind 1 RX3 := C
  refine gq_lv (lv' := [(0, .ref (eB E + 0))]) rfl ?_
  unfold F_X3_errorKind at z0
  refine gq_aload_n C dX3_errorKind_0 rfl 0 rfl ?_
  refine gq_get0 C (qn_l 0 (by decide) hN) (by decide) 2 (by decide) wk_3_63 rfl dX3_errorKind_1 ?_
  refine gq_get3N C (qn_l 45 (by decide) hN) (by decide) 4 (by decide) wk_3_3 rfl dX3_errorKind_4 ?_
  cases z0
  exact gq_iret C hr dX3_errorKind_7 (Nat.le_of_ble_eq_true rfl) (Nat.le_of_ble_eq_true rfl)
abbrev rm_X3_count : Room := { frames := 6, cells := 1, slots := 6, locals := 90 }
def F_X3_count (p1 : Int32) (μ : Mm) : Option (Nat × Int32) :=
  if p1 = 0 then
  (some (0, (μ.1 2 2)))
  else if p1 = 1 then
  (some (0, (μ.1 6 2)))
  else if p1 = 2 then
  (some (0, (μ.1 9 2)))
  else if p1 = 3 then
  (some (0, (μ.1 13 2)))
  else if p1 = 4 then
  (some (0, (μ.1 15 2)))
  else if p1 = 5 then
  (some (0, (μ.1 1 14)))
  else if p1 = 6 then
  (some (0, (μ.1 1 15)))
  else if p1 = 7 then
  (some (0, (μ.1 1 3)))
  else (some (2, 0))
set_option maxHeartbeats 4000000 in
set_option maxRecDepth 100000 in
theorem c_X3_count {l : Launch} {E : Ev} (hN : 295 ≤ eN E) (hl9 : l.stackTraces = false) {p1 : Int32} {μ : Mm} {ec : Nat} {r : Int32} (z0 : F_X3_count p1 μ = some (ec, r)) : Cx l E yX3_count (Cond.code yX3_count cX3_count 2 (some .int) :: GW) rm_X3_count [.ref (eB E + 0), .int p1] μ ec (some (.int r)) μ := by
  refine cx_of (by decide) (Nat.le_of_ble_eq_true rfl) (fun p e s m args below meth c C hr hout => ?_)
  have C : Cq E p s m args meth c cX3_count 2 RX3 := C
  refine gq_lv (lv' := [(0, .ref (eB E + 0)), (1, .int p1)]) rfl ?_
  unfold F_X3_count at z0
  refine gq_iload_n C dX3_count_0 rfl 1 rfl ?_
  rcases ite_ex z0 with ⟨c1, z2⟩ | ⟨c1, z2⟩
  · refine gq_tableIn (tgt := 48) C dX3_count_1 (by rw [c1]; decide) (by rw [c1]; decide) (by rw [c1]; rfl) (by decide) ?_
    refine gq_aload_n C dX3_count_48 rfl 0 rfl ?_
    refine gq_get0 C (qn_l 0 (by decide) hN) (by decide) 0 (by decide) wk_3_61 rfl dX3_count_49 ?_
    refine gq_get1N C (qn_l 1 (by decide) hN) (by decide) 0 (by decide) wk_2_151 rfl dX3_count_52 ?_
    refine gq_get2N C (qn_l 2 (by decide) hN) (by decide) 2 (by decide) wk_2_139 rfl dX3_count_55 ?_
    cases z2
    exact gx_ret (gq_iret C hr dX3_count_58 (Nat.le_of_ble_eq_true rfl) (Nat.le_of_ble_eq_true rfl))
  rcases ite_ex z2 with ⟨c3, z4⟩ | ⟨c3, z4⟩
  · refine gq_tableIn (tgt := 59) C dX3_count_1 (by rw [c3]; decide) (by rw [c3]; decide) (by rw [c3]; rfl) (by decide) ?_
    refine gq_aload_n C dX3_count_59 rfl 0 rfl ?_
    refine gq_get0 C (qn_l 0 (by decide) hN) (by decide) 0 (by decide) wk_3_61 rfl dX3_count_60 ?_
    refine gq_get1N C (qn_l 1 (by decide) hN) (by decide) 4 (by decide) wk_2_161 rfl dX3_count_63 ?_
    refine gq_get2N C (qn_l 6 (by decide) hN) (by decide) 2 (by decide) wk_2_139 rfl dX3_count_66 ?_
    cases z4
    exact gx_ret (gq_iret C hr dX3_count_69 (Nat.le_of_ble_eq_true rfl) (Nat.le_of_ble_eq_true rfl))
  rcases ite_ex z4 with ⟨c5, z6⟩ | ⟨c5, z6⟩
  · refine gq_tableIn (tgt := 70) C dX3_count_1 (by rw [c5]; decide) (by rw [c5]; decide) (by rw [c5]; rfl) (by decide) ?_
    refine gq_aload_n C dX3_count_70 rfl 0 rfl ?_
    refine gq_get0 C (qn_l 0 (by decide) hN) (by decide) 0 (by decide) wk_3_61 rfl dX3_count_71 ?_
    refine gq_get1N C (qn_l 1 (by decide) hN) (by decide) 6 (by decide) wk_2_165 rfl dX3_count_74 ?_
    refine gq_get2N C (qn_l 9 (by decide) hN) (by decide) 2 (by decide) wk_2_139 rfl dX3_count_77 ?_
    cases z6
    exact gx_ret (gq_iret C hr dX3_count_80 (Nat.le_of_ble_eq_true rfl) (Nat.le_of_ble_eq_true rfl))
  rcases ite_ex z6 with ⟨c7, z8⟩ | ⟨c7, z8⟩
  · refine gq_tableIn (tgt := 81) C dX3_count_1 (by rw [c7]; decide) (by rw [c7]; decide) (by rw [c7]; rfl) (by decide) ?_
    refine gq_aload_n C dX3_count_81 rfl 0 rfl ?_
    refine gq_get0 C (qn_l 0 (by decide) hN) (by decide) 0 (by decide) wk_3_61 rfl dX3_count_82 ?_
    refine gq_get1N C (qn_l 1 (by decide) hN) (by decide) 9 (by decide) wk_2_170 rfl dX3_count_85 ?_
    refine gq_get2N C (qn_l 13 (by decide) hN) (by decide) 2 (by decide) wk_2_139 rfl dX3_count_88 ?_
    cases z8
    exact gx_ret (gq_iret C hr dX3_count_91 (Nat.le_of_ble_eq_true rfl) (Nat.le_of_ble_eq_true rfl))
  rcases ite_ex z8 with ⟨c9, z10⟩ | ⟨c9, z10⟩
  · refine gq_tableIn (tgt := 92) C dX3_count_1 (by rw [c9]; decide) (by rw [c9]; decide) (by rw [c9]; rfl) (by decide) ?_
    refine gq_aload_n C dX3_count_92 rfl 0 rfl ?_
    refine gq_get0 C (qn_l 0 (by decide) hN) (by decide) 0 (by decide) wk_3_61 rfl dX3_count_93 ?_
    refine gq_get1N C (qn_l 1 (by decide) hN) (by decide) 10 (by decide) wk_2_173 rfl dX3_count_96 ?_
    refine gq_get2N C (qn_l 15 (by decide) hN) (by decide) 2 (by decide) wk_2_139 rfl dX3_count_99 ?_
    cases z10
    exact gx_ret (gq_iret C hr dX3_count_102 (Nat.le_of_ble_eq_true rfl) (Nat.le_of_ble_eq_true rfl))
  rcases ite_ex z10 with ⟨c11, z12⟩ | ⟨c11, z12⟩
  · refine gq_tableIn (tgt := 103) C dX3_count_1 (by rw [c11]; decide) (by rw [c11]; decide) (by rw [c11]; rfl) (by decide) ?_
    refine gq_aload_n C dX3_count_103 rfl 0 rfl ?_
    refine gq_get0 C (qn_l 0 (by decide) hN) (by decide) 0 (by decide) wk_3_61 rfl dX3_count_104 ?_
    refine gq_get1N C (qn_l 1 (by decide) hN) (by decide) 14 (by decide) wk_2_181 rfl dX3_count_107 ?_
    cases z12
    exact gx_ret (gq_iret C hr dX3_count_110 (Nat.le_of_ble_eq_true rfl) (Nat.le_of_ble_eq_true rfl))
  rcases ite_ex z12 with ⟨c13, z14⟩ | ⟨c13, z14⟩
  · refine gq_tableIn (tgt := 111) C dX3_count_1 (by rw [c13]; decide) (by rw [c13]; decide) (by rw [c13]; rfl) (by decide) ?_
    refine gq_aload_n C dX3_count_111 rfl 0 rfl ?_
    refine gq_get0 C (qn_l 0 (by decide) hN) (by decide) 0 (by decide) wk_3_61 rfl dX3_count_112 ?_
    refine gq_get1N C (qn_l 1 (by decide) hN) (by decide) 15 (by decide) wk_2_183 rfl dX3_count_115 ?_
    cases z14
    exact gx_ret (gq_iret C hr dX3_count_118 (Nat.le_of_ble_eq_true rfl) (Nat.le_of_ble_eq_true rfl))
  rcases ite_ex z14 with ⟨c15, z16⟩ | ⟨c15, z16⟩
  · refine gq_tableIn (tgt := 119) C dX3_count_1 (by rw [c15]; decide) (by rw [c15]; decide) (by rw [c15]; rfl) (by decide) ?_
    refine gq_aload_n C dX3_count_119 rfl 0 rfl ?_
    refine gq_get0 C (qn_l 0 (by decide) hN) (by decide) 0 (by decide) wk_3_61 rfl dX3_count_120 ?_
    refine gq_get1N C (qn_l 1 (by decide) hN) (by decide) 3 (by decide) wk_2_158 rfl dX3_count_123 ?_
    cases z16
    exact gx_ret (gq_iret C hr dX3_count_126 (Nat.le_of_ble_eq_true rfl) (Nat.le_of_ble_eq_true rfl))
  refine gq_tableOut (tgt := 127) C dX3_count_1 (sw_out7 c1 c3 c5 c7 c9 c11 c13 c15) (by decide) ?_
  cases z16
  exact gx_throwN C hl9 (text := "no such count") (j := 24) wk_1_30 wk_1_23 (by decide +kernel) (at_X3_120 C) at_X3_120_g dX3_count_127 dX3_count_130 dX3_count_131 dX3_count_133 dX3_count_136 hout (by decide) rfl (Nat.le_of_ble_eq_true rfl) (Nat.le_of_ble_eq_true rfl) (Nat.le_of_ble_eq_true rfl) (Nat.le_of_ble_eq_true rfl) (Nat.le_of_ble_eq_true rfl) (Nat.le_of_ble_eq_true rfl)
abbrev rm_X3_needRow : Room := { frames := 6, cells := 1, slots := 6, locals := 90 }
def F_X3_needRow (q1 : Nat) (p2 : Int32) (μ : Mm) : Option Nat :=
  (F_X2_has q1 p2 μ).bind fun o2 =>
  if o2 = 0 then
  (some 1)
  else
  (some 0)
set_option maxHeartbeats 4000000 in
set_option maxRecDepth 100000 in
theorem c_X3_needRow {l : Launch} {E : Ev} (hN : 295 ≤ eN E) (hl9 : l.stackTraces = false) {q1 : Nat} (k_q1 : kd q1 = 2) {p2 : Int32} {μ : Mm} {ec : Nat} (z0 : F_X3_needRow q1 p2 μ = some ec) : Cx l E yX3_needRow (Cond.code yX3_needRow cX3_needRow 2 none :: GW) rm_X3_needRow [.ref (eB E + q1), .int p2] μ ec none μ := by
  refine cx_of (by decide) (Nat.le_of_ble_eq_true rfl) (fun p e s m args below meth c C hr hout => ?_)
  have C : Cq E p s m args meth c cX3_needRow 2 RX3 := C
  refine gq_lv (lv' := [(0, .ref (eB E + q1)), (1, .int p2)]) rfl ?_
  unfold F_X3_needRow at z0
  refine gq_aload_n C dX3_needRow_0 rfl 0 rfl ?_
  refine gq_iload_n C dX3_needRow_1 rfl 1 rfl ?_
  obtain ⟨x3, eo2, z1⟩ := bind_ex z0
  refine gq_V (As := [.int p2]) (rest := []) C (c_X2_has hN k_q1 eo2) (tb_n0 k_q1 hN) k_q1 (by decide) rfl wk_1_108 wk_1_109 wk_1_110 wk_1_5 wk_1_111 hd_X2_has ⟨(Nat.le_of_ble_eq_true rfl), (Nat.le_of_ble_eq_true rfl)⟩ (Nat.le_of_ble_eq_true rfl) ⟨(Nat.le_of_ble_eq_true rfl), (Nat.le_of_ble_eq_true rfl)⟩ dX3_needRow_2 rfl rfl ?_
  rcases ite_ex z1 with ⟨c4, z5⟩ | ⟨c4, z5⟩
  · refine gq_if_ne_f (tgt := 19) C dX3_needRow_5 (by decide) c4 ?_
    cases z5
    exact gx_throwW C hl9 (cls := "java/lang/IndexOutOfBoundsException") (text := "no such number") (names := ["java/lang/RuntimeException", "java/lang/Exception"]) (j := 26) (by decide +kernel) (by decide +kernel) wk_1_112 wk_1_24 (by decide +kernel) (at_X3_285 C) at_X3_285_g dX3_needRow_8 dX3_needRow_11 dX3_needRow_12 dX3_needRow_15 dX3_needRow_18 hout (by decide) rfl (Nat.le_of_ble_eq_true rfl) (Nat.le_of_ble_eq_true rfl) (Nat.le_of_ble_eq_true rfl) (Nat.le_of_ble_eq_true rfl) (Nat.le_of_ble_eq_true rfl) (Nat.le_of_ble_eq_true rfl)
  · refine gq_if_ne_t (tgt := 19) C dX3_needRow_5 (by decide) c4 ?_
    cases z5
    exact gx_ret (gq_vret C hr dX3_needRow_19 (Nat.le_of_ble_eq_true rfl) (Nat.le_of_ble_eq_true rfl))
abbrev rm_X3_needWhat : Room := { frames := 6, cells := 1, slots := 6, locals := 90 }
def F_X3_needWhat (p1 : Int32) (p2 : Int32) (μ : Mm) : Option Nat :=
  if p1 < 0 then
  (some 2)
  else
  (if p1 < p2 then
  (some 0)
  else
  (some 2))
set_option maxHeartbeats 4000000 in
set_option maxRecDepth 100000 in
theorem c_X3_needWhat {l : Launch} {E : Ev} (hN : 295 ≤ eN E) (hl9 : l.stackTraces = false) {p1 : Int32} {p2 : Int32} {μ : Mm} {ec : Nat} (z0 : F_X3_needWhat p1 p2 μ = some ec) : Cx l E yX3_needWhat (Cond.code yX3_needWhat cX3_needWhat 2 none :: GW) rm_X3_needWhat [.int p1, .int p2] μ ec none μ := by
  refine cx_of (by decide) (Nat.le_of_ble_eq_true rfl) (fun p e s m args below meth c C hr hout => ?_)
  have C : Cq E p s m args meth c cX3_needWhat 2 RX3 := C
  refine gq_lv (lv' := [(0, .int p1), (1, .int p2)]) rfl ?_
  unfold F_X3_needWhat at z0
  refine gq_iload_n C dX3_needWhat_0 rfl 0 rfl ?_
  rcases ite_ex z0 with ⟨c1, z2⟩ | ⟨c1, z2⟩
  · refine gq_if_lt_t (tgt := 9) C dX3_needWhat_1 (by decide) c1 ?_
    cases z2
    exact gx_throwNW C hl9 (text := "no such element") (j := 25) wk_1_30 wk_1_23 (by decide +kernel) (at_X3_120 C) at_X3_120_g dX3_needWhat_9 dX3_needWhat_12 dX3_needWhat_13 dX3_needWhat_16 dX3_needWhat_19 hout (by decide) rfl (Nat.le_of_ble_eq_true rfl) (Nat.le_of_ble_eq_true rfl) (Nat.le_of_ble_eq_true rfl) (Nat.le_of_ble_eq_true rfl) (Nat.le_of_ble_eq_true rfl) (Nat.le_of_ble_eq_true rfl)
  · refine gq_if_lt_f (tgt := 9) C dX3_needWhat_1 (by decide) c1 ?_
    refine gq_iload_n C dX3_needWhat_4 rfl 0 rfl ?_
    refine gq_iload_n C dX3_needWhat_5 rfl 1 rfl ?_
    rcases ite_ex z2 with ⟨c3, z4⟩ | ⟨c3, z4⟩
    · refine gq_icmp_lt_t (tgt := 20) C dX3_needWhat_6 (by decide) c3 ?_
      cases z4
      exact gx_ret (gq_vret C hr dX3_needWhat_20 (Nat.le_of_ble_eq_true rfl) (Nat.le_of_ble_eq_true rfl))
    · refine gq_icmp_lt_f (tgt := 20) C dX3_needWhat_6 (by decide) c3 ?_
      cases z4
      exact gx_throwNW C hl9 (text := "no such element") (j := 25) wk_1_30 wk_1_23 (by decide +kernel) (at_X3_120 C) at_X3_120_g dX3_needWhat_9 dX3_needWhat_12 dX3_needWhat_13 dX3_needWhat_16 dX3_needWhat_19 hout (by decide) rfl (Nat.le_of_ble_eq_true rfl) (Nat.le_of_ble_eq_true rfl) (Nat.le_of_ble_eq_true rfl) (Nat.le_of_ble_eq_true rfl) (Nat.le_of_ble_eq_true rfl) (Nat.le_of_ble_eq_true rfl)
abbrev rm_X3_reach : Room := { frames := 7, cells := 2, slots := 12, locals := 111 }
def F_X3_reach (p1 : Int32) (p2 : Int32) (μ : Mm) : Option (Nat × Int32) :=
  (F_X3_needRow 2 p1 μ).bind fun o2 =>
  if o2 = 0 then ((F_X3_needWhat p2 (3 : Int32) μ).bind fun o7 =>
  if o7 = 0 then ((F_X2_get 2 p1 p2 μ).bind fun o12 =>
  some (0, o12))
  else some (o7, 0))
  else some (o2, 0)
set_option maxHeartbeats 4000000 in
set_option maxRecDepth 100000 in
theorem c_X3_reach {l : Launch} {E : Ev} (hN : 295 ≤ eN E) (hl9 : l.stackTraces = false) {p1 : Int32} {p2 : Int32} {μ : Mm} {ec : Nat} {r : Int32} (z0 : F_X3_reach p1 p2 μ = some (ec, r)) : Cx l E yX3_reach (Cond.code yX3_reach cX3_reach 3 (some .int) :: GW) rm_X3_reach [.ref (eB E + 0), .int p1, .int p2] μ ec (some (.int r)) μ := by
  refine cx_of (by decide) (Nat.le_of_ble_eq_true rfl) (fun p e s m args below meth c C hr hout => ?_)
  have C : Cq E p s m args meth c cX3_reach 3 RX3 := C
  refine gq_lv (lv' := [(0, .ref (eB E + 0)), (1, .int p1), (2, .int p2)]) rfl ?_
  unfold F_X3_reach at z0
  refine gq_aload_n C dX3_reach_0 rfl 0 rfl ?_
  refine gq_get0 C (qn_l 0 (by decide) hN) (by decide) 0 (by decide) wk_3_61 rfl dX3_reach_1 ?_
  refine gq_get1N C (qn_l 1 (by decide) hN) (by decide) 0 (by decide) wk_2_151 rfl dX3_reach_4 ?_
  refine gq_iload_n C dX3_reach_7 rfl 1 rfl ?_
  obtain ⟨x3, eo2, z1⟩ := bind_ex z0
  rcases ite_ex z1 with ⟨c4, z5⟩ | ⟨c4, z5⟩
  · refine gx_S (As := [.ref (eB E + 2), .int p1]) (rest := []) C (μF := μ) (oF := none) (mcF := 1000000) (msF := 1000000) (Or.inr c4) (fun h9 => absurd c4 h9) hout (Nat.le_of_ble_eq_true rfl) (Nat.le_of_ble_eq_true rfl) (c_X3_needRow hN hl9 (show kd 2 = 2 by decide) eo2) wk_1_105 wk_1_106 wk_1_3 wk_1_107 hd_X3_needRow ⟨(Nat.le_of_ble_eq_true rfl), (Nat.le_of_ble_eq_true rfl)⟩ (Nat.le_of_ble_eq_true rfl) ⟨(Nat.le_of_ble_eq_true rfl), (Nat.le_of_ble_eq_true rfl)⟩ dX3_reach_8 rfl rfl (fun _ => ?_)
    refine gq_iload_n C dX3_reach_11 rfl 2 rfl ?_
    refine gq_iconst (v := 3) C dX3_reach_12 (by decide) ?_
    obtain ⟨x8, eo7, z6⟩ := bind_ex z5
    rcases ite_ex z6 with ⟨c9, z10⟩ | ⟨c9, z10⟩
    · refine gx_S (As := [.int p2, .int (3 : Int32)]) (rest := []) C (μF := μ) (oF := none) (mcF := 1000000) (msF := 1000000) (Or.inr c9) (fun h9 => absurd c9 h9) hout (Nat.le_of_ble_eq_true rfl) (Nat.le_of_ble_eq_true rfl) (c_X3_needWhat hN hl9  eo7) wk_1_148 wk_1_149 wk_1_3 wk_1_150 hd_X3_needWhat ⟨(Nat.le_of_ble_eq_true rfl), (Nat.le_of_ble_eq_true rfl)⟩ (Nat.le_of_ble_eq_true rfl) ⟨(Nat.le_of_ble_eq_true rfl), (Nat.le_of_ble_eq_true rfl)⟩ dX3_reach_13 rfl rfl (fun _ => ?_)
      refine gq_aload_n C dX3_reach_16 rfl 0 rfl ?_
      refine gq_get0 C (qn_l 0 (by decide) hN) (by decide) 0 (by decide) wk_3_61 rfl dX3_reach_17 ?_
      refine gq_get1N C (qn_l 1 (by decide) hN) (by decide) 0 (by decide) wk_2_151 rfl dX3_reach_20 ?_
      refine gq_iload_n C dX3_reach_23 rfl 1 rfl ?_
      refine gq_iload_n C dX3_reach_24 rfl 2 rfl ?_
      obtain ⟨x13, eo12, z11⟩ := bind_ex z10
      refine gq_V (As := [.int p1, .int p2]) (rest := []) (j := 2) C (c_X2_get hN (show kd 2 = 2 by decide) eo12) (qn_l 2 (by decide) hN) (by decide) (by decide) rfl wk_1_152 wk_1_133 wk_1_134 wk_1_5 wk_1_135 hd_X2_get ⟨(Nat.le_of_ble_eq_true rfl), (Nat.le_of_ble_eq_true rfl)⟩ (Nat.le_of_ble_eq_true rfl) ⟨(Nat.le_of_ble_eq_true rfl), (Nat.le_of_ble_eq_true rfl)⟩ dX3_reach_25 rfl rfl ?_
      cases z11
      exact gx_ret (gq_iret C hr dX3_reach_28 (Nat.le_of_ble_eq_true rfl) (Nat.le_of_ble_eq_true rfl))
    · cases z10
      refine gx_S (As := [.int p2, .int (3 : Int32)]) (rest := []) C (Or.inl rfl) (fun _ => rfl) hout (Nat.le_of_ble_eq_true rfl) (Nat.le_of_ble_eq_true rfl) (c_X3_needWhat hN hl9  eo7) wk_1_148 wk_1_149 wk_1_3 wk_1_150 hd_X3_needWhat ⟨(Nat.le_of_ble_eq_true rfl), (Nat.le_of_ble_eq_true rfl)⟩ (Nat.le_of_ble_eq_true rfl) ⟨(Nat.le_of_ble_eq_true rfl), (Nat.le_of_ble_eq_true rfl)⟩ dX3_reach_13 rfl rfl (fun h9 => absurd h9 c9)
  · cases z5
    refine gx_S (As := [.ref (eB E + 2), .int p1]) (rest := []) C (Or.inl rfl) (fun _ => rfl) hout (Nat.le_of_ble_eq_true rfl) (Nat.le_of_ble_eq_true rfl) (c_X3_needRow hN hl9 (show kd 2 = 2 by decide) eo2) wk_1_105 wk_1_106 wk_1_3 wk_1_107 hd_X3_needRow ⟨(Nat.le_of_ble_eq_true rfl), (Nat.le_of_ble_eq_true rfl)⟩ (Nat.le_of_ble_eq_true rfl) ⟨(Nat.le_of_ble_eq_true rfl), (Nat.le_of_ble_eq_true rfl)⟩ dX3_reach_8 rfl rfl (fun h9 => absurd h9 c4)
abbrev rm_X3_coming : Room := { frames := 7, cells := 1, slots := 6, locals := 111 }
def F_X3_coming (p1 : Int32) (μ : Mm) : Option (Nat × Int32) :=
  (F_X3_needRow 2 p1 μ).bind fun o2 =>
  if o2 = 0 then ((F_X1_comingInto 1 p1 μ).bind fun o7 =>
  some (0, o7))
  else some (o2, 0)
set_option maxHeartbeats 4000000 in
set_option maxRecDepth 100000 in
theorem c_X3_coming {l : Launch} {E : Ev} (hN : 295 ≤ eN E) (hl9 : l.stackTraces = false) {p1 : Int32} {μ : Mm} {ec : Nat} {r : Int32} (z0 : F_X3_coming p1 μ = some (ec, r)) : Cx l E yX3_coming (Cond.code yX3_coming cX3_coming 2 (some .int) :: GW) rm_X3_coming [.ref (eB E + 0), .int p1] μ ec (some (.int r)) μ := by
  refine cx_of (by decide) (Nat.le_of_ble_eq_true rfl) (fun p e s m args below meth c C hr hout => ?_)
  have C : Cq E p s m args meth c cX3_coming 2 RX3 := C
  refine gq_lv (lv' := [(0, .ref (eB E + 0)), (1, .int p1)]) rfl ?_
  unfold F_X3_coming at z0
  refine gq_aload_n C dX3_coming_0 rfl 0 rfl ?_
  refine gq_get0 C (qn_l 0 (by decide) hN) (by decide) 0 (by decide) wk_3_61 rfl dX3_coming_1 ?_
  refine gq_get1N C (qn_l 1 (by decide) hN) (by decide) 0 (by decide) wk_2_151 rfl dX3_coming_4 ?_
  refine gq_iload_n C dX3_coming_7 rfl 1 rfl ?_
  obtain ⟨x3, eo2, z1⟩ := bind_ex z0
  rcases ite_ex z1 with ⟨c4, z5⟩ | ⟨c4, z5⟩
  · refine gx_S (As := [.ref (eB E + 2), .int p1]) (rest := []) C (μF := μ) (oF := none) (mcF := 1000000) (msF := 1000000) (Or.inr c4) (fun h9 => absurd c4 h9) hout (Nat.le_of_ble_eq_true rfl) (Nat.le_of_ble_eq_true rfl) (c_X3_needRow hN hl9 (show kd 2 = 2 by decide) eo2) wk_1_105 wk_1_106 wk_1_3 wk_1_107 hd_X3_needRow ⟨(Nat.le_of_ble_eq_true rfl), (Nat.le_of_ble_eq_true rfl)⟩ (Nat.le_of_ble_eq_true rfl) ⟨(Nat.le_of_ble_eq_true rfl), (Nat.le_of_ble_eq_true rfl)⟩ dX3_coming_8 rfl rfl (fun _ => ?_)
    refine gq_aload_n C dX3_coming_11 rfl 0 rfl ?_
    refine gq_get0 C (qn_l 0 (by decide) hN) (by decide) 0 (by decide) wk_3_61 rfl dX3_coming_12 ?_
    refine gq_iload_n C dX3_coming_15 rfl 1 rfl ?_
    obtain ⟨x8, eo7, z6⟩ := bind_ex z5
    refine gq_V (As := [.int p1]) (rest := []) (j := 1) C (c_X1_comingInto hN (show kd 1 = 1 by decide) eo7) (qn_l 1 (by decide) hN) (by decide) (by decide) rfl wk_1_128 wk_1_129 wk_1_130 wk_1_4 wk_1_131 hd_X1_comingInto ⟨(Nat.le_of_ble_eq_true rfl), (Nat.le_of_ble_eq_true rfl)⟩ (Nat.le_of_ble_eq_true rfl) ⟨(Nat.le_of_ble_eq_true rfl), (Nat.le_of_ble_eq_true rfl)⟩ dX3_coming_16 rfl rfl ?_
    cases z6
    exact gx_ret (gq_iret C hr dX3_coming_19 (Nat.le_of_ble_eq_true rfl) (Nat.le_of_ble_eq_true rfl))
  · cases z5
    refine gx_S (As := [.ref (eB E + 2), .int p1]) (rest := []) C (Or.inl rfl) (fun _ => rfl) hout (Nat.le_of_ble_eq_true rfl) (Nat.le_of_ble_eq_true rfl) (c_X3_needRow hN hl9 (show kd 2 = 2 by decide) eo2) wk_1_105 wk_1_106 wk_1_3 wk_1_107 hd_X3_needRow ⟨(Nat.le_of_ble_eq_true rfl), (Nat.le_of_ble_eq_true rfl)⟩ (Nat.le_of_ble_eq_true rfl) ⟨(Nat.le_of_ble_eq_true rfl), (Nat.le_of_ble_eq_true rfl)⟩ dX3_coming_8 rfl rfl (fun h9 => absurd h9 c4)
abbrev rm_X3_right : Room := { frames := 7, cells := 2, slots := 12, locals := 111 }
def F_X3_right (p1 : Int32) (p2 : Int32) (μ : Mm) : Option (Nat × Int32) :=
  (F_X3_needRow 9 p1 μ).bind fun o2 =>
  if o2 = 0 then ((F_X3_needWhat p2 (10 : Int32) μ).bind fun o7 =>
  if o7 = 0 then ((F_X2_get 9 p1 p2 μ).bind fun o12 =>
  some (0, o12))
  else some (o7, 0))
  else some (o2, 0)
set_option maxHeartbeats 4000000 in
set_option maxRecDepth 100000 in
theorem c_X3_right {l : Launch} {E : Ev} (hN : 295 ≤ eN E) (hl9 : l.stackTraces = false) {p1 : Int32} {p2 : Int32} {μ : Mm} {ec : Nat} {r : Int32} (z0 : F_X3_right p1 p2 μ = some (ec, r)) : Cx l E yX3_right (Cond.code yX3_right cX3_right 3 (some .int) :: GW) rm_X3_right [.ref (eB E + 0), .int p1, .int p2] μ ec (some (.int r)) μ := by
  refine cx_of (by decide) (Nat.le_of_ble_eq_true rfl) (fun p e s m args below meth c C hr hout => ?_)
  have C : Cq E p s m args meth c cX3_right 3 RX3 := C
  refine gq_lv (lv' := [(0, .ref (eB E + 0)), (1, .int p1), (2, .int p2)]) rfl ?_
  unfold F_X3_right at z0
  refine gq_aload_n C dX3_right_0 rfl 0 rfl ?_
  refine gq_get0 C (qn_l 0 (by decide) hN) (by decide) 0 (by decide) wk_3_61 rfl dX3_right_1 ?_
  refine gq_get1N C (qn_l 1 (by decide) hN) (by decide) 6 (by decide) wk_2_165 rfl dX3_right_4 ?_
  refine gq_iload_n C dX3_right_7 rfl 1 rfl ?_
  obtain ⟨x3, eo2, z1⟩ := bind_ex z0
  rcases ite_ex z1 with ⟨c4, z5⟩ | ⟨c4, z5⟩
  · refine gx_S (As := [.ref (eB E + 9), .int p1]) (rest := []) C (μF := μ) (oF := none) (mcF := 1000000) (msF := 1000000) (Or.inr c4) (fun h9 => absurd c4 h9) hout (Nat.le_of_ble_eq_true rfl) (Nat.le_of_ble_eq_true rfl) (c_X3_needRow hN hl9 (show kd 9 = 2 by decide) eo2) wk_1_105 wk_1_106 wk_1_3 wk_1_107 hd_X3_needRow ⟨(Nat.le_of_ble_eq_true rfl), (Nat.le_of_ble_eq_true rfl)⟩ (Nat.le_of_ble_eq_true rfl) ⟨(Nat.le_of_ble_eq_true rfl), (Nat.le_of_ble_eq_true rfl)⟩ dX3_right_8 rfl rfl (fun _ => ?_)
    refine gq_iload_n C dX3_right_11 rfl 2 rfl ?_
    refine gq_bipush (v := 10) C dX3_right_12 (by decide) ?_
    obtain ⟨x8, eo7, z6⟩ := bind_ex z5
    rcases ite_ex z6 with ⟨c9, z10⟩ | ⟨c9, z10⟩
    · refine gx_S (As := [.int p2, .int (10 : Int32)]) (rest := []) C (μF := μ) (oF := none) (mcF := 1000000) (msF := 1000000) (Or.inr c9) (fun h9 => absurd c9 h9) hout (Nat.le_of_ble_eq_true rfl) (Nat.le_of_ble_eq_true rfl) (c_X3_needWhat hN hl9  eo7) wk_1_148 wk_1_149 wk_1_3 wk_1_150 hd_X3_needWhat ⟨(Nat.le_of_ble_eq_true rfl), (Nat.le_of_ble_eq_true rfl)⟩ (Nat.le_of_ble_eq_true rfl) ⟨(Nat.le_of_ble_eq_true rfl), (Nat.le_of_ble_eq_true rfl)⟩ dX3_right_14 rfl rfl (fun _ => ?_)
      refine gq_aload_n C dX3_right_17 rfl 0 rfl ?_
      refine gq_get0 C (qn_l 0 (by decide) hN) (by decide) 0 (by decide) wk_3_61 rfl dX3_right_18 ?_
      refine gq_get1N C (qn_l 1 (by decide) hN) (by decide) 6 (by decide) wk_2_165 rfl dX3_right_21 ?_
      refine gq_iload_n C dX3_right_24 rfl 1 rfl ?_
      refine gq_iload_n C dX3_right_25 rfl 2 rfl ?_
      obtain ⟨x13, eo12, z11⟩ := bind_ex z10
      refine gq_V (As := [.int p1, .int p2]) (rest := []) (j := 2) C (c_X2_get hN (show kd 9 = 2 by decide) eo12) (qn_l 9 (by decide) hN) (by decide) (by decide) rfl wk_1_152 wk_1_133 wk_1_134 wk_1_5 wk_1_135 hd_X2_get ⟨(Nat.le_of_ble_eq_true rfl), (Nat.le_of_ble_eq_true rfl)⟩ (Nat.le_of_ble_eq_true rfl) ⟨(Nat.le_of_ble_eq_true rfl), (Nat.le_of_ble_eq_true rfl)⟩ dX3_right_26 rfl rfl ?_
      cases z11
      exact gx_ret (gq_iret C hr dX3_right_29 (Nat.le_of_ble_eq_true rfl) (Nat.le_of_ble_eq_true rfl))
    · cases z10
      refine gx_S (As := [.int p2, .int (10 : Int32)]) (rest := []) C (Or.inl rfl) (fun _ => rfl) hout (Nat.le_of_ble_eq_true rfl) (Nat.le_of_ble_eq_true rfl) (c_X3_needWhat hN hl9  eo7) wk_1_148 wk_1_149 wk_1_3 wk_1_150 hd_X3_needWhat ⟨(Nat.le_of_ble_eq_true rfl), (Nat.le_of_ble_eq_true rfl)⟩ (Nat.le_of_ble_eq_true rfl) ⟨(Nat.le_of_ble_eq_true rfl), (Nat.le_of_ble_eq_true rfl)⟩ dX3_right_14 rfl rfl (fun h9 => absurd h9 c9)
  · cases z5
    refine gx_S (As := [.ref (eB E + 9), .int p1]) (rest := []) C (Or.inl rfl) (fun _ => rfl) hout (Nat.le_of_ble_eq_true rfl) (Nat.le_of_ble_eq_true rfl) (c_X3_needRow hN hl9 (show kd 9 = 2 by decide) eo2) wk_1_105 wk_1_106 wk_1_3 wk_1_107 hd_X3_needRow ⟨(Nat.le_of_ble_eq_true rfl), (Nat.le_of_ble_eq_true rfl)⟩ (Nat.le_of_ble_eq_true rfl) ⟨(Nat.le_of_ble_eq_true rfl), (Nat.le_of_ble_eq_true rfl)⟩ dX3_right_8 rfl rfl (fun h9 => absurd h9 c4)
abbrev rm_X3_claims : Room := { frames := 0, cells := 0, slots := 0, locals := 0 }
def F_X3_claims  (μ : Mm) : Option Int32 :=
  some (μ.1 17 2)
set_option maxHeartbeats 4000000 in
set_option maxRecDepth 100000 in
theorem c_X3_claims {l : Launch} {E : Ev} (hN : 295 ≤ eN E) {μ : Mm} {r : Int32} (z0 : F_X3_claims  μ = some r) : Ct l E yX3_claims (Cond.code yX3_claims cX3_claims 1 (some .int) :: GW) rm_X3_claims [.ref (eB E + 0)] μ (some (.int r)) μ := by
  refine ct_of (by decide) (Nat.le_of_ble_eq_true rfl) (fun p e s m args below meth c C hr => ?_)
  have C : Cq E p s m args meth c cX3_claims 1 RX3 := C
  refine gq_lv (lv' := [(0, .ref (eB E + 0))]) rfl ?_
  unfold F_X3_claims at z0
  refine gq_aload_n C dX3_claims_0 rfl 0 rfl ?_
  refine gq_get0 C (qn_l 0 (by decide) hN) (by decide) 0 (by decide) wk_3_61 rfl dX3_claims_1 ?_
  refine gq_get1N C (qn_l 1 (by decide) hN) (by decide) 11 (by decide) wk_2_176 rfl dX3_claims_4 ?_
  refine gq_get2N C (qn_l 17 (by decide) hN) (by decide) 2 (by decide) wk_2_139 rfl dX3_claims_7 ?_
  cases z0
  exact gq_iret C hr dX3_claims_10 (Nat.le_of_ble_eq_true rfl) (Nat.le_of_ble_eq_true rfl)
abbrev rm_X3_claim : Room := { frames := 7, cells := 2, slots := 12, locals := 111 }
def F_X3_claim (p1 : Int32) (p2 : Int32) (μ : Mm) : Option (Nat × Int32) :=
  (F_X3_needRow 17 p1 μ).bind fun o2 =>
  if o2 = 0 then ((F_X3_needWhat p2 (8 : Int32) μ).bind fun o7 =>
  if o7 = 0 then ((F_X2_get 17 p1 p2 μ).bind fun o12 =>
  some (0, o12))
  else some (o7, 0))
  else some (o2, 0)
set_option maxHeartbeats 4000000 in
set_option maxRecDepth 100000 in
theorem c_X3_claim {l : Launch} {E : Ev} (hN : 295 ≤ eN E) (hl9 : l.stackTraces = false) {p1 : Int32} {p2 : Int32} {μ : Mm} {ec : Nat} {r : Int32} (z0 : F_X3_claim p1 p2 μ = some (ec, r)) : Cx l E yX3_claim (Cond.code yX3_claim cX3_claim 3 (some .int) :: GW) rm_X3_claim [.ref (eB E + 0), .int p1, .int p2] μ ec (some (.int r)) μ := by
  refine cx_of (by decide) (Nat.le_of_ble_eq_true rfl) (fun p e s m args below meth c C hr hout => ?_)
  have C : Cq E p s m args meth c cX3_claim 3 RX3 := C
  refine gq_lv (lv' := [(0, .ref (eB E + 0)), (1, .int p1), (2, .int p2)]) rfl ?_
  unfold F_X3_claim at z0
  refine gq_aload_n C dX3_claim_0 rfl 0 rfl ?_
  refine gq_get0 C (qn_l 0 (by decide) hN) (by decide) 0 (by decide) wk_3_61 rfl dX3_claim_1 ?_
  refine gq_get1N C (qn_l 1 (by decide) hN) (by decide) 11 (by decide) wk_2_176 rfl dX3_claim_4 ?_
  refine gq_iload_n C dX3_claim_7 rfl 1 rfl ?_
  obtain ⟨x3, eo2, z1⟩ := bind_ex z0
  rcases ite_ex z1 with ⟨c4, z5⟩ | ⟨c4, z5⟩
  · refine gx_S (As := [.ref (eB E + 17), .int p1]) (rest := []) C (μF := μ) (oF := none) (mcF := 1000000) (msF := 1000000) (Or.inr c4) (fun h9 => absurd c4 h9) hout (Nat.le_of_ble_eq_true rfl) (Nat.le_of_ble_eq_true rfl) (c_X3_needRow hN hl9 (show kd 17 = 2 by decide) eo2) wk_1_105 wk_1_106 wk_1_3 wk_1_107 hd_X3_needRow ⟨(Nat.le_of_ble_eq_true rfl), (Nat.le_of_ble_eq_true rfl)⟩ (Nat.le_of_ble_eq_true rfl) ⟨(Nat.le_of_ble_eq_true rfl), (Nat.le_of_ble_eq_true rfl)⟩ dX3_claim_8 rfl rfl (fun _ => ?_)
    refine gq_iload_n C dX3_claim_11 rfl 2 rfl ?_
    refine gq_bipush (v := 8) C dX3_claim_12 (by decide) ?_
    obtain ⟨x8, eo7, z6⟩ := bind_ex z5
    rcases ite_ex z6 with ⟨c9, z10⟩ | ⟨c9, z10⟩
    · refine gx_S (As := [.int p2, .int (8 : Int32)]) (rest := []) C (μF := μ) (oF := none) (mcF := 1000000) (msF := 1000000) (Or.inr c9) (fun h9 => absurd c9 h9) hout (Nat.le_of_ble_eq_true rfl) (Nat.le_of_ble_eq_true rfl) (c_X3_needWhat hN hl9  eo7) wk_1_148 wk_1_149 wk_1_3 wk_1_150 hd_X3_needWhat ⟨(Nat.le_of_ble_eq_true rfl), (Nat.le_of_ble_eq_true rfl)⟩ (Nat.le_of_ble_eq_true rfl) ⟨(Nat.le_of_ble_eq_true rfl), (Nat.le_of_ble_eq_true rfl)⟩ dX3_claim_14 rfl rfl (fun _ => ?_)
      refine gq_aload_n C dX3_claim_17 rfl 0 rfl ?_
      refine gq_get0 C (qn_l 0 (by decide) hN) (by decide) 0 (by decide) wk_3_61 rfl dX3_claim_18 ?_
      refine gq_get1N C (qn_l 1 (by decide) hN) (by decide) 11 (by decide) wk_2_176 rfl dX3_claim_21 ?_
      refine gq_iload_n C dX3_claim_24 rfl 1 rfl ?_
      refine gq_iload_n C dX3_claim_25 rfl 2 rfl ?_
      obtain ⟨x13, eo12, z11⟩ := bind_ex z10
      refine gq_V (As := [.int p1, .int p2]) (rest := []) (j := 2) C (c_X2_get hN (show kd 17 = 2 by decide) eo12) (qn_l 17 (by decide) hN) (by decide) (by decide) rfl wk_1_152 wk_1_133 wk_1_134 wk_1_5 wk_1_135 hd_X2_get ⟨(Nat.le_of_ble_eq_true rfl), (Nat.le_of_ble_eq_true rfl)⟩ (Nat.le_of_ble_eq_true rfl) ⟨(Nat.le_of_ble_eq_true rfl), (Nat.le_of_ble_eq_true rfl)⟩ dX3_claim_26 rfl rfl ?_
      cases z11
      exact gx_ret (gq_iret C hr dX3_claim_29 (Nat.le_of_ble_eq_true rfl) (Nat.le_of_ble_eq_true rfl))
    · cases z10
      refine gx_S (As := [.int p2, .int (8 : Int32)]) (rest := []) C (Or.inl rfl) (fun _ => rfl) hout (Nat.le_of_ble_eq_true rfl) (Nat.le_of_ble_eq_true rfl) (c_X3_needWhat hN hl9  eo7) wk_1_148 wk_1_149 wk_1_3 wk_1_150 hd_X3_needWhat ⟨(Nat.le_of_ble_eq_true rfl), (Nat.le_of_ble_eq_true rfl)⟩ (Nat.le_of_ble_eq_true rfl) ⟨(Nat.le_of_ble_eq_true rfl), (Nat.le_of_ble_eq_true rfl)⟩ dX3_claim_14 rfl rfl (fun h9 => absurd h9 c9)
  · cases z5
    refine gx_S (As := [.ref (eB E + 17), .int p1]) (rest := []) C (Or.inl rfl) (fun _ => rfl) hout (Nat.le_of_ble_eq_true rfl) (Nat.le_of_ble_eq_true rfl) (c_X3_needRow hN hl9 (show kd 17 = 2 by decide) eo2) wk_1_105 wk_1_106 wk_1_3 wk_1_107 hd_X3_needRow ⟨(Nat.le_of_ble_eq_true rfl), (Nat.le_of_ble_eq_true rfl)⟩ (Nat.le_of_ble_eq_true rfl) ⟨(Nat.le_of_ble_eq_true rfl), (Nat.le_of_ble_eq_true rfl)⟩ dX3_claim_8 rfl rfl (fun h9 => absurd h9 c4)
abbrev rm_X3_gauge : Room := { frames := 7, cells := 2, slots := 12, locals := 111 }
def F_X3_gauge (p1 : Int32) (p2 : Int32) (μ : Mm) : Option (Nat × Int32) :=
  (F_X3_needRow 2 p1 μ).bind fun o2 =>
  if o2 = 0 then ((F_X3_needWhat p2 (5 : Int32) μ).bind fun o7 =>
  if o7 = 0 then ((F_X2_get 19 p1 p2 μ).bind fun o12 =>
  some (0, o12))
  else some (o7, 0))
  else some (o2, 0)
set_option maxHeartbeats 4000000 in
set_option maxRecDepth 100000 in
theorem c_X3_gauge {l : Launch} {E : Ev} (hN : 295 ≤ eN E) (hl9 : l.stackTraces = false) {p1 : Int32} {p2 : Int32} {μ : Mm} {ec : Nat} {r : Int32} (z0 : F_X3_gauge p1 p2 μ = some (ec, r)) : Cx l E yX3_gauge (Cond.code yX3_gauge cX3_gauge 3 (some .int) :: GW) rm_X3_gauge [.ref (eB E + 0), .int p1, .int p2] μ ec (some (.int r)) μ := by
  refine cx_of (by decide) (Nat.le_of_ble_eq_true rfl) (fun p e s m args below meth c C hr hout => ?_)
  have C : Cq E p s m args meth c cX3_gauge 3 RX3 := C
  refine gq_lv (lv' := [(0, .ref (eB E + 0)), (1, .int p1), (2, .int p2)]) rfl ?_
  unfold F_X3_gauge at z0
  refine gq_aload_n C dX3_gauge_0 rfl 0 rfl ?_
  refine gq_get0 C (qn_l 0 (by decide) hN) (by decide) 0 (by decide) wk_3_61 rfl dX3_gauge_1 ?_
  refine gq_get1N C (qn_l 1 (by decide) hN) (by decide) 0 (by decide) wk_2_151 rfl dX3_gauge_4 ?_
  refine gq_iload_n C dX3_gauge_7 rfl 1 rfl ?_
  obtain ⟨x3, eo2, z1⟩ := bind_ex z0
  rcases ite_ex z1 with ⟨c4, z5⟩ | ⟨c4, z5⟩
  · refine gx_S (As := [.ref (eB E + 2), .int p1]) (rest := []) C (μF := μ) (oF := none) (mcF := 1000000) (msF := 1000000) (Or.inr c4) (fun h9 => absurd c4 h9) hout (Nat.le_of_ble_eq_true rfl) (Nat.le_of_ble_eq_true rfl) (c_X3_needRow hN hl9 (show kd 2 = 2 by decide) eo2) wk_1_105 wk_1_106 wk_1_3 wk_1_107 hd_X3_needRow ⟨(Nat.le_of_ble_eq_true rfl), (Nat.le_of_ble_eq_true rfl)⟩ (Nat.le_of_ble_eq_true rfl) ⟨(Nat.le_of_ble_eq_true rfl), (Nat.le_of_ble_eq_true rfl)⟩ dX3_gauge_8 rfl rfl (fun _ => ?_)
    refine gq_iload_n C dX3_gauge_11 rfl 2 rfl ?_
    refine gq_iconst (v := 5) C dX3_gauge_12 (by decide) ?_
    obtain ⟨x8, eo7, z6⟩ := bind_ex z5
    rcases ite_ex z6 with ⟨c9, z10⟩ | ⟨c9, z10⟩
    · refine gx_S (As := [.int p2, .int (5 : Int32)]) (rest := []) C (μF := μ) (oF := none) (mcF := 1000000) (msF := 1000000) (Or.inr c9) (fun h9 => absurd c9 h9) hout (Nat.le_of_ble_eq_true rfl) (Nat.le_of_ble_eq_true rfl) (c_X3_needWhat hN hl9  eo7) wk_1_148 wk_1_149 wk_1_3 wk_1_150 hd_X3_needWhat ⟨(Nat.le_of_ble_eq_true rfl), (Nat.le_of_ble_eq_true rfl)⟩ (Nat.le_of_ble_eq_true rfl) ⟨(Nat.le_of_ble_eq_true rfl), (Nat.le_of_ble_eq_true rfl)⟩ dX3_gauge_13 rfl rfl (fun _ => ?_)
      refine gq_aload_n C dX3_gauge_16 rfl 0 rfl ?_
      refine gq_get0 C (qn_l 0 (by decide) hN) (by decide) 0 (by decide) wk_3_61 rfl dX3_gauge_17 ?_
      refine gq_get1N C (qn_l 1 (by decide) hN) (by decide) 12 (by decide) wk_2_178 rfl dX3_gauge_20 ?_
      refine gq_iload_n C dX3_gauge_23 rfl 1 rfl ?_
      refine gq_iload_n C dX3_gauge_24 rfl 2 rfl ?_
      obtain ⟨x13, eo12, z11⟩ := bind_ex z10
      refine gq_V (As := [.int p1, .int p2]) (rest := []) (j := 2) C (c_X2_get hN (show kd 19 = 2 by decide) eo12) (qn_l 19 (by decide) hN) (by decide) (by decide) rfl wk_1_152 wk_1_133 wk_1_134 wk_1_5 wk_1_135 hd_X2_get ⟨(Nat.le_of_ble_eq_true rfl), (Nat.le_of_ble_eq_true rfl)⟩ (Nat.le_of_ble_eq_true rfl) ⟨(Nat.le_of_ble_eq_true rfl), (Nat.le_of_ble_eq_true rfl)⟩ dX3_gauge_25 rfl rfl ?_
      cases z11
      exact gx_ret (gq_iret C hr dX3_gauge_28 (Nat.le_of_ble_eq_true rfl) (Nat.le_of_ble_eq_true rfl))
    · cases z10
      refine gx_S (As := [.int p2, .int (5 : Int32)]) (rest := []) C (Or.inl rfl) (fun _ => rfl) hout (Nat.le_of_ble_eq_true rfl) (Nat.le_of_ble_eq_true rfl) (c_X3_needWhat hN hl9  eo7) wk_1_148 wk_1_149 wk_1_3 wk_1_150 hd_X3_needWhat ⟨(Nat.le_of_ble_eq_true rfl), (Nat.le_of_ble_eq_true rfl)⟩ (Nat.le_of_ble_eq_true rfl) ⟨(Nat.le_of_ble_eq_true rfl), (Nat.le_of_ble_eq_true rfl)⟩ dX3_gauge_13 rfl rfl (fun h9 => absurd h9 c9)
  · cases z5
    refine gx_S (As := [.ref (eB E + 2), .int p1]) (rest := []) C (Or.inl rfl) (fun _ => rfl) hout (Nat.le_of_ble_eq_true rfl) (Nat.le_of_ble_eq_true rfl) (c_X3_needRow hN hl9 (show kd 2 = 2 by decide) eo2) wk_1_105 wk_1_106 wk_1_3 wk_1_107 hd_X3_needRow ⟨(Nat.le_of_ble_eq_true rfl), (Nat.le_of_ble_eq_true rfl)⟩ (Nat.le_of_ble_eq_true rfl) ⟨(Nat.le_of_ble_eq_true rfl), (Nat.le_of_ble_eq_true rfl)⟩ dX3_gauge_8 rfl rfl (fun h9 => absurd h9 c4)
abbrev rm_X3_outflow : Room := { frames := 2, cells := 0, slots := 0, locals := 42 }
def F_X3_outflow  (μ : Mm) : Option Int32 :=
  (F_X1_outflowOfMonth 1 μ).bind fun o2 =>
  some o2
set_option maxHeartbeats 4000000 in
set_option maxRecDepth 100000 in
theorem c_X3_outflow {l : Launch} {E : Ev} (hN : 295 ≤ eN E) {μ : Mm} {r : Int32} (z0 : F_X3_outflow  μ = some r) : Ct l E yX3_outflow (Cond.code yX3_outflow cX3_outflow 1 (some .int) :: GW) rm_X3_outflow [.ref (eB E + 0)] μ (some (.int r)) μ := by
  refine ct_of (by decide) (Nat.le_of_ble_eq_true rfl) (fun p e s m args below meth c C hr => ?_)
  have C : Cq E p s m args meth c cX3_outflow 1 RX3 := C
  refine gq_lv (lv' := [(0, .ref (eB E + 0))]) rfl ?_
  unfold F_X3_outflow at z0
  refine gq_aload_n C dX3_outflow_0 rfl 0 rfl ?_
  refine gq_get0 C (qn_l 0 (by decide) hN) (by decide) 0 (by decide) wk_3_61 rfl dX3_outflow_1 ?_
  obtain ⟨x3, eo2, z1⟩ := bind_ex z0
  refine gq_V (As := []) (rest := []) (j := 1) C (c_X1_outflowOfMonth hN (show kd 1 = 1 by decide) eo2) (qn_l 1 (by decide) hN) (by decide) (by decide) rfl wk_1_169 wk_1_170 wk_1_171 wk_1_4 wk_1_172 hd_X1_outflowOfMonth ⟨(Nat.le_of_ble_eq_true rfl), (Nat.le_of_ble_eq_true rfl)⟩ (Nat.le_of_ble_eq_true rfl) ⟨(Nat.le_of_ble_eq_true rfl), (Nat.le_of_ble_eq_true rfl)⟩ dX3_outflow_4 rfl rfl ?_
  cases z1
  exact gq_iret C hr dX3_outflow_7 (Nat.le_of_ble_eq_true rfl) (Nat.le_of_ble_eq_true rfl)
abbrev rm_X3_needRange : Room := { frames := 6, cells := 1, slots := 6, locals := 90 }
def F_X3_needRange (p1 : Int32) (p2 : Int32) (p3 : Int32) (μ : Mm) : Option Nat :=
  if p1 < p2 then
  (some 3)
  else
  (if p1 ≤ p3 then
  (some 0)
  else
  (some 3))
set_option maxHeartbeats 4000000 in
set_option maxRecDepth 100000 in
theorem c_X3_needRange {l : Launch} {E : Ev} (hN : 295 ≤ eN E) (hl9 : l.stackTraces = false) {p1 : Int32} {p2 : Int32} {p3 : Int32} {μ : Mm} {ec : Nat} (z0 : F_X3_needRange p1 p2 p3 μ = some ec) : Cx l E yX3_needRange (Cond.code yX3_needRange cX3_needRange 3 none :: GW) rm_X3_needRange [.int p1, .int p2, .int p3] μ ec none μ := by
  refine cx_of (by decide) (Nat.le_of_ble_eq_true rfl) (fun p e s m args below meth c C hr hout => ?_)
  have C : Cq E p s m args meth c cX3_needRange 3 RX3 := C
  refine gq_lv (lv' := [(0, .int p1), (1, .int p2), (2, .int p3)]) rfl ?_
  unfold F_X3_needRange at z0
  refine gq_iload_n C dX3_needRange_0 rfl 0 rfl ?_
  refine gq_iload_n C dX3_needRange_1 rfl 1 rfl ?_
  rcases ite_ex z0 with ⟨c1, z2⟩ | ⟨c1, z2⟩
  · refine gq_icmp_lt_t (tgt := 10) C dX3_needRange_2 (by decide) c1 ?_
    cases z2
    exact gx_throw C hl9 (cls := "java/lang/IllegalArgumentException") (text := "out of range") (names := ["java/lang/RuntimeException", "java/lang/Exception"]) (j := 27) (by decide +kernel) (by decide +kernel) wk_1_180 wk_1_22 (by decide +kernel) (at_X3_67 C) at_X3_67_g dX3_needRange_10 dX3_needRange_13 dX3_needRange_14 dX3_needRange_16 dX3_needRange_19 hout (by decide) rfl (Nat.le_of_ble_eq_true rfl) (Nat.le_of_ble_eq_true rfl) (Nat.le_of_ble_eq_true rfl) (Nat.le_of_ble_eq_true rfl) (Nat.le_of_ble_eq_true rfl) (Nat.le_of_ble_eq_true rfl)
  · refine gq_icmp_lt_f (tgt := 10) C dX3_needRange_2 (by decide) c1 ?_
    refine gq_iload_n C dX3_needRange_5 rfl 0 rfl ?_
    refine gq_iload_n C dX3_needRange_6 rfl 2 rfl ?_
    rcases ite_ex z2 with ⟨c3, z4⟩ | ⟨c3, z4⟩
    · refine gq_icmp_le_t (tgt := 20) C dX3_needRange_7 (by decide) c3 ?_
      cases z4
      exact gx_ret (gq_vret C hr dX3_needRange_20 (Nat.le_of_ble_eq_true rfl) (Nat.le_of_ble_eq_true rfl))
    · refine gq_icmp_le_f (tgt := 20) C dX3_needRange_7 (by decide) c3 ?_
      cases z4
      exact gx_throw C hl9 (cls := "java/lang/IllegalArgumentException") (text := "out of range") (names := ["java/lang/RuntimeException", "java/lang/Exception"]) (j := 27) (by decide +kernel) (by decide +kernel) wk_1_180 wk_1_22 (by decide +kernel) (at_X3_67 C) at_X3_67_g dX3_needRange_10 dX3_needRange_13 dX3_needRange_14 dX3_needRange_16 dX3_needRange_19 hout (by decide) rfl (Nat.le_of_ble_eq_true rfl) (Nat.le_of_ble_eq_true rfl) (Nat.le_of_ble_eq_true rfl) (Nat.le_of_ble_eq_true rfl) (Nat.le_of_ble_eq_true rfl) (Nat.le_of_ble_eq_true rfl)
abbrev rm_X3_needReaches : Room := { frames := 6, cells := 1, slots := 6, locals := 90 }
def F_X3_needReaches  (μ : Mm) : Option Nat :=
  if (μ.1 2 2) = 0 then
  (some 4)
  else
  (some 0)
set_option maxHeartbeats 4000000 in
set_option maxRecDepth 100000 in
theorem c_X3_needReaches {l : Launch} {E : Ev} (hN : 295 ≤ eN E) (hl9 : l.stackTraces = false) {μ : Mm} {ec : Nat} (z0 : F_X3_needReaches  μ = some ec) : Cx l E yX3_needReaches (Cond.code yX3_needReaches cX3_needReaches 1 none :: GW) rm_X3_needReaches [.ref (eB E + 0)] μ ec none μ := by
  refine cx_of (by decide) (Nat.le_of_ble_eq_true rfl) (fun p e s m args below meth c C hr hout => ?_)
  have C : Cq E p s m args meth c cX3_needReaches 1 RX3 := C
  refine gq_lv (lv' := [(0, .ref (eB E + 0))]) rfl ?_
  unfold F_X3_needReaches at z0
  refine gq_aload_n C dX3_needReaches_0 rfl 0 rfl ?_
  refine gq_get0 C (qn_l 0 (by decide) hN) (by decide) 0 (by decide) wk_3_61 rfl dX3_needReaches_1 ?_
  refine gq_get1N C (qn_l 1 (by decide) hN) (by decide) 0 (by decide) wk_2_151 rfl dX3_needReaches_4 ?_
  refine gq_get2N C (qn_l 2 (by decide) hN) (by decide) 2 (by decide) wk_2_139 rfl dX3_needReaches_7 ?_
  rcases ite_ex z0 with ⟨c1, z2⟩ | ⟨c1, z2⟩
  · refine gq_if_ne_f (tgt := 24) C dX3_needReaches_10 (by decide) c1 ?_
    cases z2
    exact gx_throwW C hl9 (cls := "java/lang/IllegalStateException") (text := "there are no reaches") (names := ["java/lang/RuntimeException", "java/lang/Exception"]) (j := 28) (by decide +kernel) (by decide +kernel) wk_1_201 wk_1_25 (by decide +kernel) (at_X3_231 C) at_X3_231_g dX3_needReaches_13 dX3_needReaches_16 dX3_needReaches_17 dX3_needReaches_20 dX3_needReaches_23 hout (by decide) rfl (Nat.le_of_ble_eq_true rfl) (Nat.le_of_ble_eq_true rfl) (Nat.le_of_ble_eq_true rfl) (Nat.le_of_ble_eq_true rfl) (Nat.le_of_ble_eq_true rfl) (Nat.le_of_ble_eq_true rfl)
  · refine gq_if_ne_t (tgt := 24) C dX3_needReaches_10 (by decide) c1 ?_
    cases z2
    exact gx_ret (gq_vret C hr dX3_needReaches_24 (Nat.le_of_ble_eq_true rfl) (Nat.le_of_ble_eq_true rfl))
abbrev rm_X3_record : Room := { frames := 3, cells := 0, slots := 0, locals := 110 }
def F_X3_record_18 (b6 : Nat) : Nat → Int32 → Mm → Option Mm
  | 0, _, _ => none
  | n + 1, v2, μ =>
  if (8 : Int32) ≤ v2 then
  (some μ)
  else
  ((aR μ 70 v2).bind fun b10 =>
  (sR μ 70 (v2 - (1 : Int32)) b10).bind fun m12 =>
  F_X3_record_18 b6 n (v2 + 1) m12)
def F_X3_record  (μ : Mm) : Option Mm :=
  (if (μ.1 0 5) < (8 : Int32) then
  (some μ)
  else
  ((aR μ 70 (0 : Int32)).bind fun b6 =>
  (F_X3_record_18 b6 qFuel (1 : Int32) μ).bind fun o15 =>
  (sR o15 70 (7 : Int32) b6).bind fun m17 =>
  (some (uI m17 0 5 (7 : Int32))).bind fun m19 =>
  some m19)).bind fun o21 =>
  (aR o21 70 (o21.1 0 5)).bind fun b22 =>
  (F_X1_copyFrom b22 1 o21).bind fun o25 =>
  (some (uI o25 0 5 ((o25.1 0 5) + (1 : Int32)))).bind fun m27 =>
  some m27
set_option maxHeartbeats 4000000 in
set_option maxRecDepth 100000 in
theorem l_X3_record_18 {l : Launch} {E : Ev} (hN : 295 ≤ eN E) {p : Program} {e : Env} {s : State} {m : MethodId} {args : Array Value} {below : List Frame} {meth : Method} {c : Code} (C : Cq E p s m args meth c cX3_record 3 RX3) {Q : State → Prop} {b6 : Nat} (k_b6 : kd b6 = 1) : ∀ (n : Nat) (v2 : Int32) (μ : Mm) (μx : Mm), F_X3_record_18 b6 n v2 μ = some μx → Gq E p l e rm_X3_record s m args below meth c 0 0 3 Q 44 [(0, .ref (eB E + 0)), (1, .ref (eB E + b6))] [] μx → Gq E p l e rm_X3_record s m args below meth c 0 0 3 Q 18 [(0, .ref (eB E + 0)), (1, .ref (eB E + b6)), (2, .int v2)] [] μ := by
  intro n
  induction n with
  | zero =>
    intro v2 μ μx z0 kk
    rw [F_X3_record_18] at z0
    cases z0
  | succ n ih =>
    intro v2 μ μx z0 kk
    rw [F_X3_record_18] at z0
    refine gq_iload_n C dX3_record_18 rfl 2 rfl ?_
    refine gq_bipush (v := 8) C dX3_record_19 (by decide) ?_
    rcases ite_ex z0 with ⟨c8, z9⟩ | ⟨c8, z9⟩
    · refine gq_icmp_ge_t (tgt := 44) C dX3_record_21 (by decide) c8 ?_
      cases z9
      exact gq_widen (Nat.le_of_ble_eq_true rfl) (Nat.le_of_ble_eq_true rfl) (gq_sub [0, 1] rfl kk)
    · refine gq_icmp_ge_f (tgt := 44) C dX3_record_21 (by decide) c8 ?_
      refine gq_aload_n C dX3_record_24 rfl 0 rfl ?_
      refine gq_get0 C (qn_l 0 (by decide) hN) (by decide) 4 (by decide) wk_3_65 rfl dX3_record_25 ?_
      refine gq_iload_n C dX3_record_28 rfl 2 rfl ?_
      refine gq_iconst (v := 1) C dX3_record_29 (by decide) ?_
      refine gq_isub C dX3_record_30 ?_
      refine gq_aload_n C dX3_record_31 rfl 0 rfl ?_
      refine gq_get0 C (qn_l 0 (by decide) hN) (by decide) 4 (by decide) wk_3_65 rfl dX3_record_32 ?_
      refine gq_iload_n C dX3_record_35 rfl 2 rfl ?_
      obtain ⟨b10, eb10, z11⟩ := bind_ex z9
      refine gq_aaload C (qn_l 70 (by decide) hN) (by decide) eb10 dX3_record_36 (fun k_b10 => ?_)
      obtain ⟨m12, em12, z13⟩ := bind_ex z11
      refine gq_aastore C (qn_l 70 (by decide) hN) hN (by decide) em12 dX3_record_37 ?_
      refine gq_iinc (v := (v2 + 1)) (lv' := [(2, .int (v2 + 1)), (0, .ref (eB E + 0)), (1, .ref (eB E + b6))]) (q := 2) C dX3_record_38 rfl rfl (by decide) rfl ?_
      refine gq_goto (tgt := 18) C dX3_record_41 (by decide) ?_
      refine gq_widen (k' := 0) (n' := 0) (Nat.le_of_ble_eq_true rfl) (Nat.le_of_ble_eq_true rfl) (gq_sub [1, 2, 0] rfl ?_)
      exact ih _ _ _ z13 kk
set_option maxHeartbeats 4000000 in
set_option maxRecDepth 100000 in
theorem c_X3_record {l : Launch} {E : Ev} (hN : 295 ≤ eN E) {μ : Mm} {μ' : Mm} (z0 : F_X3_record  μ = some μ') : Ct l E yX3_record (Cond.code yX3_record cX3_record 3 none :: GW) rm_X3_record [.ref (eB E + 0)] μ none μ' := by
  refine ct_of (by decide) (Nat.le_of_ble_eq_true rfl) (fun p e s m args below meth c C hr => ?_)
  have C : Cq E p s m args meth c cX3_record 3 RX3 := C
  refine gq_lv (lv' := [(0, .ref (eB E + 0))]) rfl ?_
  unfold F_X3_record at z0
  refine gq_aload_n C dX3_record_0 rfl 0 rfl ?_
  refine gq_get0 C (qn_l 0 (by decide) hN) (by decide) 5 (by decide) wk_3_66 rfl dX3_record_1 ?_
  refine gq_bipush (v := 8) C dX3_record_4 (by decide) ?_
  obtain ⟨m1, z2, z3⟩ := bind_ex z0
  refine gq_join (k' := 0) (n' := 0) (pc' := 58) (lv' := [(0, .ref (eB E + 0))]) (st' := []) (μ' := m1) ?_ (fun J58 => ?_)
  · refine gq_aload_n C dX3_record_58 rfl 0 rfl ?_
    refine gq_get0 C (qn_l 0 (by decide) hN) (by decide) 4 (by decide) wk_3_65 rfl dX3_record_59 ?_
    refine gq_aload_n C dX3_record_62 rfl 0 rfl ?_
    refine gq_get0 C (qn_l 0 (by decide) hN) (by decide) 5 (by decide) wk_3_66 rfl dX3_record_63 ?_
    obtain ⟨b22, eb22, z23⟩ := bind_ex z3
    refine gq_aaload C (qn_l 70 (by decide) hN) (by decide) eb22 dX3_record_66 (fun k_b22 => ?_)
    refine gq_aload_n C dX3_record_67 rfl 0 rfl ?_
    refine gq_get0 C (qn_l 0 (by decide) hN) (by decide) 0 (by decide) wk_3_61 rfl dX3_record_68 ?_
    obtain ⟨m26, eo25, z24⟩ := bind_ex z23
    refine gq_V (As := [.ref (eB E + 1)]) (rest := []) C (c_X1_copyFrom hN k_b22 (show kd 1 = 1 by decide) eo25) (st_n k_b22 hN 0 (by decide)) k_b22 (by decide) rfl wk_1_221 wk_1_222 wk_1_223 wk_1_4 wk_1_224 hd_X1_copyFrom ⟨(Nat.le_of_ble_eq_true rfl), (Nat.le_of_ble_eq_true rfl)⟩ (Nat.le_of_ble_eq_true rfl) ⟨(Nat.le_of_ble_eq_true rfl), (Nat.le_of_ble_eq_true rfl)⟩ dX3_record_71 rfl rfl ?_
    refine gq_aload_n C dX3_record_74 rfl 0 rfl ?_
    refine gq_dupr C dX3_record_75 ?_
    refine gq_get0 C (qn_l 0 (by decide) hN) (by decide) 5 (by decide) wk_3_66 rfl dX3_record_76 ?_
    refine gq_iconst (v := 1) C dX3_record_79 (by decide) ?_
    refine gq_iadd C dX3_record_80 ?_
    obtain ⟨m27, em27, z28⟩ := bind_ex z24
    refine gq_put0_5 C (qn_l 0 (by decide) hN) (by decide) wk_3_66 (Option.some.inj em27).symm dX3_record_81 ?_
    cases z28
    exact gq_vret C hr dX3_record_84 (Nat.le_of_ble_eq_true rfl) (Nat.le_of_ble_eq_true rfl)
  · rcases ite_ex z2 with ⟨c4, z5⟩ | ⟨c4, z5⟩
    · refine gq_icmp_lt_t (tgt := 58) C dX3_record_6 (by decide) c4 ?_
      cases z5
      exact gq_widen (Nat.le_of_ble_eq_true rfl) (Nat.le_of_ble_eq_true rfl) (gq_sub [0] rfl J58)
    · refine gq_icmp_lt_f (tgt := 58) C dX3_record_6 (by decide) c4 ?_
      refine gq_aload_n C dX3_record_9 rfl 0 rfl ?_
      refine gq_get0 C (qn_l 0 (by decide) hN) (by decide) 4 (by decide) wk_3_65 rfl dX3_record_10 ?_
      refine gq_iconst (v := 0) C dX3_record_13 (by decide) ?_
      obtain ⟨b6, eb6, z7⟩ := bind_ex z5
      refine gq_aaload C (qn_l 70 (by decide) hN) (by decide) eb6 dX3_record_14 (fun k_b6 => ?_)
      refine gq_astore_n (lv' := [(1, .ref (eB E + b6)), (0, .ref (eB E + 0))]) C dX3_record_15 rfl (by decide) rfl ?_
      refine gq_iconst (v := 1) C dX3_record_16 (by decide) ?_
      refine gq_istore_n (lv' := [(2, .int (1 : Int32)), (1, .ref (eB E + b6)), (0, .ref (eB E + 0))]) C dX3_record_17 rfl (by decide) rfl ?_
      obtain ⟨m16, eo15, z14⟩ := bind_ex z7
      refine gq_widen (k' := 0) (n' := 0) (Nat.le_of_ble_eq_true rfl) (Nat.le_of_ble_eq_true rfl) (gq_sub [2, 1, 0] rfl ?_)
      refine l_X3_record_18 hN C k_b6 qFuel _ _ _ eo15 ?_
      refine gq_aload_n C dX3_record_44 rfl 0 rfl ?_
      refine gq_get0 C (qn_l 0 (by decide) hN) (by decide) 4 (by decide) wk_3_65 rfl dX3_record_45 ?_
      refine gq_bipush (v := 7) C dX3_record_48 (by decide) ?_
      refine gq_aload_n C dX3_record_50 rfl 1 rfl ?_
      obtain ⟨m17, em17, z18⟩ := bind_ex z14
      refine gq_aastore C (qn_l 70 (by decide) hN) hN (by decide) em17 dX3_record_51 ?_
      refine gq_aload_n C dX3_record_52 rfl 0 rfl ?_
      refine gq_bipush (v := 7) C dX3_record_53 (by decide) ?_
      obtain ⟨m19, em19, z20⟩ := bind_ex z18
      refine gq_put0_5 C (qn_l 0 (by decide) hN) (by decide) wk_3_66 (Option.some.inj em19).symm dX3_record_55 ?_
      cases z20
      exact gq_widen (Nat.le_of_ble_eq_true rfl) (Nat.le_of_ble_eq_true rfl) (gq_sub [0] rfl J58)
abbrev rm_X3_run : Room := { frames := 7, cells := 2, slots := 12, locals := 149 }
def F_X3_run_19 (u1 : Int32) : Nat → Int32 → Int32 → Mm → Option (Int32 × Mm)
  | 0, _, _, _ => none
  | n + 1, v2, v3, μ =>
  if u1 ≤ v3 then
  (some (v2, μ))
  else
  ((F_X1_runMonth 1 (-1 : Int32) μ).bind fun o17 =>
  F_X3_run_19 u1 n (v2 + o17.1) (v3 + 1) o17.2)
def F_X3_run (p1 : Int32) (μ : Mm) : Option (Nat × Int32 × Mm) :=
  (F_X3_needRange p1 (1 : Int32) (36 : Int32) μ).bind fun o2 =>
  if o2 = 0 then ((F_X3_needReaches  μ).bind fun o7 =>
  if o7 = 0 then ((F_X3_record  μ).bind fun o12 =>
  (F_X3_run_19 p1 qFuel (0 : Int32) (0 : Int32) o12).bind fun o21 =>
  some (0, o21.1, o21.2))
  else some (o7, 0, μ))
  else some (o2, 0, μ)
set_option maxHeartbeats 4000000 in
set_option maxRecDepth 100000 in
theorem l_X3_run_19 {l : Launch} {E : Ev} (hN : 295 ≤ eN E) {p : Program} {e : Env} {s : State} {m : MethodId} {args : Array Value} {below : List Frame} {meth : Method} {c : Code} (hl9 : l.stackTraces = false) (hout : ∀ x ∈ c.exceptionTable.toList, False) (C : Cq E p s m args meth c cX3_run 4 RX3) {Q : State → Prop} {u1 : Int32} : ∀ (n : Nat) (v2 : Int32) (v3 : Int32) (μ : Mm) (w2 : Int32) (μx : Mm), F_X3_run_19 u1 n v2 v3 μ = some (w2, μx) → Gq E p l e rm_X3_run s m args below meth c 2 12 4 Q 41 [(2, .int w2)] [] μx → Gq E p l e rm_X3_run s m args below meth c 2 12 4 Q 19 [(0, .ref (eB E + 0)), (1, .int u1), (2, .int v2), (3, .int v3)] [] μ := by
  intro n
  induction n with
  | zero =>
    intro v2 v3 μ w2 μx z0 kk
    rw [F_X3_run_19] at z0
    cases z0
  | succ n ih =>
    intro v2 v3 μ w2 μx z0 kk
    rw [F_X3_run_19] at z0
    refine gq_iload_n C dX3_run_19 rfl 3 rfl ?_
    refine gq_iload_n C dX3_run_20 rfl 1 rfl ?_
    rcases ite_ex z0 with ⟨c14, z15⟩ | ⟨c14, z15⟩
    · refine gq_icmp_ge_t (tgt := 41) C dX3_run_21 (by decide) c14 ?_
      cases z15
      exact gq_widen (Nat.le_of_ble_eq_true rfl) (Nat.le_of_ble_eq_true rfl) (gq_sub [2] rfl kk)
    · refine gq_icmp_ge_f (tgt := 41) C dX3_run_21 (by decide) c14 ?_
      refine gq_iload_n C dX3_run_24 rfl 2 rfl ?_
      refine gq_aload_n C dX3_run_25 rfl 0 rfl ?_
      refine gq_get0 C (qn_l 0 (by decide) hN) (by decide) 0 (by decide) wk_3_61 rfl dX3_run_26 ?_
      refine gq_iconst (v := -1) C dX3_run_29 (by decide) ?_
      obtain ⟨⟨x18, m19⟩, eo17, z16⟩ := bind_ex z15
      dsimp only at z16
      refine gq_V (As := [.int (-1 : Int32)]) (rest := [.int v2]) (j := 1) C (c_X1_runMonth hN (show kd 1 = 1 by decide) eo17) (qn_l 1 (by decide) hN) (by decide) (by decide) rfl wk_1_233 wk_1_234 wk_1_235 wk_1_4 wk_1_236 hd_X1_runMonth ⟨(Nat.le_of_ble_eq_true rfl), (Nat.le_of_ble_eq_true rfl)⟩ (Nat.le_of_ble_eq_true rfl) ⟨(Nat.le_of_ble_eq_true rfl), (Nat.le_of_ble_eq_true rfl)⟩ dX3_run_30 rfl rfl ?_
      refine gq_iadd C dX3_run_33 ?_
      refine gq_istore_n (lv' := [(2, .int (v2 + x18)), (0, .ref (eB E + 0)), (1, .int u1), (3, .int v3)]) C dX3_run_34 rfl (by decide) rfl ?_
      refine gq_iinc (v := (v3 + 1)) (lv' := [(3, .int (v3 + 1)), (2, .int (v2 + x18)), (0, .ref (eB E + 0)), (1, .int u1)]) (q := 3) C dX3_run_35 rfl rfl (by decide) rfl ?_
      refine gq_goto (tgt := 19) C dX3_run_38 (by decide) ?_
      refine gq_widen (k' := 2) (n' := 12) (Nat.le_of_ble_eq_true rfl) (Nat.le_of_ble_eq_true rfl) (gq_sub [2, 3, 1, 0] rfl ?_)
      exact ih _ _ _ _ _ z16 kk
set_option maxHeartbeats 4000000 in
set_option maxRecDepth 100000 in
theorem c_X3_run {l : Launch} {E : Ev} (hN : 295 ≤ eN E) (hl9 : l.stackTraces = false) {p1 : Int32} {μ : Mm} {ec : Nat} {r : Int32} {μ' : Mm} (z0 : F_X3_run p1 μ = some (ec, r, μ')) : Cx l E yX3_run (Cond.code yX3_run cX3_run 4 (some .int) :: GW) rm_X3_run [.ref (eB E + 0), .int p1] μ ec (some (.int r)) μ' := by
  refine cx_of (by decide) (Nat.le_of_ble_eq_true rfl) (fun p e s m args below meth c C hr hout => ?_)
  have C : Cq E p s m args meth c cX3_run 4 RX3 := C
  refine gq_lv (lv' := [(0, .ref (eB E + 0)), (1, .int p1)]) rfl ?_
  unfold F_X3_run at z0
  refine gq_iload_n C dX3_run_0 rfl 1 rfl ?_
  refine gq_iconst (v := 1) C dX3_run_1 (by decide) ?_
  refine gq_bipush (v := 36) C dX3_run_2 (by decide) ?_
  obtain ⟨x3, eo2, z1⟩ := bind_ex z0
  rcases ite_ex z1 with ⟨c4, z5⟩ | ⟨c4, z5⟩
  · refine gx_S (As := [.int p1, .int (1 : Int32), .int (36 : Int32)]) (rest := []) C (μF := μ) (oF := none) (mcF := 1000000) (msF := 1000000) (Or.inr c4) (fun h9 => absurd c4 h9) hout (Nat.le_of_ble_eq_true rfl) (Nat.le_of_ble_eq_true rfl) (c_X3_needRange hN hl9  eo2) wk_1_177 wk_1_178 wk_1_3 wk_1_179 hd_X3_needRange ⟨(Nat.le_of_ble_eq_true rfl), (Nat.le_of_ble_eq_true rfl)⟩ (Nat.le_of_ble_eq_true rfl) ⟨(Nat.le_of_ble_eq_true rfl), (Nat.le_of_ble_eq_true rfl)⟩ dX3_run_4 rfl rfl (fun _ => ?_)
    refine gq_aload_n C dX3_run_7 rfl 0 rfl ?_
    obtain ⟨x8, eo7, z6⟩ := bind_ex z5
    rcases ite_ex z6 with ⟨c9, z10⟩ | ⟨c9, z10⟩
    · refine gx_V (As := []) (rest := []) (j := 0) C (μF := μ) (oF := none) (mcF := 1000000) (msF := 1000000) (Or.inr c9) (fun h9 => absurd c9 h9) hout (Nat.le_of_ble_eq_true rfl) (Nat.le_of_ble_eq_true rfl) (c_X3_needReaches hN hl9  eo7) (qn_l 0 (by decide) hN) (by decide) (by decide) rfl wk_1_196 wk_1_198 ws_X3_needReaches wk_1_3 wk_1_200 hd_X3_needReaches ⟨(Nat.le_of_ble_eq_true rfl), (Nat.le_of_ble_eq_true rfl)⟩ (Nat.le_of_ble_eq_true rfl) ⟨(Nat.le_of_ble_eq_true rfl), (Nat.le_of_ble_eq_true rfl)⟩ dX3_run_8 rfl rfl (fun _ => ?_)
      refine gq_aload_n C dX3_run_11 rfl 0 rfl ?_
      obtain ⟨m13, eo12, z11⟩ := bind_ex z10
      refine gq_V (As := []) (rest := []) (j := 0) C (c_X3_record hN  eo12) (qn_l 0 (by decide) hN) (by decide) (by decide) rfl wk_1_217 wk_1_219 ws_X3_record wk_1_3 wk_1_220 hd_X3_record ⟨(Nat.le_of_ble_eq_true rfl), (Nat.le_of_ble_eq_true rfl)⟩ (Nat.le_of_ble_eq_true rfl) ⟨(Nat.le_of_ble_eq_true rfl), (Nat.le_of_ble_eq_true rfl)⟩ dX3_run_12 rfl rfl ?_
      refine gq_iconst (v := 0) C dX3_run_15 (by decide) ?_
      refine gq_istore_n (lv' := [(2, .int (0 : Int32)), (0, .ref (eB E + 0)), (1, .int p1)]) C dX3_run_16 rfl (by decide) rfl ?_
      refine gq_iconst (v := 0) C dX3_run_17 (by decide) ?_
      refine gq_istore_n (lv' := [(3, .int (0 : Int32)), (2, .int (0 : Int32)), (0, .ref (eB E + 0)), (1, .int p1)]) C dX3_run_18 rfl (by decide) rfl ?_
      obtain ⟨⟨x22, m23⟩, eo21, z20⟩ := bind_ex z11
      dsimp only at z20
      refine gq_widen (k' := 2) (n' := 12) (Nat.le_of_ble_eq_true rfl) (Nat.le_of_ble_eq_true rfl) (gq_sub [2, 3, 1, 0] rfl ?_)
      refine l_X3_run_19 hN hl9 hout C  qFuel _ _ _ _ _ eo21 ?_
      refine gq_iload_n C dX3_run_41 rfl 0 rfl ?_
      cases z20
      exact gx_ret (gq_iret C hr dX3_run_42 (Nat.le_of_ble_eq_true rfl) (Nat.le_of_ble_eq_true rfl))
    · cases z10
      refine gx_V (As := []) (rest := []) (j := 0) C (Or.inl rfl) (fun _ => rfl) hout (Nat.le_of_ble_eq_true rfl) (Nat.le_of_ble_eq_true rfl) (c_X3_needReaches hN hl9  eo7) (qn_l 0 (by decide) hN) (by decide) (by decide) rfl wk_1_196 wk_1_198 ws_X3_needReaches wk_1_3 wk_1_200 hd_X3_needReaches ⟨(Nat.le_of_ble_eq_true rfl), (Nat.le_of_ble_eq_true rfl)⟩ (Nat.le_of_ble_eq_true rfl) ⟨(Nat.le_of_ble_eq_true rfl), (Nat.le_of_ble_eq_true rfl)⟩ dX3_run_8 rfl rfl (fun h9 => absurd h9 c9)
  · cases z5
    refine gx_S (As := [.int p1, .int (1 : Int32), .int (36 : Int32)]) (rest := []) C (Or.inl rfl) (fun _ => rfl) hout (Nat.le_of_ble_eq_true rfl) (Nat.le_of_ble_eq_true rfl) (c_X3_needRange hN hl9  eo2) wk_1_177 wk_1_178 wk_1_3 wk_1_179 hd_X3_needRange ⟨(Nat.le_of_ble_eq_true rfl), (Nat.le_of_ble_eq_true rfl)⟩ (Nat.le_of_ble_eq_true rfl) ⟨(Nat.le_of_ble_eq_true rfl), (Nat.le_of_ble_eq_true rfl)⟩ dX3_run_4 rfl rfl (fun h9 => absurd h9 c4)
