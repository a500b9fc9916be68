abbrev rm_X3_append : Room := { frames := 1, cells := 0, slots := 0, locals := 22 }
def F_X3_append (p1 : Int32) (p2 : Int32) (p3 : Int32) (p4 : Int32) (p5 : Int32) (μ : Mm) : Option (Int32 × Mm) :=
  if ((μ.1 45 2) + (20 : Int32)) ≤ (900 : Int32) then
  ((F_X0_addWord p1 μ).bind fun o4 =>
  (F_X0_addWord p2 o4).bind fun o7 =>
  (F_X0_addWord p3 o7).bind fun o10 =>
  (F_X0_addWord p4 o10).bind fun o13 =>
  (F_X0_addWord p5 o13).bind fun o16 =>
  some ((o16.1 45 2), o16))
  else
  (some ((-1 : Int32), μ))
set_option maxHeartbeats 4000000 in
set_option maxRecDepth 100000 in
theorem c_X3_append {l : Launch} {E : Ev} (hN : 295 ≤ eN E) {p1 : Int32} {p2 : Int32} {p3 : Int32} {p4 : Int32} {p5 : Int32} {μ : Mm} {r : Int32} {μ' : Mm} (z0 : F_X3_append p1 p2 p3 p4 p5 μ = some (r, μ')) : Ct l E yX3_append (Cond.code yX3_append cX3_append 6 (some .int) :: GW) rm_X3_append [.ref (eB E + 0), .int p1, .int p2, .int p3, .int p4, .int p5] μ (some (.int r)) μ' := by
  refine ct_of (by decide) (Nat.le_of_ble_eq_true rfl) (fun p e s m args below meth c C hr => ?_)
  have C : Cq E p s m args meth c cX3_append 6 RX3 := C
  refine gq_lv (lv' := [(0, .ref (eB E + 0)), (1, .int p1), (2, .int p2), (3, .int p3), (4, .int p4), (5, .int p5)]) rfl ?_
  unfold F_X3_append at z0
  refine gq_aload_n C dX3_append_0 rfl 0 rfl ?_
  refine gq_get0 C (qn_l 0 (by decide) hN) (by decide) 2 (by decide) wk_1_229 rfl dX3_append_1 ?_
  refine gq_get3N C (qn_l 45 (by decide) hN) (by decide) 2 (by decide) wk_1_154 rfl dX3_append_4 ?_
  refine gq_bipush (v := 20) C dX3_append_7 (by decide) ?_
  refine gq_iadd C dX3_append_9 ?_
  refine gq_sipush (v := 900) C dX3_append_10 (by decide) ?_
  rcases ite_ex z0 with ⟨c1, z2⟩ | ⟨c1, z2⟩
  · refine gq_icmp_le_t (tgt := 18) C dX3_append_13 (by decide) c1 ?_
    refine gq_aload_n C dX3_append_18 rfl 0 rfl ?_
    refine gq_get0 C (qn_l 0 (by decide) hN) (by decide) 2 (by decide) wk_1_229 rfl dX3_append_19 ?_
    refine gq_iload_n C dX3_append_22 rfl 1 rfl ?_
    obtain ⟨m5, eo4, z3⟩ := bind_ex z2
    refine gq_V (As := [.int p1]) (rest := []) (j := 3) C (c_X0_addWord hN  eo4) (qn_l 45 (by decide) hN) (by decide) (by decide) rfl wk_2_19 wk_2_20 wk_2_21 wk_1_4 wk_2_22 hd_X0_addWord ⟨(Nat.le_of_ble_eq_true rfl), (Nat.le_of_ble_eq_true rfl)⟩ (Nat.le_of_ble_eq_true rfl) ⟨(Nat.le_of_ble_eq_true rfl), (Nat.le_of_ble_eq_true rfl)⟩ dX3_append_23 rfl rfl ?_
    refine gq_aload_n C dX3_append_26 rfl 0 rfl ?_
    refine gq_get0 C (qn_l 0 (by decide) hN) (by decide) 2 (by decide) wk_1_229 rfl dX3_append_27 ?_
    refine gq_iload_n C dX3_append_30 rfl 2 rfl ?_
    obtain ⟨m8, eo7, z6⟩ := bind_ex z3
    refine gq_V (As := [.int p2]) (rest := []) (j := 3) C (c_X0_addWord hN  eo7) (qn_l 45 (by decide) hN) (by decide) (by decide) rfl wk_2_19 wk_2_20 wk_2_21 wk_1_4 wk_2_22 hd_X0_addWord ⟨(Nat.le_of_ble_eq_true rfl), (Nat.le_of_ble_eq_true rfl)⟩ (Nat.le_of_ble_eq_true rfl) ⟨(Nat.le_of_ble_eq_true rfl), (Nat.le_of_ble_eq_true rfl)⟩ dX3_append_31 rfl rfl ?_
    refine gq_aload_n C dX3_append_34 rfl 0 rfl ?_
    refine gq_get0 C (qn_l 0 (by decide) hN) (by decide) 2 (by decide) wk_1_229 rfl dX3_append_35 ?_
    refine gq_iload_n C dX3_append_38 rfl 3 rfl ?_
    obtain ⟨m11, eo10, z9⟩ := bind_ex z6
    refine gq_V (As := [.int p3]) (rest := []) (j := 3) C (c_X0_addWord hN  eo10) (qn_l 45 (by decide) hN) (by decide) (by decide) rfl wk_2_19 wk_2_20 wk_2_21 wk_1_4 wk_2_22 hd_X0_addWord ⟨(Nat.le_of_ble_eq_true rfl), (Nat.le_of_ble_eq_true rfl)⟩ (Nat.le_of_ble_eq_true rfl) ⟨(Nat.le_of_ble_eq_true rfl), (Nat.le_of_ble_eq_true rfl)⟩ dX3_append_39 rfl rfl ?_
    refine gq_aload_n C dX3_append_42 rfl 0 rfl ?_
    refine gq_get0 C (qn_l 0 (by decide) hN) (by decide) 2 (by decide) wk_1_229 rfl dX3_append_43 ?_
    refine gq_iload C dX3_append_46 4 rfl ?_
    obtain ⟨m14, eo13, z12⟩ := bind_ex z9
    refine gq_V (As := [.int p4]) (rest := []) (j := 3) C (c_X0_addWord hN  eo13) (qn_l 45 (by decide) hN) (by decide) (by decide) rfl wk_2_19 wk_2_20 wk_2_21 wk_1_4 wk_2_22 hd_X0_addWord ⟨(Nat.le_of_ble_eq_true rfl), (Nat.le_of_ble_eq_true rfl)⟩ (Nat.le_of_ble_eq_true rfl) ⟨(Nat.le_of_ble_eq_true rfl), (Nat.le_of_ble_eq_true rfl)⟩ dX3_append_48 rfl rfl ?_
    refine gq_aload_n C dX3_append_51 rfl 0 rfl ?_
    refine gq_get0 C (qn_l 0 (by decide) hN) (by decide) 2 (by decide) wk_1_229 rfl dX3_append_52 ?_
    refine gq_iload C dX3_append_55 5 rfl ?_
    obtain ⟨m17, eo16, z15⟩ := bind_ex z12
    refine gq_V (As := [.int p5]) (rest := []) (j := 3) C (c_X0_addWord hN  eo16) (qn_l 45 (by decide) hN) (by decide) (by decide) rfl wk_2_19 wk_2_20 wk_2_21 wk_1_4 wk_2_22 hd_X0_addWord ⟨(Nat.le_of_ble_eq_true rfl), (Nat.le_of_ble_eq_true rfl)⟩ (Nat.le_of_ble_eq_true rfl) ⟨(Nat.le_of_ble_eq_true rfl), (Nat.le_of_ble_eq_true rfl)⟩ dX3_append_57 rfl rfl ?_
    refine gq_aload_n C dX3_append_60 rfl 0 rfl ?_
    refine gq_get0 C (qn_l 0 (by decide) hN) (by decide) 2 (by decide) wk_1_229 rfl dX3_append_61 ?_
    refine gq_get3N C (qn_l 45 (by decide) hN) (by decide) 2 (by decide) wk_1_154 rfl dX3_append_64 ?_
    cases z15
    exact gq_iret C hr dX3_append_67 (Nat.le_of_ble_eq_true rfl) (Nat.le_of_ble_eq_true rfl)
  · refine gq_icmp_le_f (tgt := 18) C dX3_append_13 (by decide) c1 ?_
    refine gq_iconst (v := -1) C dX3_append_16 (by decide) ?_
    cases z2
    exact gq_iret C hr dX3_append_17 (Nat.le_of_ble_eq_true rfl) (Nat.le_of_ble_eq_true rfl)
abbrev rm_X3_truncate : Room := { frames := 0, cells := 0, slots := 0, locals := 0 }
def F_X3_truncate (p1 : Int32) (μ : Mm) : Option (Int32 × Mm) :=
  if p1 < 0 then
  (some ((0 : Int32), μ))
  else
  (if p1 ≤ (μ.1 45 2) then
  ((some (uI μ 45 2 p1)).bind fun m5 =>
  some ((1 : Int32), m5))
  else
  (some ((0 : Int32), μ)))
set_option maxHeartbeats 4000000 in
set_option maxRecDepth 100000 in
theorem c_X3_truncate {l : Launch} {E : Ev} (hN : 295 ≤ eN E) {p1 : Int32} {μ : Mm} {r : Int32} {μ' : Mm} (z0 : F_X3_truncate p1 μ = some (r, μ')) : Ct l E yX3_truncate (Cond.code yX3_truncate cX3_truncate 2 (some .boolean) :: GW) rm_X3_truncate [.ref (eB E + 0), .int p1] μ (some (.int r)) μ' := by
  refine ct_of (by decide) (Nat.le_of_ble_eq_true rfl) (fun p e s m args below meth c C hr => ?_)
  have C : Cq E p s m args meth c cX3_truncate 2 RX3 := C
  refine gq_lv (lv' := [(0, .ref (eB E + 0)), (1, .int p1)]) rfl ?_
  unfold F_X3_truncate at z0
  refine gq_iload_n C dX3_truncate_0 rfl 1 rfl ?_
  rcases ite_ex z0 with ⟨c1, z2⟩ | ⟨c1, z2⟩
  · refine gq_if_lt_t (tgt := 15) C dX3_truncate_1 (by decide) c1 ?_
    refine gq_iconst (v := 0) C dX3_truncate_15 (by decide) ?_
    cases z2
    exact gq_zret C hr (by decide) dX3_truncate_16 (Nat.le_of_ble_eq_true rfl) (Nat.le_of_ble_eq_true rfl)
  · refine gq_if_lt_f (tgt := 15) C dX3_truncate_1 (by decide) c1 ?_
    refine gq_iload_n C dX3_truncate_4 rfl 1 rfl ?_
    refine gq_aload_n C dX3_truncate_5 rfl 0 rfl ?_
    refine gq_get0 C (qn_l 0 (by decide) hN) (by decide) 2 (by decide) wk_1_229 rfl dX3_truncate_6 ?_
    refine gq_get3N C (qn_l 45 (by decide) hN) (by decide) 2 (by decide) wk_1_154 rfl dX3_truncate_9 ?_
    rcases ite_ex z2 with ⟨c3, z4⟩ | ⟨c3, z4⟩
    · refine gq_icmp_le_t (tgt := 17) C dX3_truncate_12 (by decide) c3 ?_
      refine gq_aload_n C dX3_truncate_17 rfl 0 rfl ?_
      refine gq_get0 C (qn_l 0 (by decide) hN) (by decide) 2 (by decide) wk_1_229 rfl dX3_truncate_18 ?_
      refine gq_iload_n C dX3_truncate_21 rfl 1 rfl ?_
      obtain ⟨m5, em5, z6⟩ := bind_ex z4
      refine gq_put3_2N C (qn_l 45 (by decide) hN) (by decide) wk_1_154 (Option.some.inj em5).symm dX3_truncate_22 ?_
      refine gq_iconst (v := 1) C dX3_truncate_25 (by decide) ?_
      cases z6
      exact gq_zret C hr (by decide) dX3_truncate_26 (Nat.le_of_ble_eq_true rfl) (Nat.le_of_ble_eq_true rfl)
    · refine gq_icmp_le_f (tgt := 17) C dX3_truncate_12 (by decide) c3 ?_
      refine gq_iconst (v := 0) C dX3_truncate_15 (by decide) ?_
      cases z4
      exact gq_zret C hr (by decide) dX3_truncate_16 (Nat.le_of_ble_eq_true rfl) (Nat.le_of_ble_eq_true rfl)
abbrev rm_X3_load : Room := { frames := 10, cells := 1, slots := 6, locals := 300 }
def F_X3_load_51  : Nat → Int32 → Mm → Option Mm
  | 0, _, _ => none
  | n + 1, v2, μ =>
  if (2 : Int32) ≤ v2 then
  (some μ)
  else
  ((sZ μ 292 v2 (0 : Int32)).bind fun m16 =>
  F_X3_load_51 n (v2 + 1) m16)
def F_X3_load  (μ : Mm) : Option (Nat × Int32 × Mm) :=
  (F_X0_readText  μ).bind fun o2 =>
  (some (uI o2.2 45 2 (0 : Int32))).bind fun m5 =>
  if o2.1 = 0 then
  (some (3, 0, m5))
  else
  ((F_X1_copyFrom 1 47 m5).bind fun o10 =>
  (some (uI o10 0 5 (0 : Int32))).bind fun m12 =>
  (F_X3_load_51 qFuel (0 : Int32) m12).bind fun o19 =>
  some (0, (o19.1 9 2), o19))
set_option maxHeartbeats 4000000 in
set_option maxRecDepth 100000 in
theorem l_X3_load_51 {l : Launch} {E : Ev} (hN : 295 ≤ eN E) {p : Program} {e : Env} {s : State} {m : MethodId} {args : Array Value} {below : List Frame} {meth : Method} {c : Code} (hl9 : l.stackTraces = false) (hout : ∀ x ∈ c.exceptionTable.toList, False) (C : Cq E p s m args meth c cX3_load 3 RX3) {Q : State → Prop} : ∀ (n : Nat) (v2 : Int32) (μ : Mm) (μx : Mm), F_X3_load_51 n v2 μ = some μx → Gq E p l e rm_X3_load s m args below meth c 0 0 3 Q 69 [(0, .ref (eB E + 0))] [] μx → Gq E p l e rm_X3_load s m args below meth c 0 0 3 Q 51 [(0, .ref (eB E + 0)), (2, .int v2)] [] μ := by
  intro n
  induction n with
  | zero =>
    intro v2 μ μx z0 kk
    rw [F_X3_load_51] at z0
    cases z0
  | succ n ih =>
    intro v2 μ μx z0 kk
    rw [F_X3_load_51] at z0
    refine gq_iload_n C dX3_load_51 rfl 1 rfl ?_
    refine gq_iconst (v := 2) C dX3_load_52 (by decide) ?_
    rcases ite_ex z0 with ⟨c14, z15⟩ | ⟨c14, z15⟩
    · refine gq_icmp_ge_t (tgt := 69) C dX3_load_53 (by decide) c14 ?_
      cases z15
      exact gq_widen (Nat.le_of_ble_eq_true rfl) (Nat.le_of_ble_eq_true rfl) (gq_sub [0] rfl kk)
    · refine gq_icmp_ge_f (tgt := 69) C dX3_load_53 (by decide) c14 ?_
      refine gq_aload_n C dX3_load_56 rfl 0 rfl ?_
      refine gq_get0 C (qn_l 0 (by decide) hN) (by decide) 7 (by decide) wk_1_234 rfl dX3_load_57 ?_
      refine gq_iload_n C dX3_load_60 rfl 1 rfl ?_
      refine gq_iconst (v := 0) C dX3_load_61 (by decide) ?_
      obtain ⟨m16, em16, z17⟩ := bind_ex z15
      refine gq_bastoreZ C (qn_l 292 (by decide) hN) (by decide) em16 dX3_load_62 ?_
      refine gq_iinc (v := (v2 + 1)) (lv' := [(2, .int (v2 + 1)), (0, .ref (eB E + 0))]) (q := 1) C dX3_load_63 rfl rfl (by decide) rfl ?_
      refine gq_goto (tgt := 51) C dX3_load_66 (by decide) ?_
      refine gq_widen (k' := 0) (n' := 0) (Nat.le_of_ble_eq_true rfl) (Nat.le_of_ble_eq_true rfl) (gq_sub [1, 0] rfl ?_)
      exact ih _ _ _ z17 kk
set_option maxHeartbeats 4000000 in
set_option maxRecDepth 100000 in
theorem c_X3_load {l : Launch} {E : Ev} (hN : 295 ≤ eN E) (hl9 : l.stackTraces = false) {μ : Mm} {ec : Nat} {r : Int32} {μ' : Mm} (z0 : F_X3_load  μ = some (ec, r, μ')) : Cx l E yX3_load (Cond.code yX3_load cX3_load 3 (some .int) :: GW) rm_X3_load [.ref (eB E + 0)] μ ec (some (.int r)) μ' := by
  refine cx_of (by decide) (Nat.le_of_ble_eq_true rfl) (fun p e s m args below meth c C hr hout => ?_)
  have C : Cq E p s m args meth c cX3_load 3 RX3 := C
  refine gq_lv (lv' := [(0, .ref (eB E + 0))]) rfl ?_
  unfold F_X3_load at z0
  refine gq_aload_n C dX3_load_0 rfl 0 rfl ?_
  refine gq_get0 C (qn_l 0 (by decide) hN) (by decide) 2 (by decide) wk_1_229 rfl dX3_load_1 ?_
  obtain ⟨⟨x3, m4⟩, eo2, z1⟩ := bind_ex z0
  dsimp only at z1
  refine gq_V (As := []) (rest := []) (j := 3) C (c_X0_readText hN  eo2) (qn_l 45 (by decide) hN) (by decide) (by decide) rfl wk_4_69 wk_4_70 wk_4_71 wk_1_4 wk_4_72 hd_X0_readText ⟨(Nat.le_of_ble_eq_true rfl), (Nat.le_of_ble_eq_true rfl)⟩ (Nat.le_of_ble_eq_true rfl) ⟨(Nat.le_of_ble_eq_true rfl), (Nat.le_of_ble_eq_true rfl)⟩ dX3_load_4 rfl rfl ?_
  refine gq_istore_n (lv' := [(1, .int x3), (0, .ref (eB E + 0))]) C dX3_load_7 rfl (by decide) rfl ?_
  refine gq_aload_n C dX3_load_8 rfl 1 rfl ?_
  refine gq_get0 C (qn_l 0 (by decide) hN) (by decide) 2 (by decide) wk_1_229 rfl dX3_load_9 ?_
  refine gq_iconst (v := 0) C dX3_load_12 (by decide) ?_
  obtain ⟨m5, em5, z6⟩ := bind_ex z1
  refine gq_put3_2N C (qn_l 45 (by decide) hN) (by decide) wk_1_154 (Option.some.inj em5).symm dX3_load_13 ?_
  refine gq_iload_n C dX3_load_16 rfl 0 rfl ?_
  rcases ite_ex z6 with ⟨c7, z8⟩ | ⟨c7, z8⟩
  · refine gq_if_ne_f (tgt := 30) C dX3_load_17 (by decide) c7 ?_
    cases z8
    exact gx_throw C hl9 (cls := "java/lang/IllegalArgumentException") (text := "the text does not match") (names := ["java/lang/RuntimeException", "java/lang/Exception"]) (j := 10) (by decide +kernel) (by decide +kernel) wk_4_181 wk_1_15 (by decide +kernel) (at_X3_67 C) at_X3_67_g dX3_load_20 dX3_load_23 dX3_load_24 dX3_load_26 dX3_load_29 hout (by decide) rfl (Nat.le_of_ble_eq_true rfl) (Nat.le_of_ble_eq_true rfl) (Nat.le_of_ble_eq_true rfl) (Nat.le_of_ble_eq_true rfl) (Nat.le_of_ble_eq_true rfl) (Nat.le_of_ble_eq_true rfl)
  · refine gq_if_ne_t (tgt := 30) C dX3_load_17 (by decide) c7 ?_
    refine gq_aload_n C dX3_load_30 rfl 1 rfl ?_
    refine gq_get0 C (qn_l 0 (by decide) hN) (by decide) 0 (by decide) wk_1_227 rfl dX3_load_31 ?_
    refine gq_aload_n C dX3_load_34 rfl 1 rfl ?_
    refine gq_get0 C (qn_l 0 (by decide) hN) (by decide) 2 (by decide) wk_1_229 rfl dX3_load_35 ?_
    refine gq_get3N C (qn_l 45 (by decide) hN) (by decide) 1 (by decide) wk_1_153 rfl dX3_load_38 ?_
    obtain ⟨m11, eo10, z9⟩ := bind_ex z8
    refine gq_V (As := [.ref (eB E + 47)]) (rest := []) (j := 1) C (c_X1_copyFrom hN (show kd 1 = 1 by decide) (show kd 47 = 1 by decide) eo10) (qn_l 1 (by decide) hN) (by decide) (by decide) rfl wk_2_133 wk_2_134 wk_2_135 wk_1_2 wk_2_136 hd_X1_copyFrom ⟨(Nat.le_of_ble_eq_true rfl), (Nat.le_of_ble_eq_true rfl)⟩ (Nat.le_of_ble_eq_true rfl) ⟨(Nat.le_of_ble_eq_true rfl), (Nat.le_of_ble_eq_true rfl)⟩ dX3_load_41 rfl rfl ?_
    refine gq_aload_n C dX3_load_44 rfl 1 rfl ?_
    refine gq_iconst (v := 0) C dX3_load_45 (by decide) ?_
    obtain ⟨m12, em12, z13⟩ := bind_ex z9
    refine gq_put0_5 C (qn_l 0 (by decide) hN) (by decide) wk_1_232 (Option.some.inj em12).symm dX3_load_46 ?_
    refine gq_iconst (v := 0) C dX3_load_49 (by decide) ?_
    refine gq_istore_n (lv' := [(2, .int (0 : Int32)), (1, .int x3), (0, .ref (eB E + 0))]) C dX3_load_50 rfl (by decide) rfl ?_
    obtain ⟨m20, eo19, z18⟩ := bind_ex z13
    refine gq_widen (k' := 0) (n' := 0) (Nat.le_of_ble_eq_true rfl) (Nat.le_of_ble_eq_true rfl) (gq_sub [2, 0] rfl ?_)
    refine l_X3_load_51 hN hl9 hout C  qFuel _ _ _ eo19 ?_
    refine gq_aload_n C dX3_load_69 rfl 0 rfl ?_
    refine gq_get0 C (qn_l 0 (by decide) hN) (by decide) 0 (by decide) wk_1_227 rfl dX3_load_70 ?_
    refine gq_get1N C (qn_l 1 (by decide) hN) (by decide) 6 (by decide) wk_1_76 rfl dX3_load_73 ?_
    refine gq_get2N C (qn_l 9 (by decide) hN) (by decide) 2 (by decide) wk_1_50 rfl dX3_load_76 ?_
    cases z18
    exact gx_ret (gq_iret C hr dX3_load_79 (Nat.le_of_ble_eq_true rfl) (Nat.le_of_ble_eq_true rfl))
abbrev rm_X3_errorOffset : Room := { frames := 0, cells := 0, slots := 0, locals := 0 }
def F_X3_errorOffset  (μ : Mm) : Option Int32 :=
  some (μ.1 45 3)
set_option maxHeartbeats 4000000 in
set_option maxRecDepth 100000 in
theorem c_X3_errorOffset {l : Launch} {E : Ev} (hN : 295 ≤ eN E) {μ : Mm} {r : Int32} (z0 : F_X3_errorOffset  μ = some r) : Ct l E yX3_errorOffset (Cond.code yX3_errorOffset cX3_errorOffset 1 (some .int) :: GW) rm_X3_errorOffset [.ref (eB E + 0)] μ (some (.int r)) μ := by
  refine ct_of (by decide) (Nat.le_of_ble_eq_true rfl) (fun p e s m args below meth c C hr => ?_)
  have C : Cq E p s m args meth c cX3_errorOffset 1 RX3 := C
  refine gq_lv (lv' := [(0, .ref (eB E + 0))]) rfl ?_
  unfold F_X3_errorOffset at z0
  refine gq_aload_n C dX3_errorOffset_0 rfl 0 rfl ?_
  refine gq_get0 C (qn_l 0 (by decide) hN) (by decide) 2 (by decide) wk_1_229 rfl dX3_errorOffset_1 ?_
  refine gq_get3N C (qn_l 45 (by decide) hN) (by decide) 3 (by decide) wk_1_157 rfl dX3_errorOffset_4 ?_
  cases z0
  exact gq_iret C hr dX3_errorOffset_7 (Nat.le_of_ble_eq_true rfl) (Nat.le_of_ble_eq_true rfl)
abbrev rm_X3_errorKind : Room := { frames := 0, cells := 0, slots := 0, locals := 0 }
def F_X3_errorKind  (μ : Mm) : Option Int32 :=
  some (μ.1 45 4)
set_option maxHeartbeats 4000000 in
set_option maxRecDepth 100000 in
theorem c_X3_errorKind {l : Launch} {E : Ev} (hN : 295 ≤ eN E) {μ : Mm} {r : Int32} (z0 : F_X3_errorKind  μ = some r) : Ct l E yX3_errorKind (Cond.code yX3_errorKind cX3_errorKind 1 (some .int) :: GW) rm_X3_errorKind [.ref (eB E + 0)] μ (some (.int r)) μ := by
  refine ct_of (by decide) (Nat.le_of_ble_eq_true rfl) (fun p e s m args below meth c C hr => ?_)
  have C : Cq E p s m args meth c cX3_errorKind 1 RX3 := C
  refine gq_lv (lv' := [(0, .ref (eB E + 0))]) rfl ?_
  unfold F_X3_errorKind at z0
  refine gq_aload_n C dX3_errorKind_0 rfl 0 rfl ?_
  refine gq_get0 C (qn_l 0 (by decide) hN) (by decide) 2 (by decide) wk_1_229 rfl dX3_errorKind_1 ?_
  refine gq_get3N C (qn_l 45 (by decide) hN) (by decide) 4 (by decide) wk_1_159 rfl dX3_errorKind_4 ?_
  cases z0
  exact gq_iret C hr dX3_errorKind_7 (Nat.le_of_ble_eq_true rfl) (Nat.le_of_ble_eq_true rfl)
abbrev rm_X3_count : Room := { frames := 6, cells := 1, slots := 6, locals := 90 }
def F_X3_count (p1 : Int32) (μ : Mm) : Option (Nat × Int32) :=
  if p1 = 0 then
  (some (0, (μ.1 2 2)))
  else if p1 = 1 then
  (some (0, (μ.1 6 2)))
  else if p1 = 2 then
  (some (0, (μ.1 9 2)))
  else if p1 = 3 then
  (some (0, (μ.1 13 2)))
  else if p1 = 4 then
  (some (0, (μ.1 15 2)))
  else if p1 = 5 then
  (some (0, (μ.1 1 14)))
  else if p1 = 6 then
  (some (0, (μ.1 1 15)))
  else if p1 = 7 then
  (some (0, (μ.1 1 3)))
  else (some (2, 0))
set_option maxHeartbeats 4000000 in
set_option maxRecDepth 100000 in
theorem c_X3_count {l : Launch} {E : Ev} (hN : 295 ≤ eN E) (hl9 : l.stackTraces = false) {p1 : Int32} {μ : Mm} {ec : Nat} {r : Int32} (z0 : F_X3_count p1 μ = some (ec, r)) : Cx l E yX3_count (Cond.code yX3_count cX3_count 2 (some .int) :: GW) rm_X3_count [.ref (eB E + 0), .int p1] μ ec (some (.int r)) μ := by
  refine cx_of (by decide) (Nat.le_of_ble_eq_true rfl) (fun p e s m args below meth c C hr hout => ?_)
  have C : Cq E p s m args meth c cX3_count 2 RX3 := C
  refine gq_lv (lv' := [(0, .ref (eB E + 0)), (1, .int p1)]) rfl ?_
  unfold F_X3_count at z0
  refine gq_iload_n C dX3_count_0 rfl 1 rfl ?_
  rcases ite_ex z0 with ⟨c1, z2⟩ | ⟨c1, z2⟩
  · refine gq_tableIn (tgt := 48) C dX3_count_1 (by rw [c1]; decide) (by rw [c1]; decide) (by rw [c1]; rfl) (by decide) ?_
    refine gq_aload_n C dX3_count_48 rfl 0 rfl ?_
    refine gq_get0 C (qn_l 0 (by decide) hN) (by decide) 0 (by decide) wk_1_227 rfl dX3_count_49 ?_
    refine gq_get1N C (qn_l 1 (by decide) hN) (by decide) 0 (by decide) wk_1_62 rfl dX3_count_52 ?_
    refine gq_get2N C (qn_l 2 (by decide) hN) (by decide) 2 (by decide) wk_1_50 rfl dX3_count_55 ?_
    cases z2
    exact gx_ret (gq_iret C hr dX3_count_58 (Nat.le_of_ble_eq_true rfl) (Nat.le_of_ble_eq_true rfl))
  rcases ite_ex z2 with ⟨c3, z4⟩ | ⟨c3, z4⟩
  · refine gq_tableIn (tgt := 59) C dX3_count_1 (by rw [c3]; decide) (by rw [c3]; decide) (by rw [c3]; rfl) (by decide) ?_
    refine gq_aload_n C dX3_count_59 rfl 0 rfl ?_
    refine gq_get0 C (qn_l 0 (by decide) hN) (by decide) 0 (by decide) wk_1_227 rfl dX3_count_60 ?_
    refine gq_get1N C (qn_l 1 (by decide) hN) (by decide) 4 (by decide) wk_1_72 rfl dX3_count_63 ?_
    refine gq_get2N C (qn_l 6 (by decide) hN) (by decide) 2 (by decide) wk_1_50 rfl dX3_count_66 ?_
    cases z4
    exact gx_ret (gq_iret C hr dX3_count_69 (Nat.le_of_ble_eq_true rfl) (Nat.le_of_ble_eq_true rfl))
  rcases ite_ex z4 with ⟨c5, z6⟩ | ⟨c5, z6⟩
  · refine gq_tableIn (tgt := 70) C dX3_count_1 (by rw [c5]; decide) (by rw [c5]; decide) (by rw [c5]; rfl) (by decide) ?_
    refine gq_aload_n C dX3_count_70 rfl 0 rfl ?_
    refine gq_get0 C (qn_l 0 (by decide) hN) (by decide) 0 (by decide) wk_1_227 rfl dX3_count_71 ?_
    refine gq_get1N C (qn_l 1 (by decide) hN) (by decide) 6 (by decide) wk_1_76 rfl dX3_count_74 ?_
    refine gq_get2N C (qn_l 9 (by decide) hN) (by decide) 2 (by decide) wk_1_50 rfl dX3_count_77 ?_
    cases z6
    exact gx_ret (gq_iret C hr dX3_count_80 (Nat.le_of_ble_eq_true rfl) (Nat.le_of_ble_eq_true rfl))
  rcases ite_ex z6 with ⟨c7, z8⟩ | ⟨c7, z8⟩
  · refine gq_tableIn (tgt := 81) C dX3_count_1 (by rw [c7]; decide) (by rw [c7]; decide) (by rw [c7]; rfl) (by decide) ?_
    refine gq_aload_n C dX3_count_81 rfl 0 rfl ?_
    refine gq_get0 C (qn_l 0 (by decide) hN) (by decide) 0 (by decide) wk_1_227 rfl dX3_count_82 ?_
    refine gq_get1N C (qn_l 1 (by decide) hN) (by decide) 9 (by decide) wk_1_81 rfl dX3_count_85 ?_
    refine gq_get2N C (qn_l 13 (by decide) hN) (by decide) 2 (by decide) wk_1_50 rfl dX3_count_88 ?_
    cases z8
    exact gx_ret (gq_iret C hr dX3_count_91 (Nat.le_of_ble_eq_true rfl) (Nat.le_of_ble_eq_true rfl))
  rcases ite_ex z8 with ⟨c9, z10⟩ | ⟨c9, z10⟩
  · refine gq_tableIn (tgt := 92) C dX3_count_1 (by rw [c9]; decide) (by rw [c9]; decide) (by rw [c9]; rfl) (by decide) ?_
    refine gq_aload_n C dX3_count_92 rfl 0 rfl ?_
    refine gq_get0 C (qn_l 0 (by decide) hN) (by decide) 0 (by decide) wk_1_227 rfl dX3_count_93 ?_
    refine gq_get1N C (qn_l 1 (by decide) hN) (by decide) 10 (by decide) wk_1_84 rfl dX3_count_96 ?_
    refine gq_get2N C (qn_l 15 (by decide) hN) (by decide) 2 (by decide) wk_1_50 rfl dX3_count_99 ?_
    cases z10
    exact gx_ret (gq_iret C hr dX3_count_102 (Nat.le_of_ble_eq_true rfl) (Nat.le_of_ble_eq_true rfl))
  rcases ite_ex z10 with ⟨c11, z12⟩ | ⟨c11, z12⟩
  · refine gq_tableIn (tgt := 103) C dX3_count_1 (by rw [c11]; decide) (by rw [c11]; decide) (by rw [c11]; rfl) (by decide) ?_
    refine gq_aload_n C dX3_count_103 rfl 0 rfl ?_
    refine gq_get0 C (qn_l 0 (by decide) hN) (by decide) 0 (by decide) wk_1_227 rfl dX3_count_104 ?_
    refine gq_get1N C (qn_l 1 (by decide) hN) (by decide) 14 (by decide) wk_1_93 rfl dX3_count_107 ?_
    cases z12
    exact gx_ret (gq_iret C hr dX3_count_110 (Nat.le_of_ble_eq_true rfl) (Nat.le_of_ble_eq_true rfl))
  rcases ite_ex z12 with ⟨c13, z14⟩ | ⟨c13, z14⟩
  · refine gq_tableIn (tgt := 111) C dX3_count_1 (by rw [c13]; decide) (by rw [c13]; decide) (by rw [c13]; rfl) (by decide) ?_
    refine gq_aload_n C dX3_count_111 rfl 0 rfl ?_
    refine gq_get0 C (qn_l 0 (by decide) hN) (by decide) 0 (by decide) wk_1_227 rfl dX3_count_112 ?_
    refine gq_get1N C (qn_l 1 (by decide) hN) (by decide) 15 (by decide) wk_1_95 rfl dX3_count_115 ?_
    cases z14
    exact gx_ret (gq_iret C hr dX3_count_118 (Nat.le_of_ble_eq_true rfl) (Nat.le_of_ble_eq_true rfl))
  rcases ite_ex z14 with ⟨c15, z16⟩ | ⟨c15, z16⟩
  · refine gq_tableIn (tgt := 119) C dX3_count_1 (by rw [c15]; decide) (by rw [c15]; decide) (by rw [c15]; rfl) (by decide) ?_
    refine gq_aload_n C dX3_count_119 rfl 0 rfl ?_
    refine gq_get0 C (qn_l 0 (by decide) hN) (by decide) 0 (by decide) wk_1_227 rfl dX3_count_120 ?_
    refine gq_get1N C (qn_l 1 (by decide) hN) (by decide) 3 (by decide) wk_1_69 rfl dX3_count_123 ?_
    cases z16
    exact gx_ret (gq_iret C hr dX3_count_126 (Nat.le_of_ble_eq_true rfl) (Nat.le_of_ble_eq_true rfl))
  refine gq_tableOut (tgt := 127) C dX3_count_1 (sw_out7 c1 c3 c5 c7 c9 c11 c13 c15) (by decide) ?_
  cases z16
  exact gx_throwN C hl9 (text := "no such count") (j := 11) wk_4_192 wk_1_17 (by decide +kernel) (at_X3_120 C) at_X3_120_g dX3_count_127 dX3_count_130 dX3_count_131 dX3_count_133 dX3_count_136 hout (by decide) rfl (Nat.le_of_ble_eq_true rfl) (Nat.le_of_ble_eq_true rfl) (Nat.le_of_ble_eq_true rfl) (Nat.le_of_ble_eq_true rfl) (Nat.le_of_ble_eq_true rfl) (Nat.le_of_ble_eq_true rfl)
abbrev rm_X3_needWhat : Room := { frames := 6, cells := 1, slots := 6, locals := 90 }
def F_X3_needWhat (p1 : Int32) (p2 : Int32) (μ : Mm) : Option Nat :=
  if p1 < 0 then
  (some 2)
  else
  (if p1 < p2 then
  (some 0)
  else
  (some 2))
set_option maxHeartbeats 4000000 in
set_option maxRecDepth 100000 in
theorem c_X3_needWhat {l : Launch} {E : Ev} (hN : 295 ≤ eN E) (hl9 : l.stackTraces = false) {p1 : Int32} {p2 : Int32} {μ : Mm} {ec : Nat} (z0 : F_X3_needWhat p1 p2 μ = some ec) : Cx l E yX3_needWhat (Cond.code yX3_needWhat cX3_needWhat 2 none :: GW) rm_X3_needWhat [.int p1, .int p2] μ ec none μ := by
  refine cx_of (by decide) (Nat.le_of_ble_eq_true rfl) (fun p e s m args below meth c C hr hout => ?_)
  have C : Cq E p s m args meth c cX3_needWhat 2 RX3 := C
  refine gq_lv (lv' := [(0, .int p1), (1, .int p2)]) rfl ?_
  unfold F_X3_needWhat at z0
  refine gq_iload_n C dX3_needWhat_0 rfl 0 rfl ?_
  rcases ite_ex z0 with ⟨c1, z2⟩ | ⟨c1, z2⟩
  · refine gq_if_lt_t (tgt := 9) C dX3_needWhat_1 (by decide) c1 ?_
    cases z2
    exact gx_throwNW C hl9 (text := "no such element") (j := 12) wk_4_192 wk_1_17 (by decide +kernel) (at_X3_120 C) at_X3_120_g dX3_needWhat_9 dX3_needWhat_12 dX3_needWhat_13 dX3_needWhat_16 dX3_needWhat_19 hout (by decide) rfl (Nat.le_of_ble_eq_true rfl) (Nat.le_of_ble_eq_true rfl) (Nat.le_of_ble_eq_true rfl) (Nat.le_of_ble_eq_true rfl) (Nat.le_of_ble_eq_true rfl) (Nat.le_of_ble_eq_true rfl)
  · refine gq_if_lt_f (tgt := 9) C dX3_needWhat_1 (by decide) c1 ?_
    refine gq_iload_n C dX3_needWhat_4 rfl 0 rfl ?_
    refine gq_iload_n C dX3_needWhat_5 rfl 1 rfl ?_
    rcases ite_ex z2 with ⟨c3, z4⟩ | ⟨c3, z4⟩
    · refine gq_icmp_lt_t (tgt := 20) C dX3_needWhat_6 (by decide) c3 ?_
      cases z4
      exact gx_ret (gq_vret C hr dX3_needWhat_20 (Nat.le_of_ble_eq_true rfl) (Nat.le_of_ble_eq_true rfl))
    · refine gq_icmp_lt_f (tgt := 20) C dX3_needWhat_6 (by decide) c3 ?_
      cases z4
      exact gx_throwNW C hl9 (text := "no such element") (j := 12) wk_4_192 wk_1_17 (by decide +kernel) (at_X3_120 C) at_X3_120_g dX3_needWhat_9 dX3_needWhat_12 dX3_needWhat_13 dX3_needWhat_16 dX3_needWhat_19 hout (by decide) rfl (Nat.le_of_ble_eq_true rfl) (Nat.le_of_ble_eq_true rfl) (Nat.le_of_ble_eq_true rfl) (Nat.le_of_ble_eq_true rfl) (Nat.le_of_ble_eq_true rfl) (Nat.le_of_ble_eq_true rfl)
abbrev rm_X3_season : Room := { frames := 7, cells := 1, slots := 6, locals := 111 }
def F_X3_season (p1 : Int32) (μ : Mm) : Option (Nat × Int32) :=
  (F_X3_needWhat p1 (12 : Int32) μ).bind fun o2 =>
  if o2 = 0 then ((F_X1_seasonPercentOf 1 p1 μ).bind fun o7 =>
  some (0, o7))
  else some (o2, 0)
set_option maxHeartbeats 4000000 in
set_option maxRecDepth 100000 in
theorem c_X3_season {l : Launch} {E : Ev} (hN : 295 ≤ eN E) (hl9 : l.stackTraces = false) {p1 : Int32} {μ : Mm} {ec : Nat} {r : Int32} (z0 : F_X3_season p1 μ = some (ec, r)) : Cx l E yX3_season (Cond.code yX3_season cX3_season 2 (some .int) :: GW) rm_X3_season [.ref (eB E + 0), .int p1] μ ec (some (.int r)) μ := by
  refine cx_of (by decide) (Nat.le_of_ble_eq_true rfl) (fun p e s m args below meth c C hr hout => ?_)
  have C : Cq E p s m args meth c cX3_season 2 RX3 := C
  refine gq_lv (lv' := [(0, .ref (eB E + 0)), (1, .int p1)]) rfl ?_
  unfold F_X3_season at z0
  refine gq_iload_n C dX3_season_0 rfl 1 rfl ?_
  refine gq_bipush (v := 12) C dX3_season_1 (by decide) ?_
  obtain ⟨x3, eo2, z1⟩ := bind_ex z0
  rcases ite_ex z1 with ⟨c4, z5⟩ | ⟨c4, z5⟩
  · refine gx_S (As := [.int p1, .int (12 : Int32)]) (rest := []) C (μF := μ) (oF := none) (mcF := 1000000) (msF := 1000000) (Or.inr c4) (fun h9 => absurd c4 h9) hout (Nat.le_of_ble_eq_true rfl) (Nat.le_of_ble_eq_true rfl) (c_X3_needWhat hN hl9  eo2) wk_4_215 wk_4_216 wk_1_1 wk_4_217 hd_X3_needWhat ⟨(Nat.le_of_ble_eq_true rfl), (Nat.le_of_ble_eq_true rfl)⟩ (Nat.le_of_ble_eq_true rfl) ⟨(Nat.le_of_ble_eq_true rfl), (Nat.le_of_ble_eq_true rfl)⟩ dX3_season_3 rfl rfl (fun _ => ?_)
    refine gq_aload_n C dX3_season_6 rfl 0 rfl ?_
    refine gq_get0 C (qn_l 0 (by decide) hN) (by decide) 0 (by decide) wk_1_227 rfl dX3_season_7 ?_
    refine gq_iload_n C dX3_season_10 rfl 1 rfl ?_
    obtain ⟨x8, eo7, z6⟩ := bind_ex z5
    refine gq_V (As := [.int p1]) (rest := []) (j := 1) C (c_X1_seasonPercentOf hN (show kd 1 = 1 by decide) eo7) (qn_l 1 (by decide) hN) (by decide) (by decide) rfl wk_4_219 wk_4_220 wk_4_221 wk_1_2 wk_4_222 hd_X1_seasonPercentOf ⟨(Nat.le_of_ble_eq_true rfl), (Nat.le_of_ble_eq_true rfl)⟩ (Nat.le_of_ble_eq_true rfl) ⟨(Nat.le_of_ble_eq_true rfl), (Nat.le_of_ble_eq_true rfl)⟩ dX3_season_11 rfl rfl ?_
    cases z6
    exact gx_ret (gq_iret C hr dX3_season_14 (Nat.le_of_ble_eq_true rfl) (Nat.le_of_ble_eq_true rfl))
  · cases z5
    refine gx_S (As := [.int p1, .int (12 : Int32)]) (rest := []) C (Or.inl rfl) (fun _ => rfl) hout (Nat.le_of_ble_eq_true rfl) (Nat.le_of_ble_eq_true rfl) (c_X3_needWhat hN hl9  eo2) wk_4_215 wk_4_216 wk_1_1 wk_4_217 hd_X3_needWhat ⟨(Nat.le_of_ble_eq_true rfl), (Nat.le_of_ble_eq_true rfl)⟩ (Nat.le_of_ble_eq_true rfl) ⟨(Nat.le_of_ble_eq_true rfl), (Nat.le_of_ble_eq_true rfl)⟩ dX3_season_3 rfl rfl (fun h9 => absurd h9 c4)
abbrev rm_X3_yearPercent : Room := { frames := 6, cells := 1, slots := 6, locals := 90 }
def F_X3_yearPercent (p1 : Int32) (μ : Mm) : Option (Nat × Int32) :=
  if 0 ≤ p1 then
  ((F_X1_percentOfYear 1 p1 μ).bind fun o4 =>
  some (0, o4))
  else
  (some (2, 0))
set_option maxHeartbeats 4000000 in
set_option maxRecDepth 100000 in
theorem c_X3_yearPercent {l : Launch} {E : Ev} (hN : 295 ≤ eN E) (hl9 : l.stackTraces = false) {p1 : Int32} {μ : Mm} {ec : Nat} {r : Int32} (z0 : F_X3_yearPercent p1 μ = some (ec, r)) : Cx l E yX3_yearPercent (Cond.code yX3_yearPercent cX3_yearPercent 2 (some .int) :: GW) rm_X3_yearPercent [.ref (eB E + 0), .int p1] μ ec (some (.int r)) μ := by
  refine cx_of (by decide) (Nat.le_of_ble_eq_true rfl) (fun p e s m args below meth c C hr hout => ?_)
  have C : Cq E p s m args meth c cX3_yearPercent 2 RX3 := C
  refine gq_lv (lv' := [(0, .ref (eB E + 0)), (1, .int p1)]) rfl ?_
  unfold F_X3_yearPercent at z0
  refine gq_iload_n C dX3_yearPercent_0 rfl 1 rfl ?_
  rcases ite_ex z0 with ⟨c1, z2⟩ | ⟨c1, z2⟩
  · refine gq_if_ge_t (tgt := 14) C dX3_yearPercent_1 (by decide) c1 ?_
    refine gq_aload_n C dX3_yearPercent_14 rfl 0 rfl ?_
    refine gq_get0 C (qn_l 0 (by decide) hN) (by decide) 0 (by decide) wk_1_227 rfl dX3_yearPercent_15 ?_
    refine gq_iload_n C dX3_yearPercent_18 rfl 1 rfl ?_
    obtain ⟨x5, eo4, z3⟩ := bind_ex z2
    refine gq_V (As := [.int p1]) (rest := []) (j := 1) C (c_X1_percentOfYear hN (show kd 1 = 1 by decide) eo4) (qn_l 1 (by decide) hN) (by decide) (by decide) rfl wk_4_231 wk_2_126 wk_2_127 wk_1_2 wk_2_128 hd_X1_percentOfYear ⟨(Nat.le_of_ble_eq_true rfl), (Nat.le_of_ble_eq_true rfl)⟩ (Nat.le_of_ble_eq_true rfl) ⟨(Nat.le_of_ble_eq_true rfl), (Nat.le_of_ble_eq_true rfl)⟩ dX3_yearPercent_19 rfl rfl ?_
    cases z3
    exact gx_ret (gq_iret C hr dX3_yearPercent_22 (Nat.le_of_ble_eq_true rfl) (Nat.le_of_ble_eq_true rfl))
  · refine gq_if_ge_f (tgt := 14) C dX3_yearPercent_1 (by decide) c1 ?_
    cases z2
    exact gx_throwN C hl9 (text := "a year before the first") (j := 13) wk_4_192 wk_1_17 (by decide +kernel) (at_X3_120 C) at_X3_120_g dX3_yearPercent_4 dX3_yearPercent_7 dX3_yearPercent_8 dX3_yearPercent_10 dX3_yearPercent_13 hout (by decide) rfl (Nat.le_of_ble_eq_true rfl) (Nat.le_of_ble_eq_true rfl) (Nat.le_of_ble_eq_true rfl) (Nat.le_of_ble_eq_true rfl) (Nat.le_of_ble_eq_true rfl) (Nat.le_of_ble_eq_true rfl)
abbrev rm_X3_needRow : Room := { frames := 6, cells := 1, slots := 6, locals := 90 }
def F_X3_needRow (q1 : Nat) (p2 : Int32) (μ : Mm) : Option Nat :=
  (F_X2_has q1 p2 μ).bind fun o2 =>
  if o2 = 0 then
  (some 1)
  else
  (some 0)
set_option maxHeartbeats 4000000 in
set_option maxRecDepth 100000 in
theorem c_X3_needRow {l : Launch} {E : Ev} (hN : 295 ≤ eN E) (hl9 : l.stackTraces = false) {q1 : Nat} (k_q1 : kd q1 = 2) {p2 : Int32} {μ : Mm} {ec : Nat} (z0 : F_X3_needRow q1 p2 μ = some ec) : Cx l E yX3_needRow (Cond.code yX3_needRow cX3_needRow 2 none :: GW) rm_X3_needRow [.ref (eB E + q1), .int p2] μ ec none μ := by
  refine cx_of (by decide) (Nat.le_of_ble_eq_true rfl) (fun p e s m args below meth c C hr hout => ?_)
  have C : Cq E p s m args meth c cX3_needRow 2 RX3 := C
  refine gq_lv (lv' := [(0, .ref (eB E + q1)), (1, .int p2)]) rfl ?_
  unfold F_X3_needRow at z0
  refine gq_aload_n C dX3_needRow_0 rfl 0 rfl ?_
  refine gq_iload_n C dX3_needRow_1 rfl 1 rfl ?_
  obtain ⟨x3, eo2, z1⟩ := bind_ex z0
  refine gq_V (As := [.int p2]) (rest := []) C (c_X2_has hN k_q1 eo2) (tb_n0 k_q1 hN) k_q1 (by decide) rfl wk_5_3 wk_2_44 wk_2_45 wk_1_3 wk_2_46 hd_X2_has ⟨(Nat.le_of_ble_eq_true rfl), (Nat.le_of_ble_eq_true rfl)⟩ (Nat.le_of_ble_eq_true rfl) ⟨(Nat.le_of_ble_eq_true rfl), (Nat.le_of_ble_eq_true rfl)⟩ dX3_needRow_2 rfl rfl ?_
  rcases ite_ex z1 with ⟨c4, z5⟩ | ⟨c4, z5⟩
  · refine gq_if_ne_f (tgt := 19) C dX3_needRow_5 (by decide) c4 ?_
    cases z5
    exact gx_throwW C hl9 (cls := "java/lang/IndexOutOfBoundsException") (text := "no such number") (names := ["java/lang/RuntimeException", "java/lang/Exception"]) (j := 14) (by decide +kernel) (by decide +kernel) wk_5_4 wk_1_18 (by decide +kernel) (at_X3_285 C) at_X3_285_g dX3_needRow_8 dX3_needRow_11 dX3_needRow_12 dX3_needRow_15 dX3_needRow_18 hout (by decide) rfl (Nat.le_of_ble_eq_true rfl) (Nat.le_of_ble_eq_true rfl) (Nat.le_of_ble_eq_true rfl) (Nat.le_of_ble_eq_true rfl) (Nat.le_of_ble_eq_true rfl) (Nat.le_of_ble_eq_true rfl)
  · refine gq_if_ne_t (tgt := 19) C dX3_needRow_5 (by decide) c4 ?_
    cases z5
    exact gx_ret (gq_vret C hr dX3_needRow_19 (Nat.le_of_ble_eq_true rfl) (Nat.le_of_ble_eq_true rfl))
abbrev rm_X3_reach : Room := { frames := 7, cells := 2, slots := 12, locals := 111 }
def F_X3_reach (p1 : Int32) (p2 : Int32) (μ : Mm) : Option (Nat × Int32) :=
  (F_X3_needRow 2 p1 μ).bind fun o2 =>
  if o2 = 0 then ((F_X3_needWhat p2 (3 : Int32) μ).bind fun o7 =>
  if o7 = 0 then ((F_X2_get 2 p1 p2 μ).bind fun o12 =>
  some (0, o12))
  else some (o7, 0))
  else some (o2, 0)
set_option maxHeartbeats 4000000 in
set_option maxRecDepth 100000 in
theorem c_X3_reach {l : Launch} {E : Ev} (hN : 295 ≤ eN E) (hl9 : l.stackTraces = false) {p1 : Int32} {p2 : Int32} {μ : Mm} {ec : Nat} {r : Int32} (z0 : F_X3_reach p1 p2 μ = some (ec, r)) : Cx l E yX3_reach (Cond.code yX3_reach cX3_reach 3 (some .int) :: GW) rm_X3_reach [.ref (eB E + 0), .int p1, .int p2] μ ec (some (.int r)) μ := by
  refine cx_of (by decide) (Nat.le_of_ble_eq_true rfl) (fun p e s m args below meth c C hr hout => ?_)
  have C : Cq E p s m args meth c cX3_reach 3 RX3 := C
  refine gq_lv (lv' := [(0, .ref (eB E + 0)), (1, .int p1), (2, .int p2)]) rfl ?_
  unfold F_X3_reach at z0
  refine gq_aload_n C dX3_reach_0 rfl 0 rfl ?_
  refine gq_get0 C (qn_l 0 (by decide) hN) (by decide) 0 (by decide) wk_1_227 rfl dX3_reach_1 ?_
  refine gq_get1N C (qn_l 1 (by decide) hN) (by decide) 0 (by decide) wk_1_62 rfl dX3_reach_4 ?_
  refine gq_iload_n C dX3_reach_7 rfl 1 rfl ?_
  obtain ⟨x3, eo2, z1⟩ := bind_ex z0
  rcases ite_ex z1 with ⟨c4, z5⟩ | ⟨c4, z5⟩
  · refine gx_S (As := [.ref (eB E + 2), .int p1]) (rest := []) C (μF := μ) (oF := none) (mcF := 1000000) (msF := 1000000) (Or.inr c4) (fun h9 => absurd c4 h9) hout (Nat.le_of_ble_eq_true rfl) (Nat.le_of_ble_eq_true rfl) (c_X3_needRow hN hl9 (show kd 2 = 2 by decide) eo2) wk_5_0 wk_5_1 wk_1_1 wk_5_2 hd_X3_needRow ⟨(Nat.le_of_ble_eq_true rfl), (Nat.le_of_ble_eq_true rfl)⟩ (Nat.le_of_ble_eq_true rfl) ⟨(Nat.le_of_ble_eq_true rfl), (Nat.le_of_ble_eq_true rfl)⟩ dX3_reach_8 rfl rfl (fun _ => ?_)
    refine gq_iload_n C dX3_reach_11 rfl 2 rfl ?_
    refine gq_iconst (v := 3) C dX3_reach_12 (by decide) ?_
    obtain ⟨x8, eo7, z6⟩ := bind_ex z5
    rcases ite_ex z6 with ⟨c9, z10⟩ | ⟨c9, z10⟩
    · refine gx_S (As := [.int p2, .int (3 : Int32)]) (rest := []) C (μF := μ) (oF := none) (mcF := 1000000) (msF := 1000000) (Or.inr c9) (fun h9 => absurd c9 h9) hout (Nat.le_of_ble_eq_true rfl) (Nat.le_of_ble_eq_true rfl) (c_X3_needWhat hN hl9  eo7) wk_4_215 wk_4_216 wk_1_1 wk_4_217 hd_X3_needWhat ⟨(Nat.le_of_ble_eq_true rfl), (Nat.le_of_ble_eq_true rfl)⟩ (Nat.le_of_ble_eq_true rfl) ⟨(Nat.le_of_ble_eq_true rfl), (Nat.le_of_ble_eq_true rfl)⟩ dX3_reach_13 rfl rfl (fun _ => ?_)
      refine gq_aload_n C dX3_reach_16 rfl 0 rfl ?_
      refine gq_get0 C (qn_l 0 (by decide) hN) (by decide) 0 (by decide) wk_1_227 rfl dX3_reach_17 ?_
      refine gq_get1N C (qn_l 1 (by decide) hN) (by decide) 0 (by decide) wk_1_62 rfl dX3_reach_20 ?_
      refine gq_iload_n C dX3_reach_23 rfl 1 rfl ?_
      refine gq_iload_n C dX3_reach_24 rfl 2 rfl ?_
      obtain ⟨x13, eo12, z11⟩ := bind_ex z10
      refine gq_V (As := [.int p1, .int p2]) (rest := []) (j := 2) C (c_X2_get hN (show kd 2 = 2 by decide) eo12) (qn_l 2 (by decide) hN) (by decide) (by decide) rfl wk_2_67 wk_2_60 wk_2_61 wk_1_3 wk_2_62 hd_X2_get ⟨(Nat.le_of_ble_eq_true rfl), (Nat.le_of_ble_eq_true rfl)⟩ (Nat.le_of_ble_eq_true rfl) ⟨(Nat.le_of_ble_eq_true rfl), (Nat.le_of_ble_eq_true rfl)⟩ dX3_reach_25 rfl rfl ?_
      cases z11
      exact gx_ret (gq_iret C hr dX3_reach_28 (Nat.le_of_ble_eq_true rfl) (Nat.le_of_ble_eq_true rfl))
    · cases z10
      refine gx_S (As := [.int p2, .int (3 : Int32)]) (rest := []) C (Or.inl rfl) (fun _ => rfl) hout (Nat.le_of_ble_eq_true rfl) (Nat.le_of_ble_eq_true rfl) (c_X3_needWhat hN hl9  eo7) wk_4_215 wk_4_216 wk_1_1 wk_4_217 hd_X3_needWhat ⟨(Nat.le_of_ble_eq_true rfl), (Nat.le_of_ble_eq_true rfl)⟩ (Nat.le_of_ble_eq_true rfl) ⟨(Nat.le_of_ble_eq_true rfl), (Nat.le_of_ble_eq_true rfl)⟩ dX3_reach_13 rfl rfl (fun h9 => absurd h9 c9)
  · cases z5
    refine gx_S (As := [.ref (eB E + 2), .int p1]) (rest := []) C (Or.inl rfl) (fun _ => rfl) hout (Nat.le_of_ble_eq_true rfl) (Nat.le_of_ble_eq_true rfl) (c_X3_needRow hN hl9 (show kd 2 = 2 by decide) eo2) wk_5_0 wk_5_1 wk_1_1 wk_5_2 hd_X3_needRow ⟨(Nat.le_of_ble_eq_true rfl), (Nat.le_of_ble_eq_true rfl)⟩ (Nat.le_of_ble_eq_true rfl) ⟨(Nat.le_of_ble_eq_true rfl), (Nat.le_of_ble_eq_true rfl)⟩ dX3_reach_8 rfl rfl (fun h9 => absurd h9 c4)
abbrev rm_X3_coming : Room := { frames := 7, cells := 1, slots := 6, locals := 111 }
def F_X3_coming (p1 : Int32) (μ : Mm) : Option (Nat × Int32) :=
  (F_X3_needRow 2 p1 μ).bind fun o2 =>
  if o2 = 0 then ((F_X1_comingInto 1 p1 μ).bind fun o7 =>
  some (0, o7))
  else some (o2, 0)
set_option maxHeartbeats 4000000 in
set_option maxRecDepth 100000 in
theorem c_X3_coming {l : Launch} {E : Ev} (hN : 295 ≤ eN E) (hl9 : l.stackTraces = false) {p1 : Int32} {μ : Mm} {ec : Nat} {r : Int32} (z0 : F_X3_coming p1 μ = some (ec, r)) : Cx l E yX3_coming (Cond.code yX3_coming cX3_coming 2 (some .int) :: GW) rm_X3_coming [.ref (eB E + 0), .int p1] μ ec (some (.int r)) μ := by
  refine cx_of (by decide) (Nat.le_of_ble_eq_true rfl) (fun p e s m args below meth c C hr hout => ?_)
  have C : Cq E p s m args meth c cX3_coming 2 RX3 := C
  refine gq_lv (lv' := [(0, .ref (eB E + 0)), (1, .int p1)]) rfl ?_
  unfold F_X3_coming at z0
  refine gq_aload_n C dX3_coming_0 rfl 0 rfl ?_
  refine gq_get0 C (qn_l 0 (by decide) hN) (by decide) 0 (by decide) wk_1_227 rfl dX3_coming_1 ?_
  refine gq_get1N C (qn_l 1 (by decide) hN) (by decide) 0 (by decide) wk_1_62 rfl dX3_coming_4 ?_
  refine gq_iload_n C dX3_coming_7 rfl 1 rfl ?_
  obtain ⟨x3, eo2, z1⟩ := bind_ex z0
  rcases ite_ex z1 with ⟨c4, z5⟩ | ⟨c4, z5⟩
  · refine gx_S (As := [.ref (eB E + 2), .int p1]) (rest := []) C (μF := μ) (oF := none) (mcF := 1000000) (msF := 1000000) (Or.inr c4) (fun h9 => absurd c4 h9) hout (Nat.le_of_ble_eq_true rfl) (Nat.le_of_ble_eq_true rfl) (c_X3_needRow hN hl9 (show kd 2 = 2 by decide) eo2) wk_5_0 wk_5_1 wk_1_1 wk_5_2 hd_X3_needRow ⟨(Nat.le_of_ble_eq_true rfl), (Nat.le_of_ble_eq_true rfl)⟩ (Nat.le_of_ble_eq_true rfl) ⟨(Nat.le_of_ble_eq_true rfl), (Nat.le_of_ble_eq_true rfl)⟩ dX3_coming_8 rfl rfl (fun _ => ?_)
    refine gq_aload_n C dX3_coming_11 rfl 0 rfl ?_
    refine gq_get0 C (qn_l 0 (by decide) hN) (by decide) 0 (by decide) wk_1_227 rfl dX3_coming_12 ?_
    refine gq_iload_n C dX3_coming_15 rfl 1 rfl ?_
    obtain ⟨x8, eo7, z6⟩ := bind_ex z5
    refine gq_V (As := [.int p1]) (rest := []) (j := 1) C (c_X1_comingInto hN (show kd 1 = 1 by decide) eo7) (qn_l 1 (by decide) hN) (by decide) (by decide) rfl wk_5_24 wk_5_25 wk_5_26 wk_1_2 wk_5_27 hd_X1_comingInto ⟨(Nat.le_of_ble_eq_true rfl), (Nat.le_of_ble_eq_true rfl)⟩ (Nat.le_of_ble_eq_true rfl) ⟨(Nat.le_of_ble_eq_true rfl), (Nat.le_of_ble_eq_true rfl)⟩ dX3_coming_16 rfl rfl ?_
    cases z6
    exact gx_ret (gq_iret C hr dX3_coming_19 (Nat.le_of_ble_eq_true rfl) (Nat.le_of_ble_eq_true rfl))
  · cases z5
    refine gx_S (As := [.ref (eB E + 2), .int p1]) (rest := []) C (Or.inl rfl) (fun _ => rfl) hout (Nat.le_of_ble_eq_true rfl) (Nat.le_of_ble_eq_true rfl) (c_X3_needRow hN hl9 (show kd 2 = 2 by decide) eo2) wk_5_0 wk_5_1 wk_1_1 wk_5_2 hd_X3_needRow ⟨(Nat.le_of_ble_eq_true rfl), (Nat.le_of_ble_eq_true rfl)⟩ (Nat.le_of_ble_eq_true rfl) ⟨(Nat.le_of_ble_eq_true rfl), (Nat.le_of_ble_eq_true rfl)⟩ dX3_coming_8 rfl rfl (fun h9 => absurd h9 c4)
abbrev rm_X3_balance : Room := { frames := 7, cells := 1, slots := 6, locals := 111 }
def F_X3_balance (p1 : Int32) (μ : Mm) : Option (Nat × Int64) :=
  (F_X3_needRow 6 p1 μ).bind fun o2 =>
  if o2 = 0 then ((F_X1_balanceOf 1 p1 μ).bind fun o7 =>
  some (0, o7))
  else some (o2, 0)
set_option maxHeartbeats 4000000 in
set_option maxRecDepth 100000 in
theorem c_X3_balance {l : Launch} {E : Ev} (hN : 295 ≤ eN E) (hl9 : l.stackTraces = false) {p1 : Int32} {μ : Mm} {ec : Nat} {r : Int64} (z0 : F_X3_balance p1 μ = some (ec, r)) : Cx l E yX3_balance (Cond.code yX3_balance cX3_balance 2 (some .long) :: GW) rm_X3_balance [.ref (eB E + 0), .int p1] μ ec (some (.long r)) μ := by
  refine cx_of (by decide) (Nat.le_of_ble_eq_true rfl) (fun p e s m args below meth c C hr hout => ?_)
  have C : Cq E p s m args meth c cX3_balance 2 RX3 := C
  refine gq_lv (lv' := [(0, .ref (eB E + 0)), (1, .int p1)]) rfl ?_
  unfold F_X3_balance at z0
  refine gq_aload_n C dX3_balance_0 rfl 0 rfl ?_
  refine gq_get0 C (qn_l 0 (by decide) hN) (by decide) 0 (by decide) wk_1_227 rfl dX3_balance_1 ?_
  refine gq_get1N C (qn_l 1 (by decide) hN) (by decide) 4 (by decide) wk_1_72 rfl dX3_balance_4 ?_
  refine gq_iload_n C dX3_balance_7 rfl 1 rfl ?_
  obtain ⟨x3, eo2, z1⟩ := bind_ex z0
  rcases ite_ex z1 with ⟨c4, z5⟩ | ⟨c4, z5⟩
  · refine gx_S (As := [.ref (eB E + 6), .int p1]) (rest := []) C (μF := μ) (oF := none) (mcF := 1000000) (msF := 1000000) (Or.inr c4) (fun h9 => absurd c4 h9) hout (Nat.le_of_ble_eq_true rfl) (Nat.le_of_ble_eq_true rfl) (c_X3_needRow hN hl9 (show kd 6 = 2 by decide) eo2) wk_5_0 wk_5_1 wk_1_1 wk_5_2 hd_X3_needRow ⟨(Nat.le_of_ble_eq_true rfl), (Nat.le_of_ble_eq_true rfl)⟩ (Nat.le_of_ble_eq_true rfl) ⟨(Nat.le_of_ble_eq_true rfl), (Nat.le_of_ble_eq_true rfl)⟩ dX3_balance_8 rfl rfl (fun _ => ?_)
    refine gq_aload_n C dX3_balance_11 rfl 0 rfl ?_
    refine gq_get0 C (qn_l 0 (by decide) hN) (by decide) 0 (by decide) wk_1_227 rfl dX3_balance_12 ?_
    refine gq_iload_n C dX3_balance_15 rfl 1 rfl ?_
    obtain ⟨x8, eo7, z6⟩ := bind_ex z5
    refine gq_V (As := [.int p1]) (rest := []) (j := 1) C (c_X1_balanceOf hN (show kd 1 = 1 by decide) eo7) (qn_l 1 (by decide) hN) (by decide) (by decide) rfl wk_2_109 wk_2_110 wk_2_111 wk_1_2 wk_2_112 hd_X1_balanceOf ⟨(Nat.le_of_ble_eq_true rfl), (Nat.le_of_ble_eq_true rfl)⟩ (Nat.le_of_ble_eq_true rfl) ⟨(Nat.le_of_ble_eq_true rfl), (Nat.le_of_ble_eq_true rfl)⟩ dX3_balance_16 rfl rfl ?_
    cases z6
    exact gx_ret (gq_lret C hr dX3_balance_19 (Nat.le_of_ble_eq_true rfl) (Nat.le_of_ble_eq_true rfl))
  · cases z5
    refine gx_S (As := [.ref (eB E + 6), .int p1]) (rest := []) C (Or.inl rfl) (fun _ => rfl) hout (Nat.le_of_ble_eq_true rfl) (Nat.le_of_ble_eq_true rfl) (c_X3_needRow hN hl9 (show kd 6 = 2 by decide) eo2) wk_5_0 wk_5_1 wk_1_1 wk_5_2 hd_X3_needRow ⟨(Nat.le_of_ble_eq_true rfl), (Nat.le_of_ble_eq_true rfl)⟩ (Nat.le_of_ble_eq_true rfl) ⟨(Nat.le_of_ble_eq_true rfl), (Nat.le_of_ble_eq_true rfl)⟩ dX3_balance_8 rfl rfl (fun h9 => absurd h9 c4)
abbrev rm_X3_bank : Room := { frames := 7, cells := 1, slots := 6, locals := 111 }
def F_X3_bank (p1 : Int32) (μ : Mm) : Option (Nat × Int32) :=
  (F_X3_needRow 6 p1 μ).bind fun o2 =>
  if o2 = 0 then ((F_X2_get 6 p1 (0 : Int32) μ).bind fun o7 =>
  some (0, o7))
  else some (o2, 0)
set_option maxHeartbeats 4000000 in
set_option maxRecDepth 100000 in
theorem c_X3_bank {l : Launch} {E : Ev} (hN : 295 ≤ eN E) (hl9 : l.stackTraces = false) {p1 : Int32} {μ : Mm} {ec : Nat} {r : Int32} (z0 : F_X3_bank p1 μ = some (ec, r)) : Cx l E yX3_bank (Cond.code yX3_bank cX3_bank 2 (some .int) :: GW) rm_X3_bank [.ref (eB E + 0), .int p1] μ ec (some (.int r)) μ := by
  refine cx_of (by decide) (Nat.le_of_ble_eq_true rfl) (fun p e s m args below meth c C hr hout => ?_)
  have C : Cq E p s m args meth c cX3_bank 2 RX3 := C
  refine gq_lv (lv' := [(0, .ref (eB E + 0)), (1, .int p1)]) rfl ?_
  unfold F_X3_bank at z0
  refine gq_aload_n C dX3_bank_0 rfl 0 rfl ?_
  refine gq_get0 C (qn_l 0 (by decide) hN) (by decide) 0 (by decide) wk_1_227 rfl dX3_bank_1 ?_
  refine gq_get1N C (qn_l 1 (by decide) hN) (by decide) 4 (by decide) wk_1_72 rfl dX3_bank_4 ?_
  refine gq_iload_n C dX3_bank_7 rfl 1 rfl ?_
  obtain ⟨x3, eo2, z1⟩ := bind_ex z0
  rcases ite_ex z1 with ⟨c4, z5⟩ | ⟨c4, z5⟩
  · refine gx_S (As := [.ref (eB E + 6), .int p1]) (rest := []) C (μF := μ) (oF := none) (mcF := 1000000) (msF := 1000000) (Or.inr c4) (fun h9 => absurd c4 h9) hout (Nat.le_of_ble_eq_true rfl) (Nat.le_of_ble_eq_true rfl) (c_X3_needRow hN hl9 (show kd 6 = 2 by decide) eo2) wk_5_0 wk_5_1 wk_1_1 wk_5_2 hd_X3_needRow ⟨(Nat.le_of_ble_eq_true rfl), (Nat.le_of_ble_eq_true rfl)⟩ (Nat.le_of_ble_eq_true rfl) ⟨(Nat.le_of_ble_eq_true rfl), (Nat.le_of_ble_eq_true rfl)⟩ dX3_bank_8 rfl rfl (fun _ => ?_)
    refine gq_aload_n C dX3_bank_11 rfl 0 rfl ?_
    refine gq_get0 C (qn_l 0 (by decide) hN) (by decide) 0 (by decide) wk_1_227 rfl dX3_bank_12 ?_
    refine gq_get1N C (qn_l 1 (by decide) hN) (by decide) 4 (by decide) wk_1_72 rfl dX3_bank_15 ?_
    refine gq_iload_n C dX3_bank_18 rfl 1 rfl ?_
    refine gq_iconst (v := 0) C dX3_bank_19 (by decide) ?_
    obtain ⟨x8, eo7, z6⟩ := bind_ex z5
    refine gq_V (As := [.int p1, .int (0 : Int32)]) (rest := []) (j := 2) C (c_X2_get hN (show kd 6 = 2 by decide) eo7) (qn_l 6 (by decide) hN) (by decide) (by decide) rfl wk_2_67 wk_2_60 wk_2_61 wk_1_3 wk_2_62 hd_X2_get ⟨(Nat.le_of_ble_eq_true rfl), (Nat.le_of_ble_eq_true rfl)⟩ (Nat.le_of_ble_eq_true rfl) ⟨(Nat.le_of_ble_eq_true rfl), (Nat.le_of_ble_eq_true rfl)⟩ dX3_bank_20 rfl rfl ?_
    cases z6
    exact gx_ret (gq_iret C hr dX3_bank_23 (Nat.le_of_ble_eq_true rfl) (Nat.le_of_ble_eq_true rfl))
  · cases z5
    refine gx_S (As := [.ref (eB E + 6), .int p1]) (rest := []) C (Or.inl rfl) (fun _ => rfl) hout (Nat.le_of_ble_eq_true rfl) (Nat.le_of_ble_eq_true rfl) (c_X3_needRow hN hl9 (show kd 6 = 2 by decide) eo2) wk_5_0 wk_5_1 wk_1_1 wk_5_2 hd_X3_needRow ⟨(Nat.le_of_ble_eq_true rfl), (Nat.le_of_ble_eq_true rfl)⟩ (Nat.le_of_ble_eq_true rfl) ⟨(Nat.le_of_ble_eq_true rfl), (Nat.le_of_ble_eq_true rfl)⟩ dX3_bank_8 rfl rfl (fun h9 => absurd h9 c4)
abbrev rm_X3_right : Room := { frames := 7, cells := 2, slots := 12, locals := 111 }
def F_X3_right (p1 : Int32) (p2 : Int32) (μ : Mm) : Option (Nat × Int32) :=
  (F_X3_needRow 9 p1 μ).bind fun o2 =>
  if o2 = 0 then ((F_X3_needWhat p2 (10 : Int32) μ).bind fun o7 =>
  if o7 = 0 then ((F_X2_get 9 p1 p2 μ).bind fun o12 =>
  some (0, o12))
  else some (o7, 0))
  else some (o2, 0)
set_option maxHeartbeats 4000000 in
set_option maxRecDepth 100000 in
theorem c_X3_right {l : Launch} {E : Ev} (hN : 295 ≤ eN E) (hl9 : l.stackTraces = false) {p1 : Int32} {p2 : Int32} {μ : Mm} {ec : Nat} {r : Int32} (z0 : F_X3_right p1 p2 μ = some (ec, r)) : Cx l E yX3_right (Cond.code yX3_right cX3_right 3 (some .int) :: GW) rm_X3_right [.ref (eB E + 0), .int p1, .int p2] μ ec (some (.int r)) μ := by
  refine cx_of (by decide) (Nat.le_of_ble_eq_true rfl) (fun p e s m args below meth c C hr hout => ?_)
  have C : Cq E p s m args meth c cX3_right 3 RX3 := C
  refine gq_lv (lv' := [(0, .ref (eB E + 0)), (1, .int p1), (2, .int p2)]) rfl ?_
  unfold F_X3_right at z0
  refine gq_aload_n C dX3_right_0 rfl 0 rfl ?_
  refine gq_get0 C (qn_l 0 (by decide) hN) (by decide) 0 (by decide) wk_1_227 rfl dX3_right_1 ?_
  refine gq_get1N C (qn_l 1 (by decide) hN) (by decide) 6 (by decide) wk_1_76 rfl dX3_right_4 ?_
  refine gq_iload_n C dX3_right_7 rfl 1 rfl ?_
  obtain ⟨x3, eo2, z1⟩ := bind_ex z0
  rcases ite_ex z1 with ⟨c4, z5⟩ | ⟨c4, z5⟩
  · refine gx_S (As := [.ref (eB E + 9), .int p1]) (rest := []) C (μF := μ) (oF := none) (mcF := 1000000) (msF := 1000000) (Or.inr c4) (fun h9 => absurd c4 h9) hout (Nat.le_of_ble_eq_true rfl) (Nat.le_of_ble_eq_true rfl) (c_X3_needRow hN hl9 (show kd 9 = 2 by decide) eo2) wk_5_0 wk_5_1 wk_1_1 wk_5_2 hd_X3_needRow ⟨(Nat.le_of_ble_eq_true rfl), (Nat.le_of_ble_eq_true rfl)⟩ (Nat.le_of_ble_eq_true rfl) ⟨(Nat.le_of_ble_eq_true rfl), (Nat.le_of_ble_eq_true rfl)⟩ dX3_right_8 rfl rfl (fun _ => ?_)
    refine gq_iload_n C dX3_right_11 rfl 2 rfl ?_
    refine gq_bipush (v := 10) C dX3_right_12 (by decide) ?_
    obtain ⟨x8, eo7, z6⟩ := bind_ex z5
    rcases ite_ex z6 with ⟨c9, z10⟩ | ⟨c9, z10⟩
    · refine gx_S (As := [.int p2, .int (10 : Int32)]) (rest := []) C (μF := μ) (oF := none) (mcF := 1000000) (msF := 1000000) (Or.inr c9) (fun h9 => absurd c9 h9) hout (Nat.le_of_ble_eq_true rfl) (Nat.le_of_ble_eq_true rfl) (c_X3_needWhat hN hl9  eo7) wk_4_215 wk_4_216 wk_1_1 wk_4_217 hd_X3_needWhat ⟨(Nat.le_of_ble_eq_true rfl), (Nat.le_of_ble_eq_true rfl)⟩ (Nat.le_of_ble_eq_true rfl) ⟨(Nat.le_of_ble_eq_true rfl), (Nat.le_of_ble_eq_true rfl)⟩ dX3_right_14 rfl rfl (fun _ => ?_)
      refine gq_aload_n C dX3_right_17 rfl 0 rfl ?_
      refine gq_get0 C (qn_l 0 (by decide) hN) (by decide) 0 (by decide) wk_1_227 rfl dX3_right_18 ?_
      refine gq_get1N C (qn_l 1 (by decide) hN) (by decide) 6 (by decide) wk_1_76 rfl dX3_right_21 ?_
      refine gq_iload_n C dX3_right_24 rfl 1 rfl ?_
      refine gq_iload_n C dX3_right_25 rfl 2 rfl ?_
      obtain ⟨x13, eo12, z11⟩ := bind_ex z10
      refine gq_V (As := [.int p1, .int p2]) (rest := []) (j := 2) C (c_X2_get hN (show kd 9 = 2 by decide) eo12) (qn_l 9 (by decide) hN) (by decide) (by decide) rfl wk_2_67 wk_2_60 wk_2_61 wk_1_3 wk_2_62 hd_X2_get ⟨(Nat.le_of_ble_eq_true rfl), (Nat.le_of_ble_eq_true rfl)⟩ (Nat.le_of_ble_eq_true rfl) ⟨(Nat.le_of_ble_eq_true rfl), (Nat.le_of_ble_eq_true rfl)⟩ dX3_right_26 rfl rfl ?_
      cases z11
      exact gx_ret (gq_iret C hr dX3_right_29 (Nat.le_of_ble_eq_true rfl) (Nat.le_of_ble_eq_true rfl))
    · cases z10
      refine gx_S (As := [.int p2, .int (10 : Int32)]) (rest := []) C (Or.inl rfl) (fun _ => rfl) hout (Nat.le_of_ble_eq_true rfl) (Nat.le_of_ble_eq_true rfl) (c_X3_needWhat hN hl9  eo7) wk_4_215 wk_4_216 wk_1_1 wk_4_217 hd_X3_needWhat ⟨(Nat.le_of_ble_eq_true rfl), (Nat.le_of_ble_eq_true rfl)⟩ (Nat.le_of_ble_eq_true rfl) ⟨(Nat.le_of_ble_eq_true rfl), (Nat.le_of_ble_eq_true rfl)⟩ dX3_right_14 rfl rfl (fun h9 => absurd h9 c9)
  · cases z5
    refine gx_S (As := [.ref (eB E + 9), .int p1]) (rest := []) C (Or.inl rfl) (fun _ => rfl) hout (Nat.le_of_ble_eq_true rfl) (Nat.le_of_ble_eq_true rfl) (c_X3_needRow hN hl9 (show kd 9 = 2 by decide) eo2) wk_5_0 wk_5_1 wk_1_1 wk_5_2 hd_X3_needRow ⟨(Nat.le_of_ble_eq_true rfl), (Nat.le_of_ble_eq_true rfl)⟩ (Nat.le_of_ble_eq_true rfl) ⟨(Nat.le_of_ble_eq_true rfl), (Nat.le_of_ble_eq_true rfl)⟩ dX3_right_8 rfl rfl (fun h9 => absurd h9 c4)
abbrev rm_X3_bySeniority : Room := { frames := 2, cells := 0, slots := 0, locals := 42 }
def F_X3_bySeniority (p1 : Int32) (μ : Mm) : Option Int32 :=
  (F_X1_rightAtRank 1 p1 μ).bind fun o2 =>
  some o2
set_option maxHeartbeats 4000000 in
set_option maxRecDepth 100000 in
theorem c_X3_bySeniority {l : Launch} {E : Ev} (hN : 295 ≤ eN E) {p1 : Int32} {μ : Mm} {r : Int32} (z0 : F_X3_bySeniority p1 μ = some r) : Ct l E yX3_bySeniority (Cond.code yX3_bySeniority cX3_bySeniority 2 (some .int) :: GW) rm_X3_bySeniority [.ref (eB E + 0), .int p1] μ (some (.int r)) μ := by
  refine ct_of (by decide) (Nat.le_of_ble_eq_true rfl) (fun p e s m args below meth c C hr => ?_)
  have C : Cq E p s m args meth c cX3_bySeniority 2 RX3 := C
  refine gq_lv (lv' := [(0, .ref (eB E + 0)), (1, .int p1)]) rfl ?_
  unfold F_X3_bySeniority at z0
  refine gq_aload_n C dX3_bySeniority_0 rfl 0 rfl ?_
  refine gq_get0 C (qn_l 0 (by decide) hN) (by decide) 0 (by decide) wk_1_227 rfl dX3_bySeniority_1 ?_
  refine gq_iload_n C dX3_bySeniority_4 rfl 1 rfl ?_
  obtain ⟨x3, eo2, z1⟩ := bind_ex z0
  refine gq_V (As := [.int p1]) (rest := []) (j := 1) C (c_X1_rightAtRank hN (show kd 1 = 1 by decide) eo2) (qn_l 1 (by decide) hN) (by decide) (by decide) rfl wk_2_39 wk_2_40 wk_2_41 wk_1_2 wk_2_42 hd_X1_rightAtRank ⟨(Nat.le_of_ble_eq_true rfl), (Nat.le_of_ble_eq_true rfl)⟩ (Nat.le_of_ble_eq_true rfl) ⟨(Nat.le_of_ble_eq_true rfl), (Nat.le_of_ble_eq_true rfl)⟩ dX3_bySeniority_5 rfl rfl ?_
  cases z1
  exact gq_iret C hr dX3_bySeniority_8 (Nat.le_of_ble_eq_true rfl) (Nat.le_of_ble_eq_true rfl)
abbrev rm_X3_leaseField : Room := { frames := 7, cells := 2, slots := 12, locals := 111 }
def F_X3_leaseField (p1 : Int32) (p2 : Int32) (μ : Mm) : Option (Nat × Int32) :=
  (F_X3_needRow 13 p1 μ).bind fun o2 =>
  if o2 = 0 then ((F_X3_needWhat p2 (6 : Int32) μ).bind fun o7 =>
  if o7 = 0 then ((F_X2_get 13 p1 p2 μ).bind fun o12 =>
  some (0, o12))
  else some (o7, 0))
  else some (o2, 0)
set_option maxHeartbeats 4000000 in
set_option maxRecDepth 100000 in
theorem c_X3_leaseField {l : Launch} {E : Ev} (hN : 295 ≤ eN E) (hl9 : l.stackTraces = false) {p1 : Int32} {p2 : Int32} {μ : Mm} {ec : Nat} {r : Int32} (z0 : F_X3_leaseField p1 p2 μ = some (ec, r)) : Cx l E yX3_leaseField (Cond.code yX3_leaseField cX3_leaseField 3 (some .int) :: GW) rm_X3_leaseField [.ref (eB E + 0), .int p1, .int p2] μ ec (some (.int r)) μ := by
  refine cx_of (by decide) (Nat.le_of_ble_eq_true rfl) (fun p e s m args below meth c C hr hout => ?_)
  have C : Cq E p s m args meth c cX3_leaseField 3 RX3 := C
  refine gq_lv (lv' := [(0, .ref (eB E + 0)), (1, .int p1), (2, .int p2)]) rfl ?_
  unfold F_X3_leaseField at z0
  refine gq_aload_n C dX3_leaseField_0 rfl 0 rfl ?_
  refine gq_get0 C (qn_l 0 (by decide) hN) (by decide) 0 (by decide) wk_1_227 rfl dX3_leaseField_1 ?_
  refine gq_get1N C (qn_l 1 (by decide) hN) (by decide) 9 (by decide) wk_1_81 rfl dX3_leaseField_4 ?_
  refine gq_iload_n C dX3_leaseField_7 rfl 1 rfl ?_
  obtain ⟨x3, eo2, z1⟩ := bind_ex z0
  rcases ite_ex z1 with ⟨c4, z5⟩ | ⟨c4, z5⟩
  · refine gx_S (As := [.ref (eB E + 13), .int p1]) (rest := []) C (μF := μ) (oF := none) (mcF := 1000000) (msF := 1000000) (Or.inr c4) (fun h9 => absurd c4 h9) hout (Nat.le_of_ble_eq_true rfl) (Nat.le_of_ble_eq_true rfl) (c_X3_needRow hN hl9 (show kd 13 = 2 by decide) eo2) wk_5_0 wk_5_1 wk_1_1 wk_5_2 hd_X3_needRow ⟨(Nat.le_of_ble_eq_true rfl), (Nat.le_of_ble_eq_true rfl)⟩ (Nat.le_of_ble_eq_true rfl) ⟨(Nat.le_of_ble_eq_true rfl), (Nat.le_of_ble_eq_true rfl)⟩ dX3_leaseField_8 rfl rfl (fun _ => ?_)
    refine gq_iload_n C dX3_leaseField_11 rfl 2 rfl ?_
    refine gq_bipush (v := 6) C dX3_leaseField_12 (by decide) ?_
    obtain ⟨x8, eo7, z6⟩ := bind_ex z5
    rcases ite_ex z6 with ⟨c9, z10⟩ | ⟨c9, z10⟩
    · refine gx_S (As := [.int p2, .int (6 : Int32)]) (rest := []) C (μF := μ) (oF := none) (mcF := 1000000) (msF := 1000000) (Or.inr c9) (fun h9 => absurd c9 h9) hout (Nat.le_of_ble_eq_true rfl) (Nat.le_of_ble_eq_true rfl) (c_X3_needWhat hN hl9  eo7) wk_4_215 wk_4_216 wk_1_1 wk_4_217 hd_X3_needWhat ⟨(Nat.le_of_ble_eq_true rfl), (Nat.le_of_ble_eq_true rfl)⟩ (Nat.le_of_ble_eq_true rfl) ⟨(Nat.le_of_ble_eq_true rfl), (Nat.le_of_ble_eq_true rfl)⟩ dX3_leaseField_14 rfl rfl (fun _ => ?_)
      refine gq_aload_n C dX3_leaseField_17 rfl 0 rfl ?_
      refine gq_get0 C (qn_l 0 (by decide) hN) (by decide) 0 (by decide) wk_1_227 rfl dX3_leaseField_18 ?_
      refine gq_get1N C (qn_l 1 (by decide) hN) (by decide) 9 (by decide) wk_1_81 rfl dX3_leaseField_21 ?_
      refine gq_iload_n C dX3_leaseField_24 rfl 1 rfl ?_
      refine gq_iload_n C dX3_leaseField_25 rfl 2 rfl ?_
      obtain ⟨x13, eo12, z11⟩ := bind_ex z10
      refine gq_V (As := [.int p1, .int p2]) (rest := []) (j := 2) C (c_X2_get hN (show kd 13 = 2 by decide) eo12) (qn_l 13 (by decide) hN) (by decide) (by decide) rfl wk_2_67 wk_2_60 wk_2_61 wk_1_3 wk_2_62 hd_X2_get ⟨(Nat.le_of_ble_eq_true rfl), (Nat.le_of_ble_eq_true rfl)⟩ (Nat.le_of_ble_eq_true rfl) ⟨(Nat.le_of_ble_eq_true rfl), (Nat.le_of_ble_eq_true rfl)⟩ dX3_leaseField_26 rfl rfl ?_
      cases z11
      exact gx_ret (gq_iret C hr dX3_leaseField_29 (Nat.le_of_ble_eq_true rfl) (Nat.le_of_ble_eq_true rfl))
    · cases z10
      refine gx_S (As := [.int p2, .int (6 : Int32)]) (rest := []) C (Or.inl rfl) (fun _ => rfl) hout (Nat.le_of_ble_eq_true rfl) (Nat.le_of_ble_eq_true rfl) (c_X3_needWhat hN hl9  eo7) wk_4_215 wk_4_216 wk_1_1 wk_4_217 hd_X3_needWhat ⟨(Nat.le_of_ble_eq_true rfl), (Nat.le_of_ble_eq_true rfl)⟩ (Nat.le_of_ble_eq_true rfl) ⟨(Nat.le_of_ble_eq_true rfl), (Nat.le_of_ble_eq_true rfl)⟩ dX3_leaseField_14 rfl rfl (fun h9 => absurd h9 c9)
  · cases z5
    refine gx_S (As := [.ref (eB E + 13), .int p1]) (rest := []) C (Or.inl rfl) (fun _ => rfl) hout (Nat.le_of_ble_eq_true rfl) (Nat.le_of_ble_eq_true rfl) (c_X3_needRow hN hl9 (show kd 13 = 2 by decide) eo2) wk_5_0 wk_5_1 wk_1_1 wk_5_2 hd_X3_needRow ⟨(Nat.le_of_ble_eq_true rfl), (Nat.le_of_ble_eq_true rfl)⟩ (Nat.le_of_ble_eq_true rfl) ⟨(Nat.le_of_ble_eq_true rfl), (Nat.le_of_ble_eq_true rfl)⟩ dX3_leaseField_8 rfl rfl (fun h9 => absurd h9 c4)
abbrev rm_X3_optionField : Room := { frames := 7, cells := 2, slots := 12, locals := 111 }
def F_X3_optionField (p1 : Int32) (p2 : Int32) (μ : Mm) : Option (Nat × Int32) :=
  (F_X3_needRow 15 p1 μ).bind fun o2 =>
  if o2 = 0 then ((F_X3_needWhat p2 (7 : Int32) μ).bind fun o7 =>
  if o7 = 0 then (if p2 = (6 : Int32) then
  ((F_X1_isExercised 1 p1 (μ.1 1 14) μ).bind fun o14 =>
  if o14 = 0 then
  (some (0, (0 : Int32)))
  else
  (some (0, (1 : Int32))))
  else
  ((F_X2_get 15 p1 p2 μ).bind fun o19 =>
  some (0, o19)))
  else some (o7, 0))
  else some (o2, 0)
set_option maxHeartbeats 4000000 in
set_option maxRecDepth 100000 in
theorem c_X3_optionField {l : Launch} {E : Ev} (hN : 295 ≤ eN E) (hl9 : l.stackTraces = false) {p1 : Int32} {p2 : Int32} {μ : Mm} {ec : Nat} {r : Int32} (z0 : F_X3_optionField p1 p2 μ = some (ec, r)) : Cx l E yX3_optionField (Cond.code yX3_optionField cX3_optionField 3 (some .int) :: GW) rm_X3_optionField [.ref (eB E + 0), .int p1, .int p2] μ ec (some (.int r)) μ := by
  refine cx_of (by decide) (Nat.le_of_ble_eq_true rfl) (fun p e s m args below meth c C hr hout => ?_)
  have C : Cq E p s m args meth c cX3_optionField 3 RX3 := C
  refine gq_lv (lv' := [(0, .ref (eB E + 0)), (1, .int p1), (2, .int p2)]) rfl ?_
  unfold F_X3_optionField at z0
  refine gq_aload_n C dX3_optionField_0 rfl 0 rfl ?_
  refine gq_get0 C (qn_l 0 (by decide) hN) (by decide) 0 (by decide) wk_1_227 rfl dX3_optionField_1 ?_
  refine gq_get1N C (qn_l 1 (by decide) hN) (by decide) 10 (by decide) wk_1_84 rfl dX3_optionField_4 ?_
  refine gq_iload_n C dX3_optionField_7 rfl 1 rfl ?_
  obtain ⟨x3, eo2, z1⟩ := bind_ex z0
  rcases ite_ex z1 with ⟨c4, z5⟩ | ⟨c4, z5⟩
  · refine gx_S (As := [.ref (eB E + 15), .int p1]) (rest := []) C (μF := μ) (oF := none) (mcF := 1000000) (msF := 1000000) (Or.inr c4) (fun h9 => absurd c4 h9) hout (Nat.le_of_ble_eq_true rfl) (Nat.le_of_ble_eq_true rfl) (c_X3_needRow hN hl9 (show kd 15 = 2 by decide) eo2) wk_5_0 wk_5_1 wk_1_1 wk_5_2 hd_X3_needRow ⟨(Nat.le_of_ble_eq_true rfl), (Nat.le_of_ble_eq_true rfl)⟩ (Nat.le_of_ble_eq_true rfl) ⟨(Nat.le_of_ble_eq_true rfl), (Nat.le_of_ble_eq_true rfl)⟩ dX3_optionField_8 rfl rfl (fun _ => ?_)
    refine gq_iload_n C dX3_optionField_11 rfl 2 rfl ?_
    refine gq_bipush (v := 7) C dX3_optionField_12 (by decide) ?_
    obtain ⟨x8, eo7, z6⟩ := bind_ex z5
    rcases ite_ex z6 with ⟨c9, z10⟩ | ⟨c9, z10⟩
    · refine gx_S (As := [.int p2, .int (7 : Int32)]) (rest := []) C (μF := μ) (oF := none) (mcF := 1000000) (msF := 1000000) (Or.inr c9) (fun h9 => absurd c9 h9) hout (Nat.le_of_ble_eq_true rfl) (Nat.le_of_ble_eq_true rfl) (c_X3_needWhat hN hl9  eo7) wk_4_215 wk_4_216 wk_1_1 wk_4_217 hd_X3_needWhat ⟨(Nat.le_of_ble_eq_true rfl), (Nat.le_of_ble_eq_true rfl)⟩ (Nat.le_of_ble_eq_true rfl) ⟨(Nat.le_of_ble_eq_true rfl), (Nat.le_of_ble_eq_true rfl)⟩ dX3_optionField_14 rfl rfl (fun _ => ?_)
      refine gq_iload_n C dX3_optionField_17 rfl 2 rfl ?_
      refine gq_bipush (v := 6) C dX3_optionField_18 (by decide) ?_
      rcases ite_ex z10 with ⟨c11, z12⟩ | ⟨c11, z12⟩
      · refine gq_icmp_ne_f (tgt := 47) C dX3_optionField_20 (by decide) c11 ?_
        refine gq_aload_n C dX3_optionField_23 rfl 0 rfl ?_
        refine gq_get0 C (qn_l 0 (by decide) hN) (by decide) 0 (by decide) wk_1_227 rfl dX3_optionField_24 ?_
        refine gq_iload_n C dX3_optionField_27 rfl 1 rfl ?_
        refine gq_aload_n C dX3_optionField_28 rfl 0 rfl ?_
        refine gq_get0 C (qn_l 0 (by decide) hN) (by decide) 0 (by decide) wk_1_227 rfl dX3_optionField_29 ?_
        refine gq_get1N C (qn_l 1 (by decide) hN) (by decide) 14 (by decide) wk_1_93 rfl dX3_optionField_32 ?_
        obtain ⟨x15, eo14, z13⟩ := bind_ex z12
        refine gq_V (As := [.int p1, .int (μ.1 1 14)]) (rest := []) (j := 1) C (c_X1_isExercised hN (show kd 1 = 1 by decide) eo14) (qn_l 1 (by decide) hN) (by decide) (by decide) rfl wk_2_121 wk_2_122 wk_2_123 wk_1_2 wk_2_124 hd_X1_isExercised ⟨(Nat.le_of_ble_eq_true rfl), (Nat.le_of_ble_eq_true rfl)⟩ (Nat.le_of_ble_eq_true rfl) ⟨(Nat.le_of_ble_eq_true rfl), (Nat.le_of_ble_eq_true rfl)⟩ dX3_optionField_35 rfl rfl ?_
        rcases ite_ex z13 with ⟨c16, z17⟩ | ⟨c16, z17⟩
        · refine gq_if_eq_t (tgt := 45) C dX3_optionField_38 (by decide) c16 ?_
          refine gq_iconst (v := 0) C dX3_optionField_45 (by decide) ?_
          cases z17
          exact gx_ret (gq_iret C hr dX3_optionField_46 (Nat.le_of_ble_eq_true rfl) (Nat.le_of_ble_eq_true rfl))
        · refine gq_if_eq_f (tgt := 45) C dX3_optionField_38 (by decide) c16 ?_
          refine gq_iconst (v := 1) C dX3_optionField_41 (by decide) ?_
          refine gq_goto (tgt := 46) C dX3_optionField_42 (by decide) ?_
          cases z17
          exact gx_ret (gq_iret C hr dX3_optionField_46 (Nat.le_of_ble_eq_true rfl) (Nat.le_of_ble_eq_true rfl))
      · refine gq_icmp_ne_t (tgt := 47) C dX3_optionField_20 (by decide) c11 ?_
        refine gq_aload_n C dX3_optionField_47 rfl 0 rfl ?_
        refine gq_get0 C (qn_l 0 (by decide) hN) (by decide) 0 (by decide) wk_1_227 rfl dX3_optionField_48 ?_
        refine gq_get1N C (qn_l 1 (by decide) hN) (by decide) 10 (by decide) wk_1_84 rfl dX3_optionField_51 ?_
        refine gq_iload_n C dX3_optionField_54 rfl 1 rfl ?_
        refine gq_iload_n C dX3_optionField_55 rfl 2 rfl ?_
        obtain ⟨x20, eo19, z18⟩ := bind_ex z12
        refine gq_V (As := [.int p1, .int p2]) (rest := []) (j := 2) C (c_X2_get hN (show kd 15 = 2 by decide) eo19) (qn_l 15 (by decide) hN) (by decide) (by decide) rfl wk_2_67 wk_2_60 wk_2_61 wk_1_3 wk_2_62 hd_X2_get ⟨(Nat.le_of_ble_eq_true rfl), (Nat.le_of_ble_eq_true rfl)⟩ (Nat.le_of_ble_eq_true rfl) ⟨(Nat.le_of_ble_eq_true rfl), (Nat.le_of_ble_eq_true rfl)⟩ dX3_optionField_56 rfl rfl ?_
        cases z18
        exact gx_ret (gq_iret C hr dX3_optionField_59 (Nat.le_of_ble_eq_true rfl) (Nat.le_of_ble_eq_true rfl))
    · cases z10
      refine gx_S (As := [.int p2, .int (7 : Int32)]) (rest := []) C (Or.inl rfl) (fun _ => rfl) hout (Nat.le_of_ble_eq_true rfl) (Nat.le_of_ble_eq_true rfl) (c_X3_needWhat hN hl9  eo7) wk_4_215 wk_4_216 wk_1_1 wk_4_217 hd_X3_needWhat ⟨(Nat.le_of_ble_eq_true rfl), (Nat.le_of_ble_eq_true rfl)⟩ (Nat.le_of_ble_eq_true rfl) ⟨(Nat.le_of_ble_eq_true rfl), (Nat.le_of_ble_eq_true rfl)⟩ dX3_optionField_14 rfl rfl (fun h9 => absurd h9 c9)
  · cases z5
    refine gx_S (As := [.ref (eB E + 15), .int p1]) (rest := []) C (Or.inl rfl) (fun _ => rfl) hout (Nat.le_of_ble_eq_true rfl) (Nat.le_of_ble_eq_true rfl) (c_X3_needRow hN hl9 (show kd 15 = 2 by decide) eo2) wk_5_0 wk_5_1 wk_1_1 wk_5_2 hd_X3_needRow ⟨(Nat.le_of_ble_eq_true rfl), (Nat.le_of_ble_eq_true rfl)⟩ (Nat.le_of_ble_eq_true rfl) ⟨(Nat.le_of_ble_eq_true rfl), (Nat.le_of_ble_eq_true rfl)⟩ dX3_optionField_8 rfl rfl (fun h9 => absurd h9 c4)
abbrev rm_X3_claims : Room := { frames := 0, cells := 0, slots := 0, locals := 0 }
def F_X3_claims  (μ : Mm) : Option Int32 :=
  some (μ.1 17 2)
set_option maxHeartbeats 4000000 in
set_option maxRecDepth 100000 in
theorem c_X3_claims {l : Launch} {E : Ev} (hN : 295 ≤ eN E) {μ : Mm} {r : Int32} (z0 : F_X3_claims  μ = some r) : Ct l E yX3_claims (Cond.code yX3_claims cX3_claims 1 (some .int) :: GW) rm_X3_claims [.ref (eB E + 0)] μ (some (.int r)) μ := by
  refine ct_of (by decide) (Nat.le_of_ble_eq_true rfl) (fun p e s m args below meth c C hr => ?_)
  have C : Cq E p s m args meth c cX3_claims 1 RX3 := C
  refine gq_lv (lv' := [(0, .ref (eB E + 0))]) rfl ?_
  unfold F_X3_claims at z0
  refine gq_aload_n C dX3_claims_0 rfl 0 rfl ?_
  refine gq_get0 C (qn_l 0 (by decide) hN) (by decide) 0 (by decide) wk_1_227 rfl dX3_claims_1 ?_
  refine gq_get1N C (qn_l 1 (by decide) hN) (by decide) 11 (by decide) wk_1_87 rfl dX3_claims_4 ?_
  refine gq_get2N C (qn_l 17 (by decide) hN) (by decide) 2 (by decide) wk_1_50 rfl dX3_claims_7 ?_
  cases z0
  exact gq_iret C hr dX3_claims_10 (Nat.le_of_ble_eq_true rfl) (Nat.le_of_ble_eq_true rfl)
abbrev rm_X3_claim : Room := { frames := 7, cells := 2, slots := 12, locals := 111 }
def F_X3_claim (p1 : Int32) (p2 : Int32) (μ : Mm) : Option (Nat × Int32) :=
  (F_X3_needRow 17 p1 μ).bind fun o2 =>
  if o2 = 0 then ((F_X3_needWhat p2 (8 : Int32) μ).bind fun o7 =>
  if o7 = 0 then ((F_X2_get 17 p1 p2 μ).bind fun o12 =>
  some (0, o12))
  else some (o7, 0))
  else some (o2, 0)
set_option maxHeartbeats 4000000 in
set_option maxRecDepth 100000 in
theorem c_X3_claim {l : Launch} {E : Ev} (hN : 295 ≤ eN E) (hl9 : l.stackTraces = false) {p1 : Int32} {p2 : Int32} {μ : Mm} {ec : Nat} {r : Int32} (z0 : F_X3_claim p1 p2 μ = some (ec, r)) : Cx l E yX3_claim (Cond.code yX3_claim cX3_claim 3 (some .int) :: GW) rm_X3_claim [.ref (eB E + 0), .int p1, .int p2] μ ec (some (.int r)) μ := by
  refine cx_of (by decide) (Nat.le_of_ble_eq_true rfl) (fun p e s m args below meth c C hr hout => ?_)
  have C : Cq E p s m args meth c cX3_claim 3 RX3 := C
  refine gq_lv (lv' := [(0, .ref (eB E + 0)), (1, .int p1), (2, .int p2)]) rfl ?_
  unfold F_X3_claim at z0
  refine gq_aload_n C dX3_claim_0 rfl 0 rfl ?_
  refine gq_get0 C (qn_l 0 (by decide) hN) (by decide) 0 (by decide) wk_1_227 rfl dX3_claim_1 ?_
  refine gq_get1N C (qn_l 1 (by decide) hN) (by decide) 11 (by decide) wk_1_87 rfl dX3_claim_4 ?_
  refine gq_iload_n C dX3_claim_7 rfl 1 rfl ?_
  obtain ⟨x3, eo2, z1⟩ := bind_ex z0
  rcases ite_ex z1 with ⟨c4, z5⟩ | ⟨c4, z5⟩
  · refine gx_S (As := [.ref (eB E + 17), .int p1]) (rest := []) C (μF := μ) (oF := none) (mcF := 1000000) (msF := 1000000) (Or.inr c4) (fun h9 => absurd c4 h9) hout (Nat.le_of_ble_eq_true rfl) (Nat.le_of_ble_eq_true rfl) (c_X3_needRow hN hl9 (show kd 17 = 2 by decide) eo2) wk_5_0 wk_5_1 wk_1_1 wk_5_2 hd_X3_needRow ⟨(Nat.le_of_ble_eq_true rfl), (Nat.le_of_ble_eq_true rfl)⟩ (Nat.le_of_ble_eq_true rfl) ⟨(Nat.le_of_ble_eq_true rfl), (Nat.le_of_ble_eq_true rfl)⟩ dX3_claim_8 rfl rfl (fun _ => ?_)
    refine gq_iload_n C dX3_claim_11 rfl 2 rfl ?_
    refine gq_bipush (v := 8) C dX3_claim_12 (by decide) ?_
    obtain ⟨x8, eo7, z6⟩ := bind_ex z5
    rcases ite_ex z6 with ⟨c9, z10⟩ | ⟨c9, z10⟩
    · refine gx_S (As := [.int p2, .int (8 : Int32)]) (rest := []) C (μF := μ) (oF := none) (mcF := 1000000) (msF := 1000000) (Or.inr c9) (fun h9 => absurd c9 h9) hout (Nat.le_of_ble_eq_true rfl) (Nat.le_of_ble_eq_true rfl) (c_X3_needWhat hN hl9  eo7) wk_4_215 wk_4_216 wk_1_1 wk_4_217 hd_X3_needWhat ⟨(Nat.le_of_ble_eq_true rfl), (Nat.le_of_ble_eq_true rfl)⟩ (Nat.le_of_ble_eq_true rfl) ⟨(Nat.le_of_ble_eq_true rfl), (Nat.le_of_ble_eq_true rfl)⟩ dX3_claim_14 rfl rfl (fun _ => ?_)
      refine gq_aload_n C dX3_claim_17 rfl 0 rfl ?_
      refine gq_get0 C (qn_l 0 (by decide) hN) (by decide) 0 (by decide) wk_1_227 rfl dX3_claim_18 ?_
      refine gq_get1N C (qn_l 1 (by decide) hN) (by decide) 11 (by decide) wk_1_87 rfl dX3_claim_21 ?_
      refine gq_iload_n C dX3_claim_24 rfl 1 rfl ?_
      refine gq_iload_n C dX3_claim_25 rfl 2 rfl ?_
      obtain ⟨x13, eo12, z11⟩ := bind_ex z10
      refine gq_V (As := [.int p1, .int p2]) (rest := []) (j := 2) C (c_X2_get hN (show kd 17 = 2 by decide) eo12) (qn_l 17 (by decide) hN) (by decide) (by decide) rfl wk_2_67 wk_2_60 wk_2_61 wk_1_3 wk_2_62 hd_X2_get ⟨(Nat.le_of_ble_eq_true rfl), (Nat.le_of_ble_eq_true rfl)⟩ (Nat.le_of_ble_eq_true rfl) ⟨(Nat.le_of_ble_eq_true rfl), (Nat.le_of_ble_eq_true rfl)⟩ dX3_claim_26 rfl rfl ?_
      cases z11
      exact gx_ret (gq_iret C hr dX3_claim_29 (Nat.le_of_ble_eq_true rfl) (Nat.le_of_ble_eq_true rfl))
    · cases z10
      refine gx_S (As := [.int p2, .int (8 : Int32)]) (rest := []) C (Or.inl rfl) (fun _ => rfl) hout (Nat.le_of_ble_eq_true rfl) (Nat.le_of_ble_eq_true rfl) (c_X3_needWhat hN hl9  eo7) wk_4_215 wk_4_216 wk_1_1 wk_4_217 hd_X3_needWhat ⟨(Nat.le_of_ble_eq_true rfl), (Nat.le_of_ble_eq_true rfl)⟩ (Nat.le_of_ble_eq_true rfl) ⟨(Nat.le_of_ble_eq_true rfl), (Nat.le_of_ble_eq_true rfl)⟩ dX3_claim_14 rfl rfl (fun h9 => absurd h9 c9)
  · cases z5
    refine gx_S (As := [.ref (eB E + 17), .int p1]) (rest := []) C (Or.inl rfl) (fun _ => rfl) hout (Nat.le_of_ble_eq_true rfl) (Nat.le_of_ble_eq_true rfl) (c_X3_needRow hN hl9 (show kd 17 = 2 by decide) eo2) wk_5_0 wk_5_1 wk_1_1 wk_5_2 hd_X3_needRow ⟨(Nat.le_of_ble_eq_true rfl), (Nat.le_of_ble_eq_true rfl)⟩ (Nat.le_of_ble_eq_true rfl) ⟨(Nat.le_of_ble_eq_true rfl), (Nat.le_of_ble_eq_true rfl)⟩ dX3_claim_8 rfl rfl (fun h9 => absurd h9 c4)
abbrev rm_X3_gauge : Room := { frames := 7, cells := 2, slots := 12, locals := 111 }
def F_X3_gauge (p1 : Int32) (p2 : Int32) (μ : Mm) : Option (Nat × Int32) :=
  (F_X3_needRow 2 p1 μ).bind fun o2 =>
  if o2 = 0 then ((F_X3_needWhat p2 (5 : Int32) μ).bind fun o7 =>
  if o7 = 0 then ((F_X2_get 19 p1 p2 μ).bind fun o12 =>
  some (0, o12))
  else some (o7, 0))
  else some (o2, 0)
set_option maxHeartbeats 4000000 in
set_option maxRecDepth 100000 in
theorem c_X3_gauge {l : Launch} {E : Ev} (hN : 295 ≤ eN E) (hl9 : l.stackTraces = false) {p1 : Int32} {p2 : Int32} {μ : Mm} {ec : Nat} {r : Int32} (z0 : F_X3_gauge p1 p2 μ = some (ec, r)) : Cx l E yX3_gauge (Cond.code yX3_gauge cX3_gauge 3 (some .int) :: GW) rm_X3_gauge [.ref (eB E + 0), .int p1, .int p2] μ ec (some (.int r)) μ := by
  refine cx_of (by decide) (Nat.le_of_ble_eq_true rfl) (fun p e s m args below meth c C hr hout => ?_)
  have C : Cq E p s m args meth c cX3_gauge 3 RX3 := C
  refine gq_lv (lv' := [(0, .ref (eB E + 0)), (1, .int p1), (2, .int p2)]) rfl ?_
  unfold F_X3_gauge at z0
  refine gq_aload_n C dX3_gauge_0 rfl 0 rfl ?_
  refine gq_get0 C (qn_l 0 (by decide) hN) (by decide) 0 (by decide) wk_1_227 rfl dX3_gauge_1 ?_
  refine gq_get1N C (qn_l 1 (by decide) hN) (by decide) 0 (by decide) wk_1_62 rfl dX3_gauge_4 ?_
  refine gq_iload_n C dX3_gauge_7 rfl 1 rfl ?_
  obtain ⟨x3, eo2, z1⟩ := bind_ex z0
  rcases ite_ex z1 with ⟨c4, z5⟩ | ⟨c4, z5⟩
  · refine gx_S (As := [.ref (eB E + 2), .int p1]) (rest := []) C (μF := μ) (oF := none) (mcF := 1000000) (msF := 1000000) (Or.inr c4) (fun h9 => absurd c4 h9) hout (Nat.le_of_ble_eq_true rfl) (Nat.le_of_ble_eq_true rfl) (c_X3_needRow hN hl9 (show kd 2 = 2 by decide) eo2) wk_5_0 wk_5_1 wk_1_1 wk_5_2 hd_X3_needRow ⟨(Nat.le_of_ble_eq_true rfl), (Nat.le_of_ble_eq_true rfl)⟩ (Nat.le_of_ble_eq_true rfl) ⟨(Nat.le_of_ble_eq_true rfl), (Nat.le_of_ble_eq_true rfl)⟩ dX3_gauge_8 rfl rfl (fun _ => ?_)
    refine gq_iload_n C dX3_gauge_11 rfl 2 rfl ?_
    refine gq_iconst (v := 5) C dX3_gauge_12 (by decide) ?_
    obtain ⟨x8, eo7, z6⟩ := bind_ex z5
    rcases ite_ex z6 with ⟨c9, z10⟩ | ⟨c9, z10⟩
    · refine gx_S (As := [.int p2, .int (5 : Int32)]) (rest := []) C (μF := μ) (oF := none) (mcF := 1000000) (msF := 1000000) (Or.inr c9) (fun h9 => absurd c9 h9) hout (Nat.le_of_ble_eq_true rfl) (Nat.le_of_ble_eq_true rfl) (c_X3_needWhat hN hl9  eo7) wk_4_215 wk_4_216 wk_1_1 wk_4_217 hd_X3_needWhat ⟨(Nat.le_of_ble_eq_true rfl), (Nat.le_of_ble_eq_true rfl)⟩ (Nat.le_of_ble_eq_true rfl) ⟨(Nat.le_of_ble_eq_true rfl), (Nat.le_of_ble_eq_true rfl)⟩ dX3_gauge_13 rfl rfl (fun _ => ?_)
      refine gq_aload_n C dX3_gauge_16 rfl 0 rfl ?_
      refine gq_get0 C (qn_l 0 (by decide) hN) (by decide) 0 (by decide) wk_1_227 rfl dX3_gauge_17 ?_
      refine gq_get1N C (qn_l 1 (by decide) hN) (by decide) 12 (by decide) wk_1_89 rfl dX3_gauge_20 ?_
      refine gq_iload_n C dX3_gauge_23 rfl 1 rfl ?_
      refine gq_iload_n C dX3_gauge_24 rfl 2 rfl ?_
      obtain ⟨x13, eo12, z11⟩ := bind_ex z10
      refine gq_V (As := [.int p1, .int p2]) (rest := []) (j := 2) C (c_X2_get hN (show kd 19 = 2 by decide) eo12) (qn_l 19 (by decide) hN) (by decide) (by decide) rfl wk_2_67 wk_2_60 wk_2_61 wk_1_3 wk_2_62 hd_X2_get ⟨(Nat.le_of_ble_eq_true rfl), (Nat.le_of_ble_eq_true rfl)⟩ (Nat.le_of_ble_eq_true rfl) ⟨(Nat.le_of_ble_eq_true rfl), (Nat.le_of_ble_eq_true rfl)⟩ dX3_gauge_25 rfl rfl ?_
      cases z11
      exact gx_ret (gq_iret C hr dX3_gauge_28 (Nat.le_of_ble_eq_true rfl) (Nat.le_of_ble_eq_true rfl))
    · cases z10
      refine gx_S (As := [.int p2, .int (5 : Int32)]) (rest := []) C (Or.inl rfl) (fun _ => rfl) hout (Nat.le_of_ble_eq_true rfl) (Nat.le_of_ble_eq_true rfl) (c_X3_needWhat hN hl9  eo7) wk_4_215 wk_4_216 wk_1_1 wk_4_217 hd_X3_needWhat ⟨(Nat.le_of_ble_eq_true rfl), (Nat.le_of_ble_eq_true rfl)⟩ (Nat.le_of_ble_eq_true rfl) ⟨(Nat.le_of_ble_eq_true rfl), (Nat.le_of_ble_eq_true rfl)⟩ dX3_gauge_13 rfl rfl (fun h9 => absurd h9 c9)
  · cases z5
    refine gx_S (As := [.ref (eB E + 2), .int p1]) (rest := []) C (Or.inl rfl) (fun _ => rfl) hout (Nat.le_of_ble_eq_true rfl) (Nat.le_of_ble_eq_true rfl) (c_X3_needRow hN hl9 (show kd 2 = 2 by decide) eo2) wk_5_0 wk_5_1 wk_1_1 wk_5_2 hd_X3_needRow ⟨(Nat.le_of_ble_eq_true rfl), (Nat.le_of_ble_eq_true rfl)⟩ (Nat.le_of_ble_eq_true rfl) ⟨(Nat.le_of_ble_eq_true rfl), (Nat.le_of_ble_eq_true rfl)⟩ dX3_gauge_8 rfl rfl (fun h9 => absurd h9 c4)
abbrev rm_X3_call : Room := { frames := 2, cells := 0, slots := 0, locals := 44 }
def F_X3_call  (μ : Mm) : Option Int32 :=
  (F_X1_monthField 1 (0 : Int32) (3 : Int32) μ).bind fun o2 =>
  some o2
set_option maxHeartbeats 4000000 in
set_option maxRecDepth 100000 in
theorem c_X3_call {l : Launch} {E : Ev} (hN : 295 ≤ eN E) {μ : Mm} {r : Int32} (z0 : F_X3_call  μ = some r) : Ct l E yX3_call (Cond.code yX3_call cX3_call 1 (some .int) :: GW) rm_X3_call [.ref (eB E + 0)] μ (some (.int r)) μ := by
  refine ct_of (by decide) (Nat.le_of_ble_eq_true rfl) (fun p e s m args below meth c C hr => ?_)
  have C : Cq E p s m args meth c cX3_call 1 RX3 := C
  refine gq_lv (lv' := [(0, .ref (eB E + 0))]) rfl ?_
  unfold F_X3_call at z0
  refine gq_aload_n C dX3_call_0 rfl 0 rfl ?_
  refine gq_get0 C (qn_l 0 (by decide) hN) (by decide) 0 (by decide) wk_1_227 rfl dX3_call_1 ?_
  refine gq_iconst (v := 0) C dX3_call_4 (by decide) ?_
  refine gq_iconst (v := 3) C dX3_call_5 (by decide) ?_
  obtain ⟨x3, eo2, z1⟩ := bind_ex z0
  refine gq_V (As := [.int (0 : Int32), .int (3 : Int32)]) (rest := []) (j := 1) C (c_X1_monthField hN (show kd 1 = 1 by decide) eo2) (qn_l 1 (by decide) hN) (by decide) (by decide) rfl wk_2_55 wk_2_56 wk_2_57 wk_1_2 wk_2_58 hd_X1_monthField ⟨(Nat.le_of_ble_eq_true rfl), (Nat.le_of_ble_eq_true rfl)⟩ (Nat.le_of_ble_eq_true rfl) ⟨(Nat.le_of_ble_eq_true rfl), (Nat.le_of_ble_eq_true rfl)⟩ dX3_call_6 rfl rfl ?_
  cases z1
  exact gq_iret C hr dX3_call_9 (Nat.le_of_ble_eq_true rfl) (Nat.le_of_ble_eq_true rfl)
abbrev rm_X3_dryGauges : Room := { frames := 1, cells := 0, slots := 0, locals := 22 }
def F_X3_dryGauges_4  (μ : Mm) : Nat → Int32 → Int32 → Option Int32
  | 0, _, _ => none
  | n + 1, v1, v2 =>
  if (μ.1 19 2) ≤ v2 then
  (some v1)
  else
  ((F_X2_get 19 v2 (2 : Int32) μ).bind fun o4 =>
  (F_X2_get 2 v2 (1 : Int32) μ).bind fun o7 =>
  (if o7 ≤ o4 then
  (some v1)
  else
  (some (v1 ||| ((1 : Int32) <<< (v2 &&& 31))))).bind fun o14 =>
  F_X3_dryGauges_4 μ n o14 (v2 + 1))
def F_X3_dryGauges  (μ : Mm) : Option Int32 :=
  (F_X3_dryGauges_4 μ qFuel (0 : Int32) (0 : Int32)).bind fun o16 =>
  some o16
set_option maxHeartbeats 4000000 in
set_option maxRecDepth 100000 in
theorem l_X3_dryGauges_4 {l : Launch} {E : Ev} (hN : 295 ≤ eN E) {p : Program} {e : Env} {s : State} {m : MethodId} {args : Array Value} {below : List Frame} {meth : Method} {c : Code} (C : Cq E p s m args meth c cX3_dryGauges 3 RX3) {Q : State → Prop} {μ : Mm} : ∀ (n : Nat) (v1 : Int32) (v2 : Int32) (w1 : Int32), F_X3_dryGauges_4 μ n v1 v2 = some w1 → Gq E p l e rm_X3_dryGauges s m args below meth c 0 0 3 Q 57 [(1, .int w1)] [] μ → Gq E p l e rm_X3_dryGauges s m args below meth c 0 0 3 Q 4 [(0, .ref (eB E + 0)), (1, .int v1), (2, .int v2)] [] μ := by
  intro n
  induction n with
  | zero =>
    intro v1 v2 w1 z0 kk
    rw [F_X3_dryGauges_4] at z0
    cases z0
  | succ n ih =>
    intro v1 v2 w1 z0 kk
    rw [F_X3_dryGauges_4] at z0
    refine gq_iload_n C dX3_dryGauges_4 rfl 2 rfl ?_
    refine gq_aload_n C dX3_dryGauges_5 rfl 0 rfl ?_
    refine gq_get0 C (qn_l 0 (by decide) hN) (by decide) 0 (by decide) wk_1_227 rfl dX3_dryGauges_6 ?_
    refine gq_get1N C (qn_l 1 (by decide) hN) (by decide) 12 (by decide) wk_1_89 rfl dX3_dryGauges_9 ?_
    refine gq_get2N C (qn_l 19 (by decide) hN) (by decide) 2 (by decide) wk_1_50 rfl dX3_dryGauges_12 ?_
    rcases ite_ex z0 with ⟨c1, z2⟩ | ⟨c1, z2⟩
    · refine gq_icmp_ge_t (tgt := 57) C dX3_dryGauges_15 (by decide) c1 ?_
      cases z2
      exact gq_widen (Nat.le_of_ble_eq_true rfl) (Nat.le_of_ble_eq_true rfl) (gq_sub [1] rfl kk)
    · refine gq_icmp_ge_f (tgt := 57) C dX3_dryGauges_15 (by decide) c1 ?_
      refine gq_aload_n C dX3_dryGauges_18 rfl 0 rfl ?_
      refine gq_get0 C (qn_l 0 (by decide) hN) (by decide) 0 (by decide) wk_1_227 rfl dX3_dryGauges_19 ?_
      refine gq_get1N C (qn_l 1 (by decide) hN) (by decide) 12 (by decide) wk_1_89 rfl dX3_dryGauges_22 ?_
      refine gq_iload_n C dX3_dryGauges_25 rfl 2 rfl ?_
      refine gq_iconst (v := 2) C dX3_dryGauges_26 (by decide) ?_
      obtain ⟨x5, eo4, z3⟩ := bind_ex z2
      refine gq_V (As := [.int v2, .int (2 : Int32)]) (rest := []) (j := 2) C (c_X2_get hN (show kd 19 = 2 by decide) eo4) (qn_l 19 (by decide) hN) (by decide) (by decide) rfl wk_2_67 wk_2_60 wk_2_61 wk_1_3 wk_2_62 hd_X2_get ⟨(Nat.le_of_ble_eq_true rfl), (Nat.le_of_ble_eq_true rfl)⟩ (Nat.le_of_ble_eq_true rfl) ⟨(Nat.le_of_ble_eq_true rfl), (Nat.le_of_ble_eq_true rfl)⟩ dX3_dryGauges_27 rfl rfl ?_
      refine gq_aload_n C dX3_dryGauges_30 rfl 0 rfl ?_
      refine gq_get0 C (qn_l 0 (by decide) hN) (by decide) 0 (by decide) wk_1_227 rfl dX3_dryGauges_31 ?_
      refine gq_get1N C (qn_l 1 (by decide) hN) (by decide) 0 (by decide) wk_1_62 rfl dX3_dryGauges_34 ?_
      refine gq_iload_n C dX3_dryGauges_37 rfl 2 rfl ?_
      refine gq_iconst (v := 1) C dX3_dryGauges_38 (by decide) ?_
      obtain ⟨x8, eo7, z6⟩ := bind_ex z3
      refine gq_V (As := [.int v2, .int (1 : Int32)]) (rest := [.int x5]) (j := 2) C (c_X2_get hN (show kd 2 = 2 by decide) eo7) (qn_l 2 (by decide) hN) (by decide) (by decide) rfl wk_2_67 wk_2_60 wk_2_61 wk_1_3 wk_2_62 hd_X2_get ⟨(Nat.le_of_ble_eq_true rfl), (Nat.le_of_ble_eq_true rfl)⟩ (Nat.le_of_ble_eq_true rfl) ⟨(Nat.le_of_ble_eq_true rfl), (Nat.le_of_ble_eq_true rfl)⟩ dX3_dryGauges_39 rfl rfl ?_
      obtain ⟨x9, z10, z11⟩ := bind_ex z6
      refine gq_join (k' := 0) (n' := 0) (pc' := 51) (lv' := [(0, .ref (eB E + 0)), (1, .int x9), (2, .int v2)]) (st' := []) (μ' := μ) ?_ (fun J51 => ?_)
      · refine gq_iinc (v := (v2 + 1)) (lv' := [(2, .int (v2 + 1)), (0, .ref (eB E + 0)), (1, .int x9)]) (q := 2) C dX3_dryGauges_51 rfl rfl (by decide) rfl ?_
        refine gq_goto (tgt := 4) C dX3_dryGauges_54 (by decide) ?_
        refine gq_widen (k' := 0) (n' := 0) (Nat.le_of_ble_eq_true rfl) (Nat.le_of_ble_eq_true rfl) (gq_sub [1, 2, 0] rfl ?_)
        exact ih _ _ _ z11 kk
      · rcases ite_ex z10 with ⟨c12, z13⟩ | ⟨c12, z13⟩
        · refine gq_icmp_ge_t (tgt := 51) C dX3_dryGauges_42 (by decide) c12 ?_
          cases z13
          exact gq_widen (Nat.le_of_ble_eq_true rfl) (Nat.le_of_ble_eq_true rfl) (gq_sub [0, 1, 2] rfl J51)
        · refine gq_icmp_ge_f (tgt := 51) C dX3_dryGauges_42 (by decide) c12 ?_
          refine gq_iload_n C dX3_dryGauges_45 rfl 1 rfl ?_
          refine gq_iconst (v := 1) C dX3_dryGauges_46 (by decide) ?_
          refine gq_iload_n C dX3_dryGauges_47 rfl 2 rfl ?_
          refine gq_ishl C dX3_dryGauges_48 ?_
          refine gq_ior C dX3_dryGauges_49 ?_
          refine gq_istore_n (lv' := [(1, .int (v1 ||| ((1 : Int32) <<< (v2 &&& 31)))), (0, .ref (eB E + 0)), (2, .int v2)]) C dX3_dryGauges_50 rfl (by decide) rfl ?_
          cases z13
          exact gq_widen (Nat.le_of_ble_eq_true rfl) (Nat.le_of_ble_eq_true rfl) (gq_sub [1, 0, 2] rfl J51)
set_option maxHeartbeats 4000000 in
set_option maxRecDepth 100000 in
theorem c_X3_dryGauges {l : Launch} {E : Ev} (hN : 295 ≤ eN E) {μ : Mm} {r : Int32} (z0 : F_X3_dryGauges  μ = some r) : Ct l E yX3_dryGauges (Cond.code yX3_dryGauges cX3_dryGauges 3 (some .int) :: GW) rm_X3_dryGauges [.ref (eB E + 0)] μ (some (.int r)) μ := by
  refine ct_of (by decide) (Nat.le_of_ble_eq_true rfl) (fun p e s m args below meth c C hr => ?_)
  have C : Cq E p s m args meth c cX3_dryGauges 3 RX3 := C
  refine gq_lv (lv' := [(0, .ref (eB E + 0))]) rfl ?_
  unfold F_X3_dryGauges at z0
  refine gq_iconst (v := 0) C dX3_dryGauges_0 (by decide) ?_
  refine gq_istore_n (lv' := [(1, .int (0 : Int32)), (0, .ref (eB E + 0))]) C dX3_dryGauges_1 rfl (by decide) rfl ?_
  refine gq_iconst (v := 0) C dX3_dryGauges_2 (by decide) ?_
  refine gq_istore_n (lv' := [(2, .int (0 : Int32)), (1, .int (0 : Int32)), (0, .ref (eB E + 0))]) C dX3_dryGauges_3 rfl (by decide) rfl ?_
  obtain ⟨x17, eo16, z15⟩ := bind_ex z0
  refine gq_widen (k' := 0) (n' := 0) (Nat.le_of_ble_eq_true rfl) (Nat.le_of_ble_eq_true rfl) (gq_sub [2, 1, 0] rfl ?_)
  refine l_X3_dryGauges_4 hN C  qFuel _ _ _ eo16 ?_
  refine gq_iload_n C dX3_dryGauges_57 rfl 0 rfl ?_
  cases z15
  exact gq_iret C hr dX3_dryGauges_58 (Nat.le_of_ble_eq_true rfl) (Nat.le_of_ble_eq_true rfl)
abbrev rm_X3_served : Room := { frames := 2, cells := 0, slots := 0, locals := 45 }
def F_X3_served  (μ : Mm) : Option UInt64 :=
  (F_X2_sumOf 17 (4 : Int32) μ).bind fun o2 =>
  if o2 = 0 then
  (some qd1)
  else
  ((F_X2_sumOf 17 (5 : Int32) μ).bind fun o7 =>
  (ddv (FP.i2d o7) (FP.i2d o2)).bind fun x9 => some x9)
set_option maxHeartbeats 4000000 in
set_option maxRecDepth 100000 in
theorem c_X3_served {l : Launch} {E : Ev} (hN : 295 ≤ eN E) {μ : Mm} {r : UInt64} (z0 : F_X3_served  μ = some r) : Ct l E yX3_served (Cond.code yX3_served cX3_served 2 (some .double) :: GW) rm_X3_served [.ref (eB E + 0)] μ (some (.double r)) μ := by
  refine ct_of (by decide) (Nat.le_of_ble_eq_true rfl) (fun p e s m args below meth c C hr => ?_)
  have C : Cq E p s m args meth c cX3_served 2 RX3 := C
  refine gq_lv (lv' := [(0, .ref (eB E + 0))]) rfl ?_
  unfold F_X3_served at z0
  refine gq_aload_n C dX3_served_0 rfl 0 rfl ?_
  refine gq_get0 C (qn_l 0 (by decide) hN) (by decide) 0 (by decide) wk_1_227 rfl dX3_served_1 ?_
  refine gq_get1N C (qn_l 1 (by decide) hN) (by decide) 11 (by decide) wk_1_87 rfl dX3_served_4 ?_
  refine gq_iconst (v := 4) C dX3_served_7 (by decide) ?_
  obtain ⟨x3, eo2, z1⟩ := bind_ex z0
  refine gq_V (As := [.int (4 : Int32)]) (rest := []) (j := 2) C (c_X2_sumOf hN (show kd 17 = 2 by decide) eo2) (qn_l 17 (by decide) hN) (by decide) (by decide) rfl wk_2_72 wk_2_73 wk_2_74 wk_1_3 wk_2_75 hd_X2_sumOf ⟨(Nat.le_of_ble_eq_true rfl), (Nat.le_of_ble_eq_true rfl)⟩ (Nat.le_of_ble_eq_true rfl) ⟨(Nat.le_of_ble_eq_true rfl), (Nat.le_of_ble_eq_true rfl)⟩ dX3_served_8 rfl rfl ?_
  refine gq_istore_n (lv' := [(1, .int x3), (0, .ref (eB E + 0))]) C dX3_served_11 rfl (by decide) rfl ?_
  refine gq_iload_n C dX3_served_12 rfl 0 rfl ?_
  rcases ite_ex z1 with ⟨c4, z5⟩ | ⟨c4, z5⟩
  · refine gq_if_ne_f (tgt := 18) C dX3_served_13 (by decide) c4 ?_
    refine gq_dconst1 C dX3_served_16 ?_
    cases z5
    exact gq_dret C hr dX3_served_17 (Nat.le_of_ble_eq_true rfl) (Nat.le_of_ble_eq_true rfl)
  · refine gq_if_ne_t (tgt := 18) C dX3_served_13 (by decide) c4 ?_
    refine gq_aload_n C dX3_served_18 rfl 1 rfl ?_
    refine gq_get0 C (qn_l 0 (by decide) hN) (by decide) 0 (by decide) wk_1_227 rfl dX3_served_19 ?_
    refine gq_get1N C (qn_l 1 (by decide) hN) (by decide) 11 (by decide) wk_1_87 rfl dX3_served_22 ?_
    refine gq_iconst (v := 5) C dX3_served_25 (by decide) ?_
    obtain ⟨x8, eo7, z6⟩ := bind_ex z5
    refine gq_V (As := [.int (5 : Int32)]) (rest := []) (j := 2) C (c_X2_sumOf hN (show kd 17 = 2 by decide) eo7) (qn_l 17 (by decide) hN) (by decide) (by decide) rfl wk_2_72 wk_2_73 wk_2_74 wk_1_3 wk_2_75 hd_X2_sumOf ⟨(Nat.le_of_ble_eq_true rfl), (Nat.le_of_ble_eq_true rfl)⟩ (Nat.le_of_ble_eq_true rfl) ⟨(Nat.le_of_ble_eq_true rfl), (Nat.le_of_ble_eq_true rfl)⟩ dX3_served_26 rfl rfl ?_
    refine gq_i2d C dX3_served_29 ?_
    refine gq_iload_n C dX3_served_30 rfl 0 rfl ?_
    refine gq_i2d C dX3_served_31 ?_
    obtain ⟨x9, ex9, z10⟩ := bind_ex z6
    obtain ⟨nx9, qx9⟩ := ifs_some ex9
    refine gq_ddivE C dX3_served_32 nx9 qx9 ?_
    cases z10
    exact gq_dret C hr dX3_served_33 (Nat.le_of_ble_eq_true rfl) (Nat.le_of_ble_eq_true rfl)
abbrev rm_X3_outflow : Room := { frames := 2, cells := 0, slots := 0, locals := 42 }
def F_X3_outflow  (μ : Mm) : Option Int32 :=
  (F_X1_outflowOfMonth 1 μ).bind fun o2 =>
  some o2
set_option maxHeartbeats 4000000 in
set_option maxRecDepth 100000 in
theorem c_X3_outflow {l : Launch} {E : Ev} (hN : 295 ≤ eN E) {μ : Mm} {r : Int32} (z0 : F_X3_outflow  μ = some r) : Ct l E yX3_outflow (Cond.code yX3_outflow cX3_outflow 1 (some .int) :: GW) rm_X3_outflow [.ref (eB E + 0)] μ (some (.int r)) μ := by
  refine ct_of (by decide) (Nat.le_of_ble_eq_true rfl) (fun p e s m args below meth c C hr => ?_)
  have C : Cq E p s m args meth c cX3_outflow 1 RX3 := C
  refine gq_lv (lv' := [(0, .ref (eB E + 0))]) rfl ?_
  unfold F_X3_outflow at z0
  refine gq_aload_n C dX3_outflow_0 rfl 0 rfl ?_
  refine gq_get0 C (qn_l 0 (by decide) hN) (by decide) 0 (by decide) wk_1_227 rfl dX3_outflow_1 ?_
  obtain ⟨x3, eo2, z1⟩ := bind_ex z0
  refine gq_V (As := []) (rest := []) (j := 1) C (c_X1_outflowOfMonth hN (show kd 1 = 1 by decide) eo2) (qn_l 1 (by decide) hN) (by decide) (by decide) rfl wk_2_81 wk_2_82 wk_2_83 wk_1_2 wk_2_84 hd_X1_outflowOfMonth ⟨(Nat.le_of_ble_eq_true rfl), (Nat.le_of_ble_eq_true rfl)⟩ (Nat.le_of_ble_eq_true rfl) ⟨(Nat.le_of_ble_eq_true rfl), (Nat.le_of_ble_eq_true rfl)⟩ dX3_outflow_4 rfl rfl ?_
  cases z1
  exact gq_iret C hr dX3_outflow_7 (Nat.le_of_ble_eq_true rfl) (Nat.le_of_ble_eq_true rfl)
abbrev rm_X3_isBalanced : Room := { frames := 1, cells := 0, slots := 0, locals := 22 }
def F_X3_isBalanced_4  (μ : Mm) : Nat → Int32 → Int32 → Option Int32
  | 0, _, _ => none
  | n + 1, v1, v2 =>
  if (μ.1 19 2) ≤ v2 then
  (some (1 : Int32))
  else
  ((F_X2_get 19 v2 (0 : Int32) μ).bind fun o4 =>
  (F_X2_get 19 v2 (3 : Int32) μ).bind fun o7 =>
  (F_X2_get 19 v2 (4 : Int32) μ).bind fun o10 =>
  (F_X2_get 19 v2 (2 : Int32) μ).bind fun o13 =>
  if (((v1 + o4) - o7) + o10) = o13 then
  (F_X3_isBalanced_4 μ n (((v1 + o4) - o7) + o10) (v2 + 1))
  else
  (some (0 : Int32)))
def F_X3_isBalanced  (μ : Mm) : Option Int32 :=
  F_X3_isBalanced_4 μ qFuel (0 : Int32) (0 : Int32)
set_option maxHeartbeats 4000000 in
set_option maxRecDepth 100000 in
theorem l_X3_isBalanced_4 {l : Launch} {E : Ev} (hN : 295 ≤ eN E) {p : Program} {e : Env} {s : State} {m : MethodId} {args : Array Value} {below : List Frame} {meth : Method} {c : Code} (C : Cq E p s m args meth c cX3_isBalanced 3 RX3) (hr : meth.sig.returnType = (some .boolean)) {μ : Mm} : ∀ (n : Nat) (v1 : Int32) (v2 : Int32) (r : Int32), F_X3_isBalanced_4 μ n v1 v2 = some r → Gq E p l e rm_X3_isBalanced s m args below meth c 0 0 3 (MQ below (qQ E (some (.int r)) μ) args s rm_X3_isBalanced.cells rm_X3_isBalanced.slots (eA E)) 4 [(0, .ref (eB E + 0)), (1, .int v1), (2, .int v2)] [] μ := by
  intro n
  induction n with
  | zero =>
    intro v1 v2 r z0
    rw [F_X3_isBalanced_4] at z0
    cases z0
  | succ n ih =>
    intro v1 v2 r z0
    rw [F_X3_isBalanced_4] at z0
    refine gq_iload_n C dX3_isBalanced_4 rfl 2 rfl ?_
    refine gq_aload_n C dX3_isBalanced_5 rfl 0 rfl ?_
    refine gq_get0 C (qn_l 0 (by decide) hN) (by decide) 0 (by decide) wk_1_227 rfl dX3_isBalanced_6 ?_
    refine gq_get1N C (qn_l 1 (by decide) hN) (by decide) 12 (by decide) wk_1_89 rfl dX3_isBalanced_9 ?_
    refine gq_get2N C (qn_l 19 (by decide) hN) (by decide) 2 (by decide) wk_1_50 rfl dX3_isBalanced_12 ?_
    rcases ite_ex z0 with ⟨c1, z2⟩ | ⟨c1, z2⟩
    · refine gq_icmp_ge_t (tgt := 87) C dX3_isBalanced_15 (by decide) c1 ?_
      refine gq_iconst (v := 1) C dX3_isBalanced_87 (by decide) ?_
      cases z2
      exact gq_zret C hr (by decide) dX3_isBalanced_88 (Nat.le_of_ble_eq_true rfl) (Nat.le_of_ble_eq_true rfl)
    · refine gq_icmp_ge_f (tgt := 87) C dX3_isBalanced_15 (by decide) c1 ?_
      refine gq_iload_n C dX3_isBalanced_18 rfl 1 rfl ?_
      refine gq_aload_n C dX3_isBalanced_19 rfl 0 rfl ?_
      refine gq_get0 C (qn_l 0 (by decide) hN) (by decide) 0 (by decide) wk_1_227 rfl dX3_isBalanced_20 ?_
      refine gq_get1N C (qn_l 1 (by decide) hN) (by decide) 12 (by decide) wk_1_89 rfl dX3_isBalanced_23 ?_
      refine gq_iload_n C dX3_isBalanced_26 rfl 2 rfl ?_
      refine gq_iconst (v := 0) C dX3_isBalanced_27 (by decide) ?_
      obtain ⟨x5, eo4, z3⟩ := bind_ex z2
      refine gq_V (As := [.int v2, .int (0 : Int32)]) (rest := [.int v1]) (j := 2) C (c_X2_get hN (show kd 19 = 2 by decide) eo4) (qn_l 19 (by decide) hN) (by decide) (by decide) rfl wk_2_67 wk_2_60 wk_2_61 wk_1_3 wk_2_62 hd_X2_get ⟨(Nat.le_of_ble_eq_true rfl), (Nat.le_of_ble_eq_true rfl)⟩ (Nat.le_of_ble_eq_true rfl) ⟨(Nat.le_of_ble_eq_true rfl), (Nat.le_of_ble_eq_true rfl)⟩ dX3_isBalanced_28 rfl rfl ?_
      refine gq_iadd C dX3_isBalanced_31 ?_
      refine gq_istore_n (lv' := [(1, .int (v1 + x5)), (0, .ref (eB E + 0)), (2, .int v2)]) C dX3_isBalanced_32 rfl (by decide) rfl ?_
      refine gq_iload_n C dX3_isBalanced_33 rfl 0 rfl ?_
      refine gq_aload_n C dX3_isBalanced_34 rfl 1 rfl ?_
      refine gq_get0 C (qn_l 0 (by decide) hN) (by decide) 0 (by decide) wk_1_227 rfl dX3_isBalanced_35 ?_
      refine gq_get1N C (qn_l 1 (by decide) hN) (by decide) 12 (by decide) wk_1_89 rfl dX3_isBalanced_38 ?_
      refine gq_iload_n C dX3_isBalanced_41 rfl 2 rfl ?_
      refine gq_iconst (v := 3) C dX3_isBalanced_42 (by decide) ?_
      obtain ⟨x8, eo7, z6⟩ := bind_ex z3
      refine gq_V (As := [.int v2, .int (3 : Int32)]) (rest := [.int (v1 + x5)]) (j := 2) C (c_X2_get hN (show kd 19 = 2 by decide) eo7) (qn_l 19 (by decide) hN) (by decide) (by decide) rfl wk_2_67 wk_2_60 wk_2_61 wk_1_3 wk_2_62 hd_X2_get ⟨(Nat.le_of_ble_eq_true rfl), (Nat.le_of_ble_eq_true rfl)⟩ (Nat.le_of_ble_eq_true rfl) ⟨(Nat.le_of_ble_eq_true rfl), (Nat.le_of_ble_eq_true rfl)⟩ dX3_isBalanced_43 rfl rfl ?_
      refine gq_isub C dX3_isBalanced_46 ?_
      refine gq_istore_n (lv' := [(1, .int ((v1 + x5) - x8)), (0, .ref (eB E + 0)), (2, .int v2)]) C dX3_isBalanced_47 rfl (by decide) rfl ?_
      refine gq_iload_n C dX3_isBalanced_48 rfl 0 rfl ?_
      refine gq_aload_n C dX3_isBalanced_49 rfl 1 rfl ?_
      refine gq_get0 C (qn_l 0 (by decide) hN) (by decide) 0 (by decide) wk_1_227 rfl dX3_isBalanced_50 ?_
      refine gq_get1N C (qn_l 1 (by decide) hN) (by decide) 12 (by decide) wk_1_89 rfl dX3_isBalanced_53 ?_
      refine gq_iload_n C dX3_isBalanced_56 rfl 2 rfl ?_
      refine gq_iconst (v := 4) C dX3_isBalanced_57 (by decide) ?_
      obtain ⟨x11, eo10, z9⟩ := bind_ex z6
      refine gq_V (As := [.int v2, .int (4 : Int32)]) (rest := [.int ((v1 + x5) - x8)]) (j := 2) C (c_X2_get hN (show kd 19 = 2 by decide) eo10) (qn_l 19 (by decide) hN) (by decide) (by decide) rfl wk_2_67 wk_2_60 wk_2_61 wk_1_3 wk_2_62 hd_X2_get ⟨(Nat.le_of_ble_eq_true rfl), (Nat.le_of_ble_eq_true rfl)⟩ (Nat.le_of_ble_eq_true rfl) ⟨(Nat.le_of_ble_eq_true rfl), (Nat.le_of_ble_eq_true rfl)⟩ dX3_isBalanced_58 rfl rfl ?_
      refine gq_iadd C dX3_isBalanced_61 ?_
      refine gq_istore_n (lv' := [(1, .int (((v1 + x5) - x8) + x11)), (0, .ref (eB E + 0)), (2, .int v2)]) C dX3_isBalanced_62 rfl (by decide) rfl ?_
      refine gq_iload_n C dX3_isBalanced_63 rfl 0 rfl ?_
      refine gq_aload_n C dX3_isBalanced_64 rfl 1 rfl ?_
      refine gq_get0 C (qn_l 0 (by decide) hN) (by decide) 0 (by decide) wk_1_227 rfl dX3_isBalanced_65 ?_
      refine gq_get1N C (qn_l 1 (by decide) hN) (by decide) 12 (by decide) wk_1_89 rfl dX3_isBalanced_68 ?_
      refine gq_iload_n C dX3_isBalanced_71 rfl 2 rfl ?_
      refine gq_iconst (v := 2) C dX3_isBalanced_72 (by decide) ?_
      obtain ⟨x14, eo13, z12⟩ := bind_ex z9
      refine gq_V (As := [.int v2, .int (2 : Int32)]) (rest := [.int (((v1 + x5) - x8) + x11)]) (j := 2) C (c_X2_get hN (show kd 19 = 2 by decide) eo13) (qn_l 19 (by decide) hN) (by decide) (by decide) rfl wk_2_67 wk_2_60 wk_2_61 wk_1_3 wk_2_62 hd_X2_get ⟨(Nat.le_of_ble_eq_true rfl), (Nat.le_of_ble_eq_true rfl)⟩ (Nat.le_of_ble_eq_true rfl) ⟨(Nat.le_of_ble_eq_true rfl), (Nat.le_of_ble_eq_true rfl)⟩ dX3_isBalanced_73 rfl rfl ?_
      rcases ite_ex z12 with ⟨c15, z16⟩ | ⟨c15, z16⟩
      · refine gq_icmp_eq_t (tgt := 81) C dX3_isBalanced_76 (by decide) c15 ?_
        refine gq_iinc (v := (v2 + 1)) (lv' := [(2, .int (v2 + 1)), (1, .int (((v1 + x5) - x8) + x11)), (0, .ref (eB E + 0))]) (q := 2) C dX3_isBalanced_81 rfl rfl (by decide) rfl ?_
        refine gq_goto (tgt := 4) C dX3_isBalanced_84 (by decide) ?_
        refine gq_widen (k' := 0) (n' := 0) (Nat.le_of_ble_eq_true rfl) (Nat.le_of_ble_eq_true rfl) (gq_sub [2, 1, 0] rfl ?_)
        exact ih _ _ _ z16
      · refine gq_icmp_eq_f (tgt := 81) C dX3_isBalanced_76 (by decide) c15 ?_
        refine gq_iconst (v := 0) C dX3_isBalanced_79 (by decide) ?_
        cases z16
        exact gq_zret C hr (by decide) dX3_isBalanced_80 (Nat.le_of_ble_eq_true rfl) (Nat.le_of_ble_eq_true rfl)
set_option maxHeartbeats 4000000 in
set_option maxRecDepth 100000 in
theorem c_X3_isBalanced {l : Launch} {E : Ev} (hN : 295 ≤ eN E) {μ : Mm} {r : Int32} (z0 : F_X3_isBalanced  μ = some r) : Ct l E yX3_isBalanced (Cond.code yX3_isBalanced cX3_isBalanced 3 (some .boolean) :: GW) rm_X3_isBalanced [.ref (eB E + 0)] μ (some (.int r)) μ := by
  refine ct_of (by decide) (Nat.le_of_ble_eq_true rfl) (fun p e s m args below meth c C hr => ?_)
  have C : Cq E p s m args meth c cX3_isBalanced 3 RX3 := C
  refine gq_lv (lv' := [(0, .ref (eB E + 0))]) rfl ?_
  unfold F_X3_isBalanced at z0
  refine gq_iconst (v := 0) C dX3_isBalanced_0 (by decide) ?_
  refine gq_istore_n (lv' := [(1, .int (0 : Int32)), (0, .ref (eB E + 0))]) C dX3_isBalanced_1 rfl (by decide) rfl ?_
  refine gq_iconst (v := 0) C dX3_isBalanced_2 (by decide) ?_
  refine gq_istore_n (lv' := [(2, .int (0 : Int32)), (1, .int (0 : Int32)), (0, .ref (eB E + 0))]) C dX3_isBalanced_3 rfl (by decide) rfl ?_
  refine gq_widen (k' := 0) (n' := 0) (Nat.le_of_ble_eq_true rfl) (Nat.le_of_ble_eq_true rfl) (gq_sub [2, 1, 0] rfl ?_)
  exact l_X3_isBalanced_4 hN C hr  qFuel _ _ _ z0
abbrev rm_X3_history : Room := { frames := 7, cells := 1, slots := 6, locals := 111 }
def F_X3_history (p1 : Int32) (p2 : Int32) (μ : Mm) : Option (Nat × Int32) :=
  (F_X3_needWhat p2 (4 : Int32) μ).bind fun o2 =>
  if o2 = 0 then ((F_X1_monthField 1 p1 p2 μ).bind fun o7 =>
  some (0, o7))
  else some (o2, 0)
set_option maxHeartbeats 4000000 in
set_option maxRecDepth 100000 in
theorem c_X3_history {l : Launch} {E : Ev} (hN : 295 ≤ eN E) (hl9 : l.stackTraces = false) {p1 : Int32} {p2 : Int32} {μ : Mm} {ec : Nat} {r : Int32} (z0 : F_X3_history p1 p2 μ = some (ec, r)) : Cx l E yX3_history (Cond.code yX3_history cX3_history 3 (some .int) :: GW) rm_X3_history [.ref (eB E + 0), .int p1, .int p2] μ ec (some (.int r)) μ := by
  refine cx_of (by decide) (Nat.le_of_ble_eq_true rfl) (fun p e s m args below meth c C hr hout => ?_)
  have C : Cq E p s m args meth c cX3_history 3 RX3 := C
  refine gq_lv (lv' := [(0, .ref (eB E + 0)), (1, .int p1), (2, .int p2)]) rfl ?_
  unfold F_X3_history at z0
  refine gq_iload_n C dX3_history_0 rfl 2 rfl ?_
  refine gq_iconst (v := 4) C dX3_history_1 (by decide) ?_
  obtain ⟨x3, eo2, z1⟩ := bind_ex z0
  rcases ite_ex z1 with ⟨c4, z5⟩ | ⟨c4, z5⟩
  · refine gx_S (As := [.int p2, .int (4 : Int32)]) (rest := []) C (μF := μ) (oF := none) (mcF := 1000000) (msF := 1000000) (Or.inr c4) (fun h9 => absurd c4 h9) hout (Nat.le_of_ble_eq_true rfl) (Nat.le_of_ble_eq_true rfl) (c_X3_needWhat hN hl9  eo2) wk_4_215 wk_4_216 wk_1_1 wk_4_217 hd_X3_needWhat ⟨(Nat.le_of_ble_eq_true rfl), (Nat.le_of_ble_eq_true rfl)⟩ (Nat.le_of_ble_eq_true rfl) ⟨(Nat.le_of_ble_eq_true rfl), (Nat.le_of_ble_eq_true rfl)⟩ dX3_history_2 rfl rfl (fun _ => ?_)
    refine gq_aload_n C dX3_history_5 rfl 0 rfl ?_
    refine gq_get0 C (qn_l 0 (by decide) hN) (by decide) 0 (by decide) wk_1_227 rfl dX3_history_6 ?_
    refine gq_iload_n C dX3_history_9 rfl 1 rfl ?_
    refine gq_iload_n C dX3_history_10 rfl 2 rfl ?_
    obtain ⟨x8, eo7, z6⟩ := bind_ex z5
    refine gq_V (As := [.int p1, .int p2]) (rest := []) (j := 1) C (c_X1_monthField hN (show kd 1 = 1 by decide) eo7) (qn_l 1 (by decide) hN) (by decide) (by decide) rfl wk_2_55 wk_2_56 wk_2_57 wk_1_2 wk_2_58 hd_X1_monthField ⟨(Nat.le_of_ble_eq_true rfl), (Nat.le_of_ble_eq_true rfl)⟩ (Nat.le_of_ble_eq_true rfl) ⟨(Nat.le_of_ble_eq_true rfl), (Nat.le_of_ble_eq_true rfl)⟩ dX3_history_11 rfl rfl ?_
    cases z6
    exact gx_ret (gq_iret C hr dX3_history_14 (Nat.le_of_ble_eq_true rfl) (Nat.le_of_ble_eq_true rfl))
  · cases z5
    refine gx_S (As := [.int p2, .int (4 : Int32)]) (rest := []) C (Or.inl rfl) (fun _ => rfl) hout (Nat.le_of_ble_eq_true rfl) (Nat.le_of_ble_eq_true rfl) (c_X3_needWhat hN hl9  eo2) wk_4_215 wk_4_216 wk_1_1 wk_4_217 hd_X3_needWhat ⟨(Nat.le_of_ble_eq_true rfl), (Nat.le_of_ble_eq_true rfl)⟩ (Nat.le_of_ble_eq_true rfl) ⟨(Nat.le_of_ble_eq_true rfl), (Nat.le_of_ble_eq_true rfl)⟩ dX3_history_2 rfl rfl (fun h9 => absurd h9 c4)
abbrev rm_X3_meanGot : Room := { frames := 2, cells := 0, slots := 0, locals := 45 }
def F_X3_meanGot  (μ : Mm) : Option UInt64 :=
  if (μ.1 21 2) = 0 then
  (some qd0)
  else
  ((F_X2_sumOf 21 (1 : Int32) μ).bind fun o4 =>
  (ddv (FP.i2d o4) (FP.i2d (μ.1 21 2))).bind fun x6 => some x6)
set_option maxHeartbeats 4000000 in
set_option maxRecDepth 100000 in
theorem c_X3_meanGot {l : Launch} {E : Ev} (hN : 295 ≤ eN E) {μ : Mm} {r : UInt64} (z0 : F_X3_meanGot  μ = some r) : Ct l E yX3_meanGot (Cond.code yX3_meanGot cX3_meanGot 2 (some .double) :: GW) rm_X3_meanGot [.ref (eB E + 0)] μ (some (.double r)) μ := by
  refine ct_of (by decide) (Nat.le_of_ble_eq_true rfl) (fun p e s m args below meth c C hr => ?_)
  have C : Cq E p s m args meth c cX3_meanGot 2 RX3 := C
  refine gq_lv (lv' := [(0, .ref (eB E + 0))]) rfl ?_
  unfold F_X3_meanGot at z0
  refine gq_aload_n C dX3_meanGot_0 rfl 0 rfl ?_
  refine gq_get0 C (qn_l 0 (by decide) hN) (by decide) 0 (by decide) wk_1_227 rfl dX3_meanGot_1 ?_
  refine gq_get1N C (qn_l 1 (by decide) hN) (by decide) 13 (by decide) wk_1_91 rfl dX3_meanGot_4 ?_
  refine gq_get2N C (qn_l 21 (by decide) hN) (by decide) 2 (by decide) wk_1_50 rfl dX3_meanGot_7 ?_
  refine gq_istore_n (lv' := [(1, .int (μ.1 21 2)), (0, .ref (eB E + 0))]) C dX3_meanGot_10 rfl (by decide) rfl ?_
  refine gq_iload_n C dX3_meanGot_11 rfl 0 rfl ?_
  rcases ite_ex z0 with ⟨c1, z2⟩ | ⟨c1, z2⟩
  · refine gq_if_ne_f (tgt := 17) C dX3_meanGot_12 (by decide) c1 ?_
    refine gq_dconst0 C dX3_meanGot_15 ?_
    cases z2
    exact gq_dret C hr dX3_meanGot_16 (Nat.le_of_ble_eq_true rfl) (Nat.le_of_ble_eq_true rfl)
  · refine gq_if_ne_t (tgt := 17) C dX3_meanGot_12 (by decide) c1 ?_
    refine gq_aload_n C dX3_meanGot_17 rfl 1 rfl ?_
    refine gq_get0 C (qn_l 0 (by decide) hN) (by decide) 0 (by decide) wk_1_227 rfl dX3_meanGot_18 ?_
    refine gq_get1N C (qn_l 1 (by decide) hN) (by decide) 13 (by decide) wk_1_91 rfl dX3_meanGot_21 ?_
    refine gq_iconst (v := 1) C dX3_meanGot_24 (by decide) ?_
    obtain ⟨x5, eo4, z3⟩ := bind_ex z2
    refine gq_V (As := [.int (1 : Int32)]) (rest := []) (j := 2) C (c_X2_sumOf hN (show kd 21 = 2 by decide) eo4) (qn_l 21 (by decide) hN) (by decide) (by decide) rfl wk_2_72 wk_2_73 wk_2_74 wk_1_3 wk_2_75 hd_X2_sumOf ⟨(Nat.le_of_ble_eq_true rfl), (Nat.le_of_ble_eq_true rfl)⟩ (Nat.le_of_ble_eq_true rfl) ⟨(Nat.le_of_ble_eq_true rfl), (Nat.le_of_ble_eq_true rfl)⟩ dX3_meanGot_25 rfl rfl ?_
    refine gq_i2d C dX3_meanGot_28 ?_
    refine gq_iload_n C dX3_meanGot_29 rfl 0 rfl ?_
    refine gq_i2d C dX3_meanGot_30 ?_
    obtain ⟨x6, ex6, z7⟩ := bind_ex z3
    obtain ⟨nx6, qx6⟩ := ifs_some ex6
    refine gq_ddivE C dX3_meanGot_31 nx6 qx6 ?_
    cases z7
    exact gq_dret C hr dX3_meanGot_32 (Nat.le_of_ble_eq_true rfl) (Nat.le_of_ble_eq_true rfl)
abbrev rm_X3_got : Room := { frames := 7, cells := 1, slots := 6, locals := 111 }
def F_X3_got (p1 : Int32) (μ : Mm) : Option (Nat × Int32) :=
  (F_X3_needRow 6 p1 μ).bind fun o2 =>
  if o2 = 0 then ((F_X2_get 6 p1 (1 : Int32) μ).bind fun o7 =>
  some (0, o7))
  else some (o2, 0)
set_option maxHeartbeats 4000000 in
set_option maxRecDepth 100000 in
theorem c_X3_got {l : Launch} {E : Ev} (hN : 295 ≤ eN E) (hl9 : l.stackTraces = false) {p1 : Int32} {μ : Mm} {ec : Nat} {r : Int32} (z0 : F_X3_got p1 μ = some (ec, r)) : Cx l E yX3_got (Cond.code yX3_got cX3_got 2 (some .int) :: GW) rm_X3_got [.ref (eB E + 0), .int p1] μ ec (some (.int r)) μ := by
  refine cx_of (by decide) (Nat.le_of_ble_eq_true rfl) (fun p e s m args below meth c C hr hout => ?_)
  have C : Cq E p s m args meth c cX3_got 2 RX3 := C
  refine gq_lv (lv' := [(0, .ref (eB E + 0)), (1, .int p1)]) rfl ?_
  unfold F_X3_got at z0
  refine gq_aload_n C dX3_got_0 rfl 0 rfl ?_
  refine gq_get0 C (qn_l 0 (by decide) hN) (by decide) 0 (by decide) wk_1_227 rfl dX3_got_1 ?_
  refine gq_get1N C (qn_l 1 (by decide) hN) (by decide) 4 (by decide) wk_1_72 rfl dX3_got_4 ?_
  refine gq_iload_n C dX3_got_7 rfl 1 rfl ?_
  obtain ⟨x3, eo2, z1⟩ := bind_ex z0
  rcases ite_ex z1 with ⟨c4, z5⟩ | ⟨c4, z5⟩
  · refine gx_S (As := [.ref (eB E + 6), .int p1]) (rest := []) C (μF := μ) (oF := none) (mcF := 1000000) (msF := 1000000) (Or.inr c4) (fun h9 => absurd c4 h9) hout (Nat.le_of_ble_eq_true rfl) (Nat.le_of_ble_eq_true rfl) (c_X3_needRow hN hl9 (show kd 6 = 2 by decide) eo2) wk_5_0 wk_5_1 wk_1_1 wk_5_2 hd_X3_needRow ⟨(Nat.le_of_ble_eq_true rfl), (Nat.le_of_ble_eq_true rfl)⟩ (Nat.le_of_ble_eq_true rfl) ⟨(Nat.le_of_ble_eq_true rfl), (Nat.le_of_ble_eq_true rfl)⟩ dX3_got_8 rfl rfl (fun _ => ?_)
    refine gq_aload_n C dX3_got_11 rfl 0 rfl ?_
    refine gq_get0 C (qn_l 0 (by decide) hN) (by decide) 0 (by decide) wk_1_227 rfl dX3_got_12 ?_
    refine gq_get1N C (qn_l 1 (by decide) hN) (by decide) 4 (by decide) wk_1_72 rfl dX3_got_15 ?_
    refine gq_iload_n C dX3_got_18 rfl 1 rfl ?_
    refine gq_iconst (v := 1) C dX3_got_19 (by decide) ?_
    obtain ⟨x8, eo7, z6⟩ := bind_ex z5
    refine gq_V (As := [.int p1, .int (1 : Int32)]) (rest := []) (j := 2) C (c_X2_get hN (show kd 6 = 2 by decide) eo7) (qn_l 6 (by decide) hN) (by decide) (by decide) rfl wk_2_67 wk_2_60 wk_2_61 wk_1_3 wk_2_62 hd_X2_get ⟨(Nat.le_of_ble_eq_true rfl), (Nat.le_of_ble_eq_true rfl)⟩ (Nat.le_of_ble_eq_true rfl) ⟨(Nat.le_of_ble_eq_true rfl), (Nat.le_of_ble_eq_true rfl)⟩ dX3_got_20 rfl rfl ?_
    cases z6
    exact gx_ret (gq_iret C hr dX3_got_23 (Nat.le_of_ble_eq_true rfl) (Nat.le_of_ble_eq_true rfl))
  · cases z5
    refine gx_S (As := [.ref (eB E + 6), .int p1]) (rest := []) C (Or.inl rfl) (fun _ => rfl) hout (Nat.le_of_ble_eq_true rfl) (Nat.le_of_ble_eq_true rfl) (c_X3_needRow hN hl9 (show kd 6 = 2 by decide) eo2) wk_5_0 wk_5_1 wk_1_1 wk_5_2 hd_X3_needRow ⟨(Nat.le_of_ble_eq_true rfl), (Nat.le_of_ble_eq_true rfl)⟩ (Nat.le_of_ble_eq_true rfl) ⟨(Nat.le_of_ble_eq_true rfl), (Nat.le_of_ble_eq_true rfl)⟩ dX3_got_8 rfl rfl (fun h9 => absurd h9 c4)
abbrev rm_X3_earned : Room := { frames := 7, cells := 1, slots := 6, locals := 111 }
def F_X3_earned (p1 : Int32) (μ : Mm) : Option (Nat × Int64) :=
  (F_X3_needRow 9 p1 μ).bind fun o2 =>
  if o2 = 0 then ((F_X1_earningsOf 1 p1 μ).bind fun o7 =>
  some (0, o7))
  else some (o2, 0)
set_option maxHeartbeats 4000000 in
set_option maxRecDepth 100000 in
theorem c_X3_earned {l : Launch} {E : Ev} (hN : 295 ≤ eN E) (hl9 : l.stackTraces = false) {p1 : Int32} {μ : Mm} {ec : Nat} {r : Int64} (z0 : F_X3_earned p1 μ = some (ec, r)) : Cx l E yX3_earned (Cond.code yX3_earned cX3_earned 2 (some .long) :: GW) rm_X3_earned [.ref (eB E + 0), .int p1] μ ec (some (.long r)) μ := by
  refine cx_of (by decide) (Nat.le_of_ble_eq_true rfl) (fun p e s m args below meth c C hr hout => ?_)
  have C : Cq E p s m args meth c cX3_earned 2 RX3 := C
  refine gq_lv (lv' := [(0, .ref (eB E + 0)), (1, .int p1)]) rfl ?_
  unfold F_X3_earned at z0
  refine gq_aload_n C dX3_earned_0 rfl 0 rfl ?_
  refine gq_get0 C (qn_l 0 (by decide) hN) (by decide) 0 (by decide) wk_1_227 rfl dX3_earned_1 ?_
  refine gq_get1N C (qn_l 1 (by decide) hN) (by decide) 6 (by decide) wk_1_76 rfl dX3_earned_4 ?_
  refine gq_iload_n C dX3_earned_7 rfl 1 rfl ?_
  obtain ⟨x3, eo2, z1⟩ := bind_ex z0
  rcases ite_ex z1 with ⟨c4, z5⟩ | ⟨c4, z5⟩
  · refine gx_S (As := [.ref (eB E + 9), .int p1]) (rest := []) C (μF := μ) (oF := none) (mcF := 1000000) (msF := 1000000) (Or.inr c4) (fun h9 => absurd c4 h9) hout (Nat.le_of_ble_eq_true rfl) (Nat.le_of_ble_eq_true rfl) (c_X3_needRow hN hl9 (show kd 9 = 2 by decide) eo2) wk_5_0 wk_5_1 wk_1_1 wk_5_2 hd_X3_needRow ⟨(Nat.le_of_ble_eq_true rfl), (Nat.le_of_ble_eq_true rfl)⟩ (Nat.le_of_ble_eq_true rfl) ⟨(Nat.le_of_ble_eq_true rfl), (Nat.le_of_ble_eq_true rfl)⟩ dX3_earned_8 rfl rfl (fun _ => ?_)
    refine gq_aload_n C dX3_earned_11 rfl 0 rfl ?_
    refine gq_get0 C (qn_l 0 (by decide) hN) (by decide) 0 (by decide) wk_1_227 rfl dX3_earned_12 ?_
    refine gq_iload_n C dX3_earned_15 rfl 1 rfl ?_
    obtain ⟨x8, eo7, z6⟩ := bind_ex z5
    refine gq_V (As := [.int p1]) (rest := []) (j := 1) C (c_X1_earningsOf hN (show kd 1 = 1 by decide) eo7) (qn_l 1 (by decide) hN) (by decide) (by decide) rfl wk_5_99 wk_5_100 wk_5_101 wk_1_2 wk_5_102 hd_X1_earningsOf ⟨(Nat.le_of_ble_eq_true rfl), (Nat.le_of_ble_eq_true rfl)⟩ (Nat.le_of_ble_eq_true rfl) ⟨(Nat.le_of_ble_eq_true rfl), (Nat.le_of_ble_eq_true rfl)⟩ dX3_earned_16 rfl rfl ?_
    cases z6
    exact gx_ret (gq_lret C hr dX3_earned_19 (Nat.le_of_ble_eq_true rfl) (Nat.le_of_ble_eq_true rfl))
  · cases z5
    refine gx_S (As := [.ref (eB E + 9), .int p1]) (rest := []) C (Or.inl rfl) (fun _ => rfl) hout (Nat.le_of_ble_eq_true rfl) (Nat.le_of_ble_eq_true rfl) (c_X3_needRow hN hl9 (show kd 9 = 2 by decide) eo2) wk_5_0 wk_5_1 wk_1_1 wk_5_2 hd_X3_needRow ⟨(Nat.le_of_ble_eq_true rfl), (Nat.le_of_ble_eq_true rfl)⟩ (Nat.le_of_ble_eq_true rfl) ⟨(Nat.le_of_ble_eq_true rfl), (Nat.le_of_ble_eq_true rfl)⟩ dX3_earned_8 rfl rfl (fun h9 => absurd h9 c4)
abbrev rm_X3_bankedInAll : Room := { frames := 0, cells := 0, slots := 0, locals := 0 }
def F_X3_bankedInAll  (μ : Mm) : Option Int32 :=
  some (μ.1 1 16)
set_option maxHeartbeats 4000000 in
set_option maxRecDepth 100000 in
theorem c_X3_bankedInAll {l : Launch} {E : Ev} (hN : 295 ≤ eN E) {μ : Mm} {r : Int32} (z0 : F_X3_bankedInAll  μ = some r) : Ct l E yX3_bankedInAll (Cond.code yX3_bankedInAll cX3_bankedInAll 1 (some .int) :: GW) rm_X3_bankedInAll [.ref (eB E + 0)] μ (some (.int r)) μ := by
  refine ct_of (by decide) (Nat.le_of_ble_eq_true rfl) (fun p e s m args below meth c C hr => ?_)
  have C : Cq E p s m args meth c cX3_bankedInAll 1 RX3 := C
  refine gq_lv (lv' := [(0, .ref (eB E + 0))]) rfl ?_
  unfold F_X3_bankedInAll at z0
  refine gq_aload_n C dX3_bankedInAll_0 rfl 0 rfl ?_
  refine gq_get0 C (qn_l 0 (by decide) hN) (by decide) 0 (by decide) wk_1_227 rfl dX3_bankedInAll_1 ?_
  refine gq_get1N C (qn_l 1 (by decide) hN) (by decide) 16 (by decide) wk_1_98 rfl dX3_bankedInAll_4 ?_
  cases z0
  exact gq_iret C hr dX3_bankedInAll_7 (Nat.le_of_ble_eq_true rfl) (Nat.le_of_ble_eq_true rfl)
abbrev rm_X3_lostInAll : Room := { frames := 0, cells := 0, slots := 0, locals := 0 }
def F_X3_lostInAll  (μ : Mm) : Option Int32 :=
  some (μ.1 1 17)
set_option maxHeartbeats 4000000 in
set_option maxRecDepth 100000 in
theorem c_X3_lostInAll {l : Launch} {E : Ev} (hN : 295 ≤ eN E) {μ : Mm} {r : Int32} (z0 : F_X3_lostInAll  μ = some r) : Ct l E yX3_lostInAll (Cond.code yX3_lostInAll cX3_lostInAll 1 (some .int) :: GW) rm_X3_lostInAll [.ref (eB E + 0)] μ (some (.int r)) μ := by
  refine ct_of (by decide) (Nat.le_of_ble_eq_true rfl) (fun p e s m args below meth c C hr => ?_)
  have C : Cq E p s m args meth c cX3_lostInAll 1 RX3 := C
  refine gq_lv (lv' := [(0, .ref (eB E + 0))]) rfl ?_
  unfold F_X3_lostInAll at z0
  refine gq_aload_n C dX3_lostInAll_0 rfl 0 rfl ?_
  refine gq_get0 C (qn_l 0 (by decide) hN) (by decide) 0 (by decide) wk_1_227 rfl dX3_lostInAll_1 ?_
  refine gq_get1N C (qn_l 1 (by decide) hN) (by decide) 17 (by decide) wk_1_100 rfl dX3_lostInAll_4 ?_
  cases z0
  exact gq_iret C hr dX3_lostInAll_7 (Nat.le_of_ble_eq_true rfl) (Nat.le_of_ble_eq_true rfl)
abbrev rm_X3_releasedInAll : Room := { frames := 0, cells := 0, slots := 0, locals := 0 }
def F_X3_releasedInAll  (μ : Mm) : Option Int32 :=
  some (μ.1 1 18)
set_option maxHeartbeats 4000000 in
set_option maxRecDepth 100000 in
theorem c_X3_releasedInAll {l : Launch} {E : Ev} (hN : 295 ≤ eN E) {μ : Mm} {r : Int32} (z0 : F_X3_releasedInAll  μ = some r) : Ct l E yX3_releasedInAll (Cond.code yX3_releasedInAll cX3_releasedInAll 1 (some .int) :: GW) rm_X3_releasedInAll [.ref (eB E + 0)] μ (some (.int r)) μ := by
  refine ct_of (by decide) (Nat.le_of_ble_eq_true rfl) (fun p e s m args below meth c C hr => ?_)
  have C : Cq E p s m args meth c cX3_releasedInAll 1 RX3 := C
  refine gq_lv (lv' := [(0, .ref (eB E + 0))]) rfl ?_
  unfold F_X3_releasedInAll at z0
  refine gq_aload_n C dX3_releasedInAll_0 rfl 0 rfl ?_
  refine gq_get0 C (qn_l 0 (by decide) hN) (by decide) 0 (by decide) wk_1_227 rfl dX3_releasedInAll_1 ?_
  refine gq_get1N C (qn_l 1 (by decide) hN) (by decide) 18 (by decide) wk_1_102 rfl dX3_releasedInAll_4 ?_
  cases z0
  exact gq_iret C hr dX3_releasedInAll_7 (Nat.le_of_ble_eq_true rfl) (Nat.le_of_ble_eq_true rfl)
abbrev rm_X3_areAccountsRight : Room := { frames := 2, cells := 0, slots := 0, locals := 45 }
def F_X3_areAccountsRight_4  (μ : Mm) : Nat → Int64 → Int32 → Option Int64
  | 0, _, _ => none
  | n + 1, v1, v3 =>
  if (μ.1 6 2) ≤ v3 then
  (some v1)
  else
  ((F_X1_balanceOf 1 v3 μ).bind fun o4 =>
  F_X3_areAccountsRight_4 μ n (v1 + o4) (v3 + 1))
def F_X3_areAccountsRight  (μ : Mm) : Option Int32 :=
  (F_X3_areAccountsRight_4 μ qFuel (0 : Int64) (0 : Int32)).bind fun o7 =>
  (F_X2_sumOf 6 (0 : Int32) μ).bind fun o10 =>
  if (((μ.1 1 16) - (μ.1 1 17)) - (μ.1 1 18)) = o10 then
  (if (lg_cmp o7 (0 : Int64)) = 0 then
  (some (1 : Int32))
  else
  (some (0 : Int32)))
  else
  (some (0 : Int32))
set_option maxHeartbeats 4000000 in
set_option maxRecDepth 100000 in
theorem l_X3_areAccountsRight_4 {l : Launch} {E : Ev} (hN : 295 ≤ eN E) {p : Program} {e : Env} {s : State} {m : MethodId} {args : Array Value} {below : List Frame} {meth : Method} {c : Code} (C : Cq E p s m args meth c cX3_areAccountsRight 4 RX3) {Q : State → Prop} {μ : Mm} : ∀ (n : Nat) (v1 : Int64) (v3 : Int32) (w1 : Int64), F_X3_areAccountsRight_4 μ n v1 v3 = some w1 → Gq E p l e rm_X3_areAccountsRight s m args below meth c 0 0 4 Q 35 [(0, .ref (eB E + 0)), (1, .long w1)] [] μ → Gq E p l e rm_X3_areAccountsRight s m args below meth c 0 0 4 Q 4 [(0, .ref (eB E + 0)), (1, .long v1), (3, .int v3)] [] μ := by
  intro n
  induction n with
  | zero =>
    intro v1 v3 w1 z0 kk
    rw [F_X3_areAccountsRight_4] at z0
    cases z0
  | succ n ih =>
    intro v1 v3 w1 z0 kk
    rw [F_X3_areAccountsRight_4] at z0
    refine gq_iload_n C dX3_areAccountsRight_4 rfl 2 rfl ?_
    refine gq_aload_n C dX3_areAccountsRight_5 rfl 0 rfl ?_
    refine gq_get0 C (qn_l 0 (by decide) hN) (by decide) 0 (by decide) wk_1_227 rfl dX3_areAccountsRight_6 ?_
    refine gq_get1N C (qn_l 1 (by decide) hN) (by decide) 4 (by decide) wk_1_72 rfl dX3_areAccountsRight_9 ?_
    refine gq_get2N C (qn_l 6 (by decide) hN) (by decide) 2 (by decide) wk_1_50 rfl dX3_areAccountsRight_12 ?_
    rcases ite_ex z0 with ⟨c1, z2⟩ | ⟨c1, z2⟩
    · refine gq_icmp_ge_t (tgt := 35) C dX3_areAccountsRight_15 (by decide) c1 ?_
      cases z2
      exact gq_widen (Nat.le_of_ble_eq_true rfl) (Nat.le_of_ble_eq_true rfl) (gq_sub [0, 1] rfl kk)
    · refine gq_icmp_ge_f (tgt := 35) C dX3_areAccountsRight_15 (by decide) c1 ?_
      refine gq_lload_n C dX3_areAccountsRight_18 rfl 1 rfl ?_
      refine gq_aload_n C dX3_areAccountsRight_19 rfl 0 rfl ?_
      refine gq_get0 C (qn_l 0 (by decide) hN) (by decide) 0 (by decide) wk_1_227 rfl dX3_areAccountsRight_20 ?_
      refine gq_iload_n C dX3_areAccountsRight_23 rfl 2 rfl ?_
      obtain ⟨x5, eo4, z3⟩ := bind_ex z2
      refine gq_V (As := [.int v3]) (rest := [.long v1]) (j := 1) C (c_X1_balanceOf hN (show kd 1 = 1 by decide) eo4) (qn_l 1 (by decide) hN) (by decide) (by decide) rfl wk_2_109 wk_2_110 wk_2_111 wk_1_2 wk_2_112 hd_X1_balanceOf ⟨(Nat.le_of_ble_eq_true rfl), (Nat.le_of_ble_eq_true rfl)⟩ (Nat.le_of_ble_eq_true rfl) ⟨(Nat.le_of_ble_eq_true rfl), (Nat.le_of_ble_eq_true rfl)⟩ dX3_areAccountsRight_24 rfl rfl ?_
      refine gq_ladd C dX3_areAccountsRight_27 ?_
      refine gq_lstore_n (lv' := [(1, .long (v1 + x5)), (0, .ref (eB E + 0)), (3, .int v3)]) C dX3_areAccountsRight_28 rfl (by decide) rfl ?_
      refine gq_iinc (v := (v3 + 1)) (lv' := [(3, .int (v3 + 1)), (1, .long (v1 + x5)), (0, .ref (eB E + 0))]) (q := 2) C dX3_areAccountsRight_29 rfl rfl (by decide) rfl ?_
      refine gq_goto (tgt := 4) C dX3_areAccountsRight_32 (by decide) ?_
      refine gq_widen (k' := 0) (n' := 0) (Nat.le_of_ble_eq_true rfl) (Nat.le_of_ble_eq_true rfl) (gq_sub [2, 1, 0] rfl ?_)
      exact ih _ _ _ z3 kk
set_option maxHeartbeats 4000000 in
set_option maxRecDepth 100000 in
theorem c_X3_areAccountsRight {l : Launch} {E : Ev} (hN : 295 ≤ eN E) {μ : Mm} {r : Int32} (z0 : F_X3_areAccountsRight  μ = some r) : Ct l E yX3_areAccountsRight (Cond.code yX3_areAccountsRight cX3_areAccountsRight 4 (some .boolean) :: GW) rm_X3_areAccountsRight [.ref (eB E + 0)] μ (some (.int r)) μ := by
  refine ct_of (by decide) (Nat.le_of_ble_eq_true rfl) (fun p e s m args below meth c C hr => ?_)
  have C : Cq E p s m args meth c cX3_areAccountsRight 4 RX3 := C
  refine gq_lv (lv' := [(0, .ref (eB E + 0))]) rfl ?_
  unfold F_X3_areAccountsRight at z0
  refine gq_lconst (v := 0) C dX3_areAccountsRight_0 (by decide) ?_
  refine gq_lstore_n (lv' := [(1, .long (0 : Int64)), (0, .ref (eB E + 0))]) C dX3_areAccountsRight_1 rfl (by decide) rfl ?_
  refine gq_iconst (v := 0) C dX3_areAccountsRight_2 (by decide) ?_
  refine gq_istore_n (lv' := [(3, .int (0 : Int32)), (1, .long (0 : Int64)), (0, .ref (eB E + 0))]) C dX3_areAccountsRight_3 rfl (by decide) rfl ?_
  obtain ⟨x8, eo7, z6⟩ := bind_ex z0
  refine gq_widen (k' := 0) (n' := 0) (Nat.le_of_ble_eq_true rfl) (Nat.le_of_ble_eq_true rfl) (gq_sub [2, 1, 0] rfl ?_)
  refine l_X3_areAccountsRight_4 hN C  qFuel _ _ _ eo7 ?_
  refine gq_aload_n C dX3_areAccountsRight_35 rfl 0 rfl ?_
  refine gq_get0 C (qn_l 0 (by decide) hN) (by decide) 0 (by decide) wk_1_227 rfl dX3_areAccountsRight_36 ?_
  refine gq_get1N C (qn_l 1 (by decide) hN) (by decide) 16 (by decide) wk_1_98 rfl dX3_areAccountsRight_39 ?_
  refine gq_aload_n C dX3_areAccountsRight_42 rfl 0 rfl ?_
  refine gq_get0 C (qn_l 0 (by decide) hN) (by decide) 0 (by decide) wk_1_227 rfl dX3_areAccountsRight_43 ?_
  refine gq_get1N C (qn_l 1 (by decide) hN) (by decide) 17 (by decide) wk_1_100 rfl dX3_areAccountsRight_46 ?_
  refine gq_isub C dX3_areAccountsRight_49 ?_
  refine gq_aload_n C dX3_areAccountsRight_50 rfl 0 rfl ?_
  refine gq_get0 C (qn_l 0 (by decide) hN) (by decide) 0 (by decide) wk_1_227 rfl dX3_areAccountsRight_51 ?_
  refine gq_get1N C (qn_l 1 (by decide) hN) (by decide) 18 (by decide) wk_1_102 rfl dX3_areAccountsRight_54 ?_
  refine gq_isub C dX3_areAccountsRight_57 ?_
  refine gq_istore_n (lv' := [(3, .int (((μ.1 1 16) - (μ.1 1 17)) - (μ.1 1 18))), (0, .ref (eB E + 0)), (1, .long x8)]) C dX3_areAccountsRight_58 rfl (by decide) rfl ?_
  refine gq_iload_n C dX3_areAccountsRight_59 rfl 0 rfl ?_
  refine gq_aload_n C dX3_areAccountsRight_60 rfl 1 rfl ?_
  refine gq_get0 C (qn_l 0 (by decide) hN) (by decide) 0 (by decide) wk_1_227 rfl dX3_areAccountsRight_61 ?_
  refine gq_get1N C (qn_l 1 (by decide) hN) (by decide) 4 (by decide) wk_1_72 rfl dX3_areAccountsRight_64 ?_
  refine gq_iconst (v := 0) C dX3_areAccountsRight_67 (by decide) ?_
  obtain ⟨x11, eo10, z9⟩ := bind_ex z6
  refine gq_V (As := [.int (0 : Int32)]) (rest := [.int (((μ.1 1 16) - (μ.1 1 17)) - (μ.1 1 18))]) (j := 2) C (c_X2_sumOf hN (show kd 6 = 2 by decide) eo10) (qn_l 6 (by decide) hN) (by decide) (by decide) rfl wk_2_72 wk_2_73 wk_2_74 wk_1_3 wk_2_75 hd_X2_sumOf ⟨(Nat.le_of_ble_eq_true rfl), (Nat.le_of_ble_eq_true rfl)⟩ (Nat.le_of_ble_eq_true rfl) ⟨(Nat.le_of_ble_eq_true rfl), (Nat.le_of_ble_eq_true rfl)⟩ dX3_areAccountsRight_68 rfl rfl ?_
  rcases ite_ex z9 with ⟨c12, z13⟩ | ⟨c12, z13⟩
  · refine gq_icmp_ne_f (tgt := 84) C dX3_areAccountsRight_71 (by decide) c12 ?_
    refine gq_lload_n C dX3_areAccountsRight_74 rfl 2 rfl ?_
    refine gq_lconst (v := 0) C dX3_areAccountsRight_75 (by decide) ?_
    refine gq_lcmp C dX3_areAccountsRight_76 ?_
    rcases ite_ex z13 with ⟨c14, z15⟩ | ⟨c14, z15⟩
    · refine gq_if_ne_f (tgt := 84) C dX3_areAccountsRight_77 (by decide) c14 ?_
      refine gq_iconst (v := 1) C dX3_areAccountsRight_80 (by decide) ?_
      refine gq_goto (tgt := 85) C dX3_areAccountsRight_81 (by decide) ?_
      cases z15
      exact gq_zret C hr (by decide) dX3_areAccountsRight_85 (Nat.le_of_ble_eq_true rfl) (Nat.le_of_ble_eq_true rfl)
    · refine gq_if_ne_t (tgt := 84) C dX3_areAccountsRight_77 (by decide) c14 ?_
      refine gq_iconst (v := 0) C dX3_areAccountsRight_84 (by decide) ?_
      cases z15
      exact gq_zret C hr (by decide) dX3_areAccountsRight_85 (Nat.le_of_ble_eq_true rfl) (Nat.le_of_ble_eq_true rfl)
  · refine gq_icmp_ne_t (tgt := 84) C dX3_areAccountsRight_71 (by decide) c12 ?_
    refine gq_iconst (v := 0) C dX3_areAccountsRight_84 (by decide) ?_
    cases z13
    exact gq_zret C hr (by decide) dX3_areAccountsRight_85 (Nat.le_of_ble_eq_true rfl) (Nat.le_of_ble_eq_true rfl)
abbrev rm_X3_richest : Room := { frames := 1, cells := 0, slots := 0, locals := 21 }
def F_X3_richest_4  (μ : Mm) : Nat → Int32 → Int32 → Option Int32
  | 0, _, _ => none
  | n + 1, v1, v2 =>
  if (μ.1 6 2) ≤ v2 then
  (some v1)
  else
  ((F_X1_balanceOf 1 v2 μ).bind fun o4 =>
  (F_X1_balanceOf 1 v1 μ).bind fun o7 =>
  (if (lg_cmp o4 o7) ≤ 0 then
  (some v1)
  else
  (some v2)).bind fun o14 =>
  F_X3_richest_4 μ n o14 (v2 + 1))
def F_X3_richest  (μ : Mm) : Option Int32 :=
  (F_X3_richest_4 μ qFuel (0 : Int32) (1 : Int32)).bind fun o16 =>
  some o16
set_option maxHeartbeats 4000000 in
set_option maxRecDepth 100000 in
theorem l_X3_richest_4 {l : Launch} {E : Ev} (hN : 295 ≤ eN E) {p : Program} {e : Env} {s : State} {m : MethodId} {args : Array Value} {below : List Frame} {meth : Method} {c : Code} (C : Cq E p s m args meth c cX3_richest 3 RX3) {Q : State → Prop} {μ : Mm} : ∀ (n : Nat) (v1 : Int32) (v2 : Int32) (w1 : Int32), F_X3_richest_4 μ n v1 v2 = some w1 → Gq E p l e rm_X3_richest s m args below meth c 0 0 3 Q 46 [(1, .int w1)] [] μ → Gq E p l e rm_X3_richest s m args below meth c 0 0 3 Q 4 [(0, .ref (eB E + 0)), (1, .int v1), (2, .int v2)] [] μ := by
  intro n
  induction n with
  | zero =>
    intro v1 v2 w1 z0 kk
    rw [F_X3_richest_4] at z0
    cases z0
  | succ n ih =>
    intro v1 v2 w1 z0 kk
    rw [F_X3_richest_4] at z0
    refine gq_iload_n C dX3_richest_4 rfl 2 rfl ?_
    refine gq_aload_n C dX3_richest_5 rfl 0 rfl ?_
    refine gq_get0 C (qn_l 0 (by decide) hN) (by decide) 0 (by decide) wk_1_227 rfl dX3_richest_6 ?_
    refine gq_get1N C (qn_l 1 (by decide) hN) (by decide) 4 (by decide) wk_1_72 rfl dX3_richest_9 ?_
    refine gq_get2N C (qn_l 6 (by decide) hN) (by decide) 2 (by decide) wk_1_50 rfl dX3_richest_12 ?_
    rcases ite_ex z0 with ⟨c1, z2⟩ | ⟨c1, z2⟩
    · refine gq_icmp_ge_t (tgt := 46) C dX3_richest_15 (by decide) c1 ?_
      cases z2
      exact gq_widen (Nat.le_of_ble_eq_true rfl) (Nat.le_of_ble_eq_true rfl) (gq_sub [1] rfl kk)
    · refine gq_icmp_ge_f (tgt := 46) C dX3_richest_15 (by decide) c1 ?_
      refine gq_aload_n C dX3_richest_18 rfl 0 rfl ?_
      refine gq_get0 C (qn_l 0 (by decide) hN) (by decide) 0 (by decide) wk_1_227 rfl dX3_richest_19 ?_
      refine gq_iload_n C dX3_richest_22 rfl 2 rfl ?_
      obtain ⟨x5, eo4, z3⟩ := bind_ex z2
      refine gq_V (As := [.int v2]) (rest := []) (j := 1) C (c_X1_balanceOf hN (show kd 1 = 1 by decide) eo4) (qn_l 1 (by decide) hN) (by decide) (by decide) rfl wk_2_109 wk_2_110 wk_2_111 wk_1_2 wk_2_112 hd_X1_balanceOf ⟨(Nat.le_of_ble_eq_true rfl), (Nat.le_of_ble_eq_true rfl)⟩ (Nat.le_of_ble_eq_true rfl) ⟨(Nat.le_of_ble_eq_true rfl), (Nat.le_of_ble_eq_true rfl)⟩ dX3_richest_23 rfl rfl ?_
      refine gq_aload_n C dX3_richest_26 rfl 0 rfl ?_
      refine gq_get0 C (qn_l 0 (by decide) hN) (by decide) 0 (by decide) wk_1_227 rfl dX3_richest_27 ?_
      refine gq_iload_n C dX3_richest_30 rfl 1 rfl ?_
      obtain ⟨x8, eo7, z6⟩ := bind_ex z3
      refine gq_V (As := [.int v1]) (rest := [.long x5]) (j := 1) C (c_X1_balanceOf hN (show kd 1 = 1 by decide) eo7) (qn_l 1 (by decide) hN) (by decide) (by decide) rfl wk_2_109 wk_2_110 wk_2_111 wk_1_2 wk_2_112 hd_X1_balanceOf ⟨(Nat.le_of_ble_eq_true rfl), (Nat.le_of_ble_eq_true rfl)⟩ (Nat.le_of_ble_eq_true rfl) ⟨(Nat.le_of_ble_eq_true rfl), (Nat.le_of_ble_eq_true rfl)⟩ dX3_richest_31 rfl rfl ?_
      refine gq_lcmp C dX3_richest_34 ?_
      obtain ⟨x9, z10, z11⟩ := bind_ex z6
      refine gq_join (k' := 0) (n' := 0) (pc' := 40) (lv' := [(0, .ref (eB E + 0)), (1, .int x9), (2, .int v2)]) (st' := []) (μ' := μ) ?_ (fun J40 => ?_)
      · refine gq_iinc (v := (v2 + 1)) (lv' := [(2, .int (v2 + 1)), (0, .ref (eB E + 0)), (1, .int x9)]) (q := 2) C dX3_richest_40 rfl rfl (by decide) rfl ?_
        refine gq_goto (tgt := 4) C dX3_richest_43 (by decide) ?_
        refine gq_widen (k' := 0) (n' := 0) (Nat.le_of_ble_eq_true rfl) (Nat.le_of_ble_eq_true rfl) (gq_sub [1, 2, 0] rfl ?_)
        exact ih _ _ _ z11 kk
      · rcases ite_ex z10 with ⟨c12, z13⟩ | ⟨c12, z13⟩
        · refine gq_if_le_t (tgt := 40) C dX3_richest_35 (by decide) c12 ?_
          cases z13
          exact gq_widen (Nat.le_of_ble_eq_true rfl) (Nat.le_of_ble_eq_true rfl) (gq_sub [0, 1, 2] rfl J40)
        · refine gq_if_le_f (tgt := 40) C dX3_richest_35 (by decide) c12 ?_
          refine gq_iload_n C dX3_richest_38 rfl 2 rfl ?_
          refine gq_istore_n (lv' := [(1, .int v2), (0, .ref (eB E + 0)), (2, .int v2)]) C dX3_richest_39 rfl (by decide) rfl ?_
          cases z13
          exact gq_widen (Nat.le_of_ble_eq_true rfl) (Nat.le_of_ble_eq_true rfl) (gq_sub [1, 0, 2] rfl J40)
set_option maxHeartbeats 4000000 in
set_option maxRecDepth 100000 in
theorem c_X3_richest {l : Launch} {E : Ev} (hN : 295 ≤ eN E) {μ : Mm} {r : Int32} (z0 : F_X3_richest  μ = some r) : Ct l E yX3_richest (Cond.code yX3_richest cX3_richest 3 (some .int) :: GW) rm_X3_richest [.ref (eB E + 0)] μ (some (.int r)) μ := by
  refine ct_of (by decide) (Nat.le_of_ble_eq_true rfl) (fun p e s m args below meth c C hr => ?_)
  have C : Cq E p s m args meth c cX3_richest 3 RX3 := C
  refine gq_lv (lv' := [(0, .ref (eB E + 0))]) rfl ?_
  unfold F_X3_richest at z0
  refine gq_iconst (v := 0) C dX3_richest_0 (by decide) ?_
  refine gq_istore_n (lv' := [(1, .int (0 : Int32)), (0, .ref (eB E + 0))]) C dX3_richest_1 rfl (by decide) rfl ?_
  refine gq_iconst (v := 1) C dX3_richest_2 (by decide) ?_
  refine gq_istore_n (lv' := [(2, .int (1 : Int32)), (1, .int (0 : Int32)), (0, .ref (eB E + 0))]) C dX3_richest_3 rfl (by decide) rfl ?_
  obtain ⟨x17, eo16, z15⟩ := bind_ex z0
  refine gq_widen (k' := 0) (n' := 0) (Nat.le_of_ble_eq_true rfl) (Nat.le_of_ble_eq_true rfl) (gq_sub [2, 1, 0] rfl ?_)
  refine l_X3_richest_4 hN C  qFuel _ _ _ eo16 ?_
  refine gq_iload_n C dX3_richest_46 rfl 0 rfl ?_
  cases z15
  exact gq_iret C hr dX3_richest_47 (Nat.le_of_ble_eq_true rfl) (Nat.le_of_ble_eq_true rfl)
abbrev rm_X3_needRange : Room := { frames := 6, cells := 1, slots := 6, locals := 90 }
def F_X3_needRange (p1 : Int32) (p2 : Int32) (p3 : Int32) (μ : Mm) : Option Nat :=
  if p1 < p2 then
  (some 3)
  else
  (if p1 ≤ p3 then
  (some 0)
  else
  (some 3))
set_option maxHeartbeats 4000000 in
set_option maxRecDepth 100000 in
theorem c_X3_needRange {l : Launch} {E : Ev} (hN : 295 ≤ eN E) (hl9 : l.stackTraces = false) {p1 : Int32} {p2 : Int32} {p3 : Int32} {μ : Mm} {ec : Nat} (z0 : F_X3_needRange p1 p2 p3 μ = some ec) : Cx l E yX3_needRange (Cond.code yX3_needRange cX3_needRange 3 none :: GW) rm_X3_needRange [.int p1, .int p2, .int p3] μ ec none μ := by
  refine cx_of (by decide) (Nat.le_of_ble_eq_true rfl) (fun p e s m args below meth c C hr hout => ?_)
  have C : Cq E p s m args meth c cX3_needRange 3 RX3 := C
  refine gq_lv (lv' := [(0, .int p1), (1, .int p2), (2, .int p3)]) rfl ?_
  unfold F_X3_needRange at z0
  refine gq_iload_n C dX3_needRange_0 rfl 0 rfl ?_
  refine gq_iload_n C dX3_needRange_1 rfl 1 rfl ?_
  rcases ite_ex z0 with ⟨c1, z2⟩ | ⟨c1, z2⟩
  · refine gq_icmp_lt_t (tgt := 10) C dX3_needRange_2 (by decide) c1 ?_
    cases z2
    exact gx_throw C hl9 (cls := "java/lang/IllegalArgumentException") (text := "out of range") (names := ["java/lang/RuntimeException", "java/lang/Exception"]) (j := 15) (by decide +kernel) (by decide +kernel) wk_4_181 wk_1_15 (by decide +kernel) (at_X3_67 C) at_X3_67_g dX3_needRange_10 dX3_needRange_13 dX3_needRange_14 dX3_needRange_16 dX3_needRange_19 hout (by decide) rfl (Nat.le_of_ble_eq_true rfl) (Nat.le_of_ble_eq_true rfl) (Nat.le_of_ble_eq_true rfl) (Nat.le_of_ble_eq_true rfl) (Nat.le_of_ble_eq_true rfl) (Nat.le_of_ble_eq_true rfl)
  · refine gq_icmp_lt_f (tgt := 10) C dX3_needRange_2 (by decide) c1 ?_
    refine gq_iload_n C dX3_needRange_5 rfl 0 rfl ?_
    refine gq_iload_n C dX3_needRange_6 rfl 2 rfl ?_
    rcases ite_ex z2 with ⟨c3, z4⟩ | ⟨c3, z4⟩
    · refine gq_icmp_le_t (tgt := 20) C dX3_needRange_7 (by decide) c3 ?_
      cases z4
      exact gx_ret (gq_vret C hr dX3_needRange_20 (Nat.le_of_ble_eq_true rfl) (Nat.le_of_ble_eq_true rfl))
    · refine gq_icmp_le_f (tgt := 20) C dX3_needRange_7 (by decide) c3 ?_
      cases z4
      exact gx_throw C hl9 (cls := "java/lang/IllegalArgumentException") (text := "out of range") (names := ["java/lang/RuntimeException", "java/lang/Exception"]) (j := 15) (by decide +kernel) (by decide +kernel) wk_4_181 wk_1_15 (by decide +kernel) (at_X3_67 C) at_X3_67_g dX3_needRange_10 dX3_needRange_13 dX3_needRange_14 dX3_needRange_16 dX3_needRange_19 hout (by decide) rfl (Nat.le_of_ble_eq_true rfl) (Nat.le_of_ble_eq_true rfl) (Nat.le_of_ble_eq_true rfl) (Nat.le_of_ble_eq_true rfl) (Nat.le_of_ble_eq_true rfl) (Nat.le_of_ble_eq_true rfl)
abbrev rm_X3_tryMonths : Room := { frames := 6, cells := 0, slots := 0, locals := 149 }
def F_X3_tryMonths_13 (u1 : Int32) : Nat → Int32 → Mm → Option Mm
  | 0, _, _ => none
  | n + 1, v2, μ =>
  if u1 ≤ v2 then
  (some μ)
  else
  ((F_X1_runMonth 23 (-1 : Int32) μ).bind fun o7 =>
  F_X3_tryMonths_13 u1 n (v2 + 1) o7.2)
def F_X3_tryMonths (p1 : Int32) (μ : Mm) : Option Mm :=
  (F_X1_copyFrom 23 1 μ).bind fun o2 =>
  (F_X3_tryMonths_13 p1 qFuel (0 : Int32) o2).bind fun o11 =>
  some o11
set_option maxHeartbeats 4000000 in
set_option maxRecDepth 100000 in
theorem l_X3_tryMonths_13 {l : Launch} {E : Ev} (hN : 295 ≤ eN E) {p : Program} {e : Env} {s : State} {m : MethodId} {args : Array Value} {below : List Frame} {meth : Method} {c : Code} (C : Cq E p s m args meth c cX3_tryMonths 3 RX3) {Q : State → Prop} {u1 : Int32} : ∀ (n : Nat) (v2 : Int32) (μ : Mm) (μx : Mm), F_X3_tryMonths_13 u1 n v2 μ = some μx → Gq E p l e rm_X3_tryMonths s m args below meth c 0 0 3 Q 33 [] [] μx → Gq E p l e rm_X3_tryMonths s m args below meth c 0 0 3 Q 13 [(0, .ref (eB E + 0)), (1, .int u1), (2, .int v2)] [] μ := by
  intro n
  induction n with
  | zero =>
    intro v2 μ μx z0 kk
    rw [F_X3_tryMonths_13] at z0
    cases z0
  | succ n ih =>
    intro v2 μ μx z0 kk
    rw [F_X3_tryMonths_13] at z0
    refine gq_iload_n C dX3_tryMonths_13 rfl 2 rfl ?_
    refine gq_iload_n C dX3_tryMonths_14 rfl 1 rfl ?_
    rcases ite_ex z0 with ⟨c4, z5⟩ | ⟨c4, z5⟩
    · refine gq_icmp_ge_t (tgt := 33) C dX3_tryMonths_15 (by decide) c4 ?_
      cases z5
      exact gq_widen (Nat.le_of_ble_eq_true rfl) (Nat.le_of_ble_eq_true rfl) (gq_sub [] rfl kk)
    · refine gq_icmp_ge_f (tgt := 33) C dX3_tryMonths_15 (by decide) c4 ?_
      refine gq_aload_n C dX3_tryMonths_18 rfl 0 rfl ?_
      refine gq_get0 C (qn_l 0 (by decide) hN) (by decide) 1 (by decide) wk_1_228 rfl dX3_tryMonths_19 ?_
      refine gq_iconst (v := -1) C dX3_tryMonths_22 (by decide) ?_
      obtain ⟨⟨x8, m9⟩, eo7, z6⟩ := bind_ex z5
      dsimp only at z6
      refine gq_V (As := [.int (-1 : Int32)]) (rest := []) (j := 1) C (c_X1_runMonth hN (show kd 23 = 1 by decide) eo7) (qn_l 23 (by decide) hN) (by decide) (by decide) rfl wk_5_118 wk_5_119 wk_5_120 wk_1_2 wk_5_121 hd_X1_runMonth ⟨(Nat.le_of_ble_eq_true rfl), (Nat.le_of_ble_eq_true rfl)⟩ (Nat.le_of_ble_eq_true rfl) ⟨(Nat.le_of_ble_eq_true rfl), (Nat.le_of_ble_eq_true rfl)⟩ dX3_tryMonths_23 rfl rfl ?_
      refine gq_popi C dX3_tryMonths_26 ?_
      refine gq_iinc (v := (v2 + 1)) (lv' := [(2, .int (v2 + 1)), (0, .ref (eB E + 0)), (1, .int u1)]) (q := 2) C dX3_tryMonths_27 rfl rfl (by decide) rfl ?_
      refine gq_goto (tgt := 13) C dX3_tryMonths_30 (by decide) ?_
      refine gq_widen (k' := 0) (n' := 0) (Nat.le_of_ble_eq_true rfl) (Nat.le_of_ble_eq_true rfl) (gq_sub [1, 2, 0] rfl ?_)
      exact ih _ _ _ z6 kk
set_option maxHeartbeats 4000000 in
set_option maxRecDepth 100000 in
theorem c_X3_tryMonths {l : Launch} {E : Ev} (hN : 295 ≤ eN E) {p1 : Int32} {μ : Mm} {μ' : Mm} (z0 : F_X3_tryMonths p1 μ = some μ') : Ct l E yX3_tryMonths (Cond.code yX3_tryMonths cX3_tryMonths 3 none :: GW) rm_X3_tryMonths [.ref (eB E + 0), .int p1] μ none μ' := by
  refine ct_of (by decide) (Nat.le_of_ble_eq_true rfl) (fun p e s m args below meth c C hr => ?_)
  have C : Cq E p s m args meth c cX3_tryMonths 3 RX3 := C
  refine gq_lv (lv' := [(0, .ref (eB E + 0)), (1, .int p1)]) rfl ?_
  unfold F_X3_tryMonths at z0
  refine gq_aload_n C dX3_tryMonths_0 rfl 0 rfl ?_
  refine gq_get0 C (qn_l 0 (by decide) hN) (by decide) 1 (by decide) wk_1_228 rfl dX3_tryMonths_1 ?_
  refine gq_aload_n C dX3_tryMonths_4 rfl 0 rfl ?_
  refine gq_get0 C (qn_l 0 (by decide) hN) (by decide) 0 (by decide) wk_1_227 rfl dX3_tryMonths_5 ?_
  obtain ⟨m3, eo2, z1⟩ := bind_ex z0
  refine gq_V (As := [.ref (eB E + 1)]) (rest := []) (j := 1) C (c_X1_copyFrom hN (show kd 23 = 1 by decide) (show kd 1 = 1 by decide) eo2) (qn_l 23 (by decide) hN) (by decide) (by decide) rfl wk_2_133 wk_2_134 wk_2_135 wk_1_2 wk_2_136 hd_X1_copyFrom ⟨(Nat.le_of_ble_eq_true rfl), (Nat.le_of_ble_eq_true rfl)⟩ (Nat.le_of_ble_eq_true rfl) ⟨(Nat.le_of_ble_eq_true rfl), (Nat.le_of_ble_eq_true rfl)⟩ dX3_tryMonths_8 rfl rfl ?_
  refine gq_iconst (v := 0) C dX3_tryMonths_11 (by decide) ?_
  refine gq_istore_n (lv' := [(2, .int (0 : Int32)), (0, .ref (eB E + 0)), (1, .int p1)]) C dX3_tryMonths_12 rfl (by decide) rfl ?_
  obtain ⟨m12, eo11, z10⟩ := bind_ex z1
  refine gq_widen (k' := 0) (n' := 0) (Nat.le_of_ble_eq_true rfl) (Nat.le_of_ble_eq_true rfl) (gq_sub [1, 2, 0] rfl ?_)
  refine l_X3_tryMonths_13 hN C  qFuel _ _ _ eo11 ?_
  cases z10
  exact gq_vret C hr dX3_tryMonths_33 (Nat.le_of_ble_eq_true rfl) (Nat.le_of_ble_eq_true rfl)
abbrev rm_X3_expected : Room := { frames := 7, cells := 2, slots := 12, locals := 171 }
def F_X3_expected (p1 : Int32) (p2 : Int32) (μ : Mm) : Option (Nat × Int32 × Mm) :=
  (F_X3_needRow 9 p1 μ).bind fun o2 =>
  if o2 = 0 then ((F_X3_needRange p2 (1 : Int32) (36 : Int32) μ).bind fun o7 =>
  if o7 = 0 then ((F_X3_tryMonths p2 μ).bind fun o12 =>
  (F_X2_get 31 p1 (7 : Int32) o12).bind fun o15 =>
  (F_X2_get 9 p1 (7 : Int32) o12).bind fun o18 =>
  some (0, (o15 - o18), o12))
  else some (o7, 0, μ))
  else some (o2, 0, μ)
set_option maxHeartbeats 4000000 in
set_option maxRecDepth 100000 in
theorem c_X3_expected {l : Launch} {E : Ev} (hN : 295 ≤ eN E) (hl9 : l.stackTraces = false) {p1 : Int32} {p2 : Int32} {μ : Mm} {ec : Nat} {r : Int32} {μ' : Mm} (z0 : F_X3_expected p1 p2 μ = some (ec, r, μ')) : Cx l E yX3_expected (Cond.code yX3_expected cX3_expected 3 (some .int) :: GW) rm_X3_expected [.ref (eB E + 0), .int p1, .int p2] μ ec (some (.int r)) μ' := by
  refine cx_of (by decide) (Nat.le_of_ble_eq_true rfl) (fun p e s m args below meth c C hr hout => ?_)
  have C : Cq E p s m args meth c cX3_expected 3 RX3 := C
  refine gq_lv (lv' := [(0, .ref (eB E + 0)), (1, .int p1), (2, .int p2)]) rfl ?_
  unfold F_X3_expected at z0
  refine gq_aload_n C dX3_expected_0 rfl 0 rfl ?_
  refine gq_get0 C (qn_l 0 (by decide) hN) (by decide) 0 (by decide) wk_1_227 rfl dX3_expected_1 ?_
  refine gq_get1N C (qn_l 1 (by decide) hN) (by decide) 6 (by decide) wk_1_76 rfl dX3_expected_4 ?_
  refine gq_iload_n C dX3_expected_7 rfl 1 rfl ?_
  obtain ⟨x3, eo2, z1⟩ := bind_ex z0
  rcases ite_ex z1 with ⟨c4, z5⟩ | ⟨c4, z5⟩
  · refine gx_S (As := [.ref (eB E + 9), .int p1]) (rest := []) C (μF := μ) (oF := none) (mcF := 1000000) (msF := 1000000) (Or.inr c4) (fun h9 => absurd c4 h9) hout (Nat.le_of_ble_eq_true rfl) (Nat.le_of_ble_eq_true rfl) (c_X3_needRow hN hl9 (show kd 9 = 2 by decide) eo2) wk_5_0 wk_5_1 wk_1_1 wk_5_2 hd_X3_needRow ⟨(Nat.le_of_ble_eq_true rfl), (Nat.le_of_ble_eq_true rfl)⟩ (Nat.le_of_ble_eq_true rfl) ⟨(Nat.le_of_ble_eq_true rfl), (Nat.le_of_ble_eq_true rfl)⟩ dX3_expected_8 rfl rfl (fun _ => ?_)
    refine gq_iload_n C dX3_expected_11 rfl 2 rfl ?_
    refine gq_iconst (v := 1) C dX3_expected_12 (by decide) ?_
    refine gq_bipush (v := 36) C dX3_expected_13 (by decide) ?_
    obtain ⟨x8, eo7, z6⟩ := bind_ex z5
    rcases ite_ex z6 with ⟨c9, z10⟩ | ⟨c9, z10⟩
    · refine gx_S (As := [.int p2, .int (1 : Int32), .int (36 : Int32)]) (rest := []) C (μF := μ) (oF := none) (mcF := 1000000) (msF := 1000000) (Or.inr c9) (fun h9 => absurd c9 h9) hout (Nat.le_of_ble_eq_true rfl) (Nat.le_of_ble_eq_true rfl) (c_X3_needRange hN hl9  eo7) wk_5_110 wk_5_111 wk_1_1 wk_5_112 hd_X3_needRange ⟨(Nat.le_of_ble_eq_true rfl), (Nat.le_of_ble_eq_true rfl)⟩ (Nat.le_of_ble_eq_true rfl) ⟨(Nat.le_of_ble_eq_true rfl), (Nat.le_of_ble_eq_true rfl)⟩ dX3_expected_15 rfl rfl (fun _ => ?_)
      refine gq_aload_n C dX3_expected_18 rfl 0 rfl ?_
      refine gq_iload_n C dX3_expected_19 rfl 2 rfl ?_
      obtain ⟨m13, eo12, z11⟩ := bind_ex z10
      refine gq_V (As := [.int p2]) (rest := []) (j := 0) C (c_X3_tryMonths hN  eo12) (qn_l 0 (by decide) hN) (by decide) (by decide) rfl wk_5_114 wk_5_116 ws_X3_tryMonths wk_1_1 wk_5_117 hd_X3_tryMonths ⟨(Nat.le_of_ble_eq_true rfl), (Nat.le_of_ble_eq_true rfl)⟩ (Nat.le_of_ble_eq_true rfl) ⟨(Nat.le_of_ble_eq_true rfl), (Nat.le_of_ble_eq_true rfl)⟩ dX3_expected_20 rfl rfl ?_
      refine gq_aload_n C dX3_expected_23 rfl 0 rfl ?_
      refine gq_get0 C (qn_l 0 (by decide) hN) (by decide) 1 (by decide) wk_1_228 rfl dX3_expected_24 ?_
      refine gq_get1N C (qn_l 23 (by decide) hN) (by decide) 6 (by decide) wk_1_76 rfl dX3_expected_27 ?_
      refine gq_iload_n C dX3_expected_30 rfl 1 rfl ?_
      refine gq_bipush (v := 7) C dX3_expected_31 (by decide) ?_
      obtain ⟨x16, eo15, z14⟩ := bind_ex z11
      refine gq_V (As := [.int p1, .int (7 : Int32)]) (rest := []) (j := 2) C (c_X2_get hN (show kd 31 = 2 by decide) eo15) (qn_l 31 (by decide) hN) (by decide) (by decide) rfl wk_2_67 wk_2_60 wk_2_61 wk_1_3 wk_2_62 hd_X2_get ⟨(Nat.le_of_ble_eq_true rfl), (Nat.le_of_ble_eq_true rfl)⟩ (Nat.le_of_ble_eq_true rfl) ⟨(Nat.le_of_ble_eq_true rfl), (Nat.le_of_ble_eq_true rfl)⟩ dX3_expected_33 rfl rfl ?_
      refine gq_aload_n C dX3_expected_36 rfl 0 rfl ?_
      refine gq_get0 C (qn_l 0 (by decide) hN) (by decide) 0 (by decide) wk_1_227 rfl dX3_expected_37 ?_
      refine gq_get1N C (qn_l 1 (by decide) hN) (by decide) 6 (by decide) wk_1_76 rfl dX3_expected_40 ?_
      refine gq_iload_n C dX3_expected_43 rfl 1 rfl ?_
      refine gq_bipush (v := 7) C dX3_expected_44 (by decide) ?_
      obtain ⟨x19, eo18, z17⟩ := bind_ex z14
      refine gq_V (As := [.int p1, .int (7 : Int32)]) (rest := [.int x16]) (j := 2) C (c_X2_get hN (show kd 9 = 2 by decide) eo18) (qn_l 9 (by decide) hN) (by decide) (by decide) rfl wk_2_67 wk_2_60 wk_2_61 wk_1_3 wk_2_62 hd_X2_get ⟨(Nat.le_of_ble_eq_true rfl), (Nat.le_of_ble_eq_true rfl)⟩ (Nat.le_of_ble_eq_true rfl) ⟨(Nat.le_of_ble_eq_true rfl), (Nat.le_of_ble_eq_true rfl)⟩ dX3_expected_46 rfl rfl ?_
      refine gq_isub C dX3_expected_49 ?_
      cases z17
      exact gx_ret (gq_iret C hr dX3_expected_50 (Nat.le_of_ble_eq_true rfl) (Nat.le_of_ble_eq_true rfl))
    · cases z10
      refine gx_S (As := [.int p2, .int (1 : Int32), .int (36 : Int32)]) (rest := []) C (Or.inl rfl) (fun _ => rfl) hout (Nat.le_of_ble_eq_true rfl) (Nat.le_of_ble_eq_true rfl) (c_X3_needRange hN hl9  eo7) wk_5_110 wk_5_111 wk_1_1 wk_5_112 hd_X3_needRange ⟨(Nat.le_of_ble_eq_true rfl), (Nat.le_of_ble_eq_true rfl)⟩ (Nat.le_of_ble_eq_true rfl) ⟨(Nat.le_of_ble_eq_true rfl), (Nat.le_of_ble_eq_true rfl)⟩ dX3_expected_15 rfl rfl (fun h9 => absurd h9 c9)
  · cases z5
    refine gx_S (As := [.ref (eB E + 9), .int p1]) (rest := []) C (Or.inl rfl) (fun _ => rfl) hout (Nat.le_of_ble_eq_true rfl) (Nat.le_of_ble_eq_true rfl) (c_X3_needRow hN hl9 (show kd 9 = 2 by decide) eo2) wk_5_0 wk_5_1 wk_1_1 wk_5_2 hd_X3_needRow ⟨(Nat.le_of_ble_eq_true rfl), (Nat.le_of_ble_eq_true rfl)⟩ (Nat.le_of_ble_eq_true rfl) ⟨(Nat.le_of_ble_eq_true rfl), (Nat.le_of_ble_eq_true rfl)⟩ dX3_expected_8 rfl rfl (fun h9 => absurd h9 c4)
abbrev rm_X3_cutMonths : Room := { frames := 7, cells := 2, slots := 12, locals := 171 }
def F_X3_cutMonths (p1 : Int32) (p2 : Int32) (μ : Mm) : Option (Nat × Int32 × Mm) :=
  (F_X3_needRow 9 p1 μ).bind fun o2 =>
  if o2 = 0 then ((F_X3_needRange p2 (1 : Int32) (36 : Int32) μ).bind fun o7 =>
  if o7 = 0 then ((F_X3_tryMonths p2 μ).bind fun o12 =>
  (F_X2_get 31 p1 (9 : Int32) o12).bind fun o15 =>
  (F_X2_get 9 p1 (9 : Int32) o12).bind fun o18 =>
  some (0, (o15 - o18), o12))
  else some (o7, 0, μ))
  else some (o2, 0, μ)
set_option maxHeartbeats 4000000 in
set_option maxRecDepth 100000 in
theorem c_X3_cutMonths {l : Launch} {E : Ev} (hN : 295 ≤ eN E) (hl9 : l.stackTraces = false) {p1 : Int32} {p2 : Int32} {μ : Mm} {ec : Nat} {r : Int32} {μ' : Mm} (z0 : F_X3_cutMonths p1 p2 μ = some (ec, r, μ')) : Cx l E yX3_cutMonths (Cond.code yX3_cutMonths cX3_cutMonths 3 (some .int) :: GW) rm_X3_cutMonths [.ref (eB E + 0), .int p1, .int p2] μ ec (some (.int r)) μ' := by
  refine cx_of (by decide) (Nat.le_of_ble_eq_true rfl) (fun p e s m args below meth c C hr hout => ?_)
  have C : Cq E p s m args meth c cX3_cutMonths 3 RX3 := C
  refine gq_lv (lv' := [(0, .ref (eB E + 0)), (1, .int p1), (2, .int p2)]) rfl ?_
  unfold F_X3_cutMonths at z0
  refine gq_aload_n C dX3_cutMonths_0 rfl 0 rfl ?_
  refine gq_get0 C (qn_l 0 (by decide) hN) (by decide) 0 (by decide) wk_1_227 rfl dX3_cutMonths_1 ?_
  refine gq_get1N C (qn_l 1 (by decide) hN) (by decide) 6 (by decide) wk_1_76 rfl dX3_cutMonths_4 ?_
  refine gq_iload_n C dX3_cutMonths_7 rfl 1 rfl ?_
  obtain ⟨x3, eo2, z1⟩ := bind_ex z0
  rcases ite_ex z1 with ⟨c4, z5⟩ | ⟨c4, z5⟩
  · refine gx_S (As := [.ref (eB E + 9), .int p1]) (rest := []) C (μF := μ) (oF := none) (mcF := 1000000) (msF := 1000000) (Or.inr c4) (fun h9 => absurd c4 h9) hout (Nat.le_of_ble_eq_true rfl) (Nat.le_of_ble_eq_true rfl) (c_X3_needRow hN hl9 (show kd 9 = 2 by decide) eo2) wk_5_0 wk_5_1 wk_1_1 wk_5_2 hd_X3_needRow ⟨(Nat.le_of_ble_eq_true rfl), (Nat.le_of_ble_eq_true rfl)⟩ (Nat.le_of_ble_eq_true rfl) ⟨(Nat.le_of_ble_eq_true rfl), (Nat.le_of_ble_eq_true rfl)⟩ dX3_cutMonths_8 rfl rfl (fun _ => ?_)
    refine gq_iload_n C dX3_cutMonths_11 rfl 2 rfl ?_
    refine gq_iconst (v := 1) C dX3_cutMonths_12 (by decide) ?_
    refine gq_bipush (v := 36) C dX3_cutMonths_13 (by decide) ?_
    obtain ⟨x8, eo7, z6⟩ := bind_ex z5
    rcases ite_ex z6 with ⟨c9, z10⟩ | ⟨c9, z10⟩
    · refine gx_S (As := [.int p2, .int (1 : Int32), .int (36 : Int32)]) (rest := []) C (μF := μ) (oF := none) (mcF := 1000000) (msF := 1000000) (Or.inr c9) (fun h9 => absurd c9 h9) hout (Nat.le_of_ble_eq_true rfl) (Nat.le_of_ble_eq_true rfl) (c_X3_needRange hN hl9  eo7) wk_5_110 wk_5_111 wk_1_1 wk_5_112 hd_X3_needRange ⟨(Nat.le_of_ble_eq_true rfl), (Nat.le_of_ble_eq_true rfl)⟩ (Nat.le_of_ble_eq_true rfl) ⟨(Nat.le_of_ble_eq_true rfl), (Nat.le_of_ble_eq_true rfl)⟩ dX3_cutMonths_15 rfl rfl (fun _ => ?_)
      refine gq_aload_n C dX3_cutMonths_18 rfl 0 rfl ?_
      refine gq_iload_n C dX3_cutMonths_19 rfl 2 rfl ?_
      obtain ⟨m13, eo12, z11⟩ := bind_ex z10
      refine gq_V (As := [.int p2]) (rest := []) (j := 0) C (c_X3_tryMonths hN  eo12) (qn_l 0 (by decide) hN) (by decide) (by decide) rfl wk_5_114 wk_5_116 ws_X3_tryMonths wk_1_1 wk_5_117 hd_X3_tryMonths ⟨(Nat.le_of_ble_eq_true rfl), (Nat.le_of_ble_eq_true rfl)⟩ (Nat.le_of_ble_eq_true rfl) ⟨(Nat.le_of_ble_eq_true rfl), (Nat.le_of_ble_eq_true rfl)⟩ dX3_cutMonths_20 rfl rfl ?_
      refine gq_aload_n C dX3_cutMonths_23 rfl 0 rfl ?_
      refine gq_get0 C (qn_l 0 (by decide) hN) (by decide) 1 (by decide) wk_1_228 rfl dX3_cutMonths_24 ?_
      refine gq_get1N C (qn_l 23 (by decide) hN) (by decide) 6 (by decide) wk_1_76 rfl dX3_cutMonths_27 ?_
      refine gq_iload_n C dX3_cutMonths_30 rfl 1 rfl ?_
      refine gq_bipush (v := 9) C dX3_cutMonths_31 (by decide) ?_
      obtain ⟨x16, eo15, z14⟩ := bind_ex z11
      refine gq_V (As := [.int p1, .int (9 : Int32)]) (rest := []) (j := 2) C (c_X2_get hN (show kd 31 = 2 by decide) eo15) (qn_l 31 (by decide) hN) (by decide) (by decide) rfl wk_2_67 wk_2_60 wk_2_61 wk_1_3 wk_2_62 hd_X2_get ⟨(Nat.le_of_ble_eq_true rfl), (Nat.le_of_ble_eq_true rfl)⟩ (Nat.le_of_ble_eq_true rfl) ⟨(Nat.le_of_ble_eq_true rfl), (Nat.le_of_ble_eq_true rfl)⟩ dX3_cutMonths_33 rfl rfl ?_
      refine gq_aload_n C dX3_cutMonths_36 rfl 0 rfl ?_
      refine gq_get0 C (qn_l 0 (by decide) hN) (by decide) 0 (by decide) wk_1_227 rfl dX3_cutMonths_37 ?_
      refine gq_get1N C (qn_l 1 (by decide) hN) (by decide) 6 (by decide) wk_1_76 rfl dX3_cutMonths_40 ?_
      refine gq_iload_n C dX3_cutMonths_43 rfl 1 rfl ?_
      refine gq_bipush (v := 9) C dX3_cutMonths_44 (by decide) ?_
      obtain ⟨x19, eo18, z17⟩ := bind_ex z14
      refine gq_V (As := [.int p1, .int (9 : Int32)]) (rest := [.int x16]) (j := 2) C (c_X2_get hN (show kd 9 = 2 by decide) eo18) (qn_l 9 (by decide) hN) (by decide) (by decide) rfl wk_2_67 wk_2_60 wk_2_61 wk_1_3 wk_2_62 hd_X2_get ⟨(Nat.le_of_ble_eq_true rfl), (Nat.le_of_ble_eq_true rfl)⟩ (Nat.le_of_ble_eq_true rfl) ⟨(Nat.le_of_ble_eq_true rfl), (Nat.le_of_ble_eq_true rfl)⟩ dX3_cutMonths_46 rfl rfl ?_
      refine gq_isub C dX3_cutMonths_49 ?_
      cases z17
      exact gx_ret (gq_iret C hr dX3_cutMonths_50 (Nat.le_of_ble_eq_true rfl) (Nat.le_of_ble_eq_true rfl))
    · cases z10
      refine gx_S (As := [.int p2, .int (1 : Int32), .int (36 : Int32)]) (rest := []) C (Or.inl rfl) (fun _ => rfl) hout (Nat.le_of_ble_eq_true rfl) (Nat.le_of_ble_eq_true rfl) (c_X3_needRange hN hl9  eo7) wk_5_110 wk_5_111 wk_1_1 wk_5_112 hd_X3_needRange ⟨(Nat.le_of_ble_eq_true rfl), (Nat.le_of_ble_eq_true rfl)⟩ (Nat.le_of_ble_eq_true rfl) ⟨(Nat.le_of_ble_eq_true rfl), (Nat.le_of_ble_eq_true rfl)⟩ dX3_cutMonths_15 rfl rfl (fun h9 => absurd h9 c9)
  · cases z5
    refine gx_S (As := [.ref (eB E + 9), .int p1]) (rest := []) C (Or.inl rfl) (fun _ => rfl) hout (Nat.le_of_ble_eq_true rfl) (Nat.le_of_ble_eq_true rfl) (c_X3_needRow hN hl9 (show kd 9 = 2 by decide) eo2) wk_5_0 wk_5_1 wk_1_1 wk_5_2 hd_X3_needRow ⟨(Nat.le_of_ble_eq_true rfl), (Nat.le_of_ble_eq_true rfl)⟩ (Nat.le_of_ble_eq_true rfl) ⟨(Nat.le_of_ble_eq_true rfl), (Nat.le_of_ble_eq_true rfl)⟩ dX3_cutMonths_8 rfl rfl (fun h9 => absurd h9 c4)
abbrev rm_X3_balanceAfter : Room := { frames := 7, cells := 2, slots := 12, locals := 171 }
def F_X3_balanceAfter (p1 : Int32) (p2 : Int32) (μ : Mm) : Option (Nat × Int64 × Mm) :=
  (F_X3_needRow 6 p1 μ).bind fun o2 =>
  if o2 = 0 then ((F_X3_needRange p2 (1 : Int32) (36 : Int32) μ).bind fun o7 =>
  if o7 = 0 then ((F_X3_tryMonths p2 μ).bind fun o12 =>
  (F_X1_balanceOf 23 p1 o12).bind fun o15 =>
  some (0, o15, o12))
  else some (o7, 0, μ))
  else some (o2, 0, μ)
set_option maxHeartbeats 4000000 in
set_option maxRecDepth 100000 in
theorem c_X3_balanceAfter {l : Launch} {E : Ev} (hN : 295 ≤ eN E) (hl9 : l.stackTraces = false) {p1 : Int32} {p2 : Int32} {μ : Mm} {ec : Nat} {r : Int64} {μ' : Mm} (z0 : F_X3_balanceAfter p1 p2 μ = some (ec, r, μ')) : Cx l E yX3_balanceAfter (Cond.code yX3_balanceAfter cX3_balanceAfter 3 (some .long) :: GW) rm_X3_balanceAfter [.ref (eB E + 0), .int p1, .int p2] μ ec (some (.long r)) μ' := by
  refine cx_of (by decide) (Nat.le_of_ble_eq_true rfl) (fun p e s m args below meth c C hr hout => ?_)
  have C : Cq E p s m args meth c cX3_balanceAfter 3 RX3 := C
  refine gq_lv (lv' := [(0, .ref (eB E + 0)), (1, .int p1), (2, .int p2)]) rfl ?_
  unfold F_X3_balanceAfter at z0
  refine gq_aload_n C dX3_balanceAfter_0 rfl 0 rfl ?_
  refine gq_get0 C (qn_l 0 (by decide) hN) (by decide) 0 (by decide) wk_1_227 rfl dX3_balanceAfter_1 ?_
  refine gq_get1N C (qn_l 1 (by decide) hN) (by decide) 4 (by decide) wk_1_72 rfl dX3_balanceAfter_4 ?_
  refine gq_iload_n C dX3_balanceAfter_7 rfl 1 rfl ?_
  obtain ⟨x3, eo2, z1⟩ := bind_ex z0
  rcases ite_ex z1 with ⟨c4, z5⟩ | ⟨c4, z5⟩
  · refine gx_S (As := [.ref (eB E + 6), .int p1]) (rest := []) C (μF := μ) (oF := none) (mcF := 1000000) (msF := 1000000) (Or.inr c4) (fun h9 => absurd c4 h9) hout (Nat.le_of_ble_eq_true rfl) (Nat.le_of_ble_eq_true rfl) (c_X3_needRow hN hl9 (show kd 6 = 2 by decide) eo2) wk_5_0 wk_5_1 wk_1_1 wk_5_2 hd_X3_needRow ⟨(Nat.le_of_ble_eq_true rfl), (Nat.le_of_ble_eq_true rfl)⟩ (Nat.le_of_ble_eq_true rfl) ⟨(Nat.le_of_ble_eq_true rfl), (Nat.le_of_ble_eq_true rfl)⟩ dX3_balanceAfter_8 rfl rfl (fun _ => ?_)
    refine gq_iload_n C dX3_balanceAfter_11 rfl 2 rfl ?_
    refine gq_iconst (v := 1) C dX3_balanceAfter_12 (by decide) ?_
    refine gq_bipush (v := 36) C dX3_balanceAfter_13 (by decide) ?_
    obtain ⟨x8, eo7, z6⟩ := bind_ex z5
    rcases ite_ex z6 with ⟨c9, z10⟩ | ⟨c9, z10⟩
    · refine gx_S (As := [.int p2, .int (1 : Int32), .int (36 : Int32)]) (rest := []) C (μF := μ) (oF := none) (mcF := 1000000) (msF := 1000000) (Or.inr c9) (fun h9 => absurd c9 h9) hout (Nat.le_of_ble_eq_true rfl) (Nat.le_of_ble_eq_true rfl) (c_X3_needRange hN hl9  eo7) wk_5_110 wk_5_111 wk_1_1 wk_5_112 hd_X3_needRange ⟨(Nat.le_of_ble_eq_true rfl), (Nat.le_of_ble_eq_true rfl)⟩ (Nat.le_of_ble_eq_true rfl) ⟨(Nat.le_of_ble_eq_true rfl), (Nat.le_of_ble_eq_true rfl)⟩ dX3_balanceAfter_15 rfl rfl (fun _ => ?_)
      refine gq_aload_n C dX3_balanceAfter_18 rfl 0 rfl ?_
      refine gq_iload_n C dX3_balanceAfter_19 rfl 2 rfl ?_
      obtain ⟨m13, eo12, z11⟩ := bind_ex z10
      refine gq_V (As := [.int p2]) (rest := []) (j := 0) C (c_X3_tryMonths hN  eo12) (qn_l 0 (by decide) hN) (by decide) (by decide) rfl wk_5_114 wk_5_116 ws_X3_tryMonths wk_1_1 wk_5_117 hd_X3_tryMonths ⟨(Nat.le_of_ble_eq_true rfl), (Nat.le_of_ble_eq_true rfl)⟩ (Nat.le_of_ble_eq_true rfl) ⟨(Nat.le_of_ble_eq_true rfl), (Nat.le_of_ble_eq_true rfl)⟩ dX3_balanceAfter_20 rfl rfl ?_
      refine gq_aload_n C dX3_balanceAfter_23 rfl 0 rfl ?_
      refine gq_get0 C (qn_l 0 (by decide) hN) (by decide) 1 (by decide) wk_1_228 rfl dX3_balanceAfter_24 ?_
      refine gq_iload_n C dX3_balanceAfter_27 rfl 1 rfl ?_
      obtain ⟨x16, eo15, z14⟩ := bind_ex z11
      refine gq_V (As := [.int p1]) (rest := []) (j := 1) C (c_X1_balanceOf hN (show kd 23 = 1 by decide) eo15) (qn_l 23 (by decide) hN) (by decide) (by decide) rfl wk_2_109 wk_2_110 wk_2_111 wk_1_2 wk_2_112 hd_X1_balanceOf ⟨(Nat.le_of_ble_eq_true rfl), (Nat.le_of_ble_eq_true rfl)⟩ (Nat.le_of_ble_eq_true rfl) ⟨(Nat.le_of_ble_eq_true rfl), (Nat.le_of_ble_eq_true rfl)⟩ dX3_balanceAfter_28 rfl rfl ?_
      cases z14
      exact gx_ret (gq_lret C hr dX3_balanceAfter_31 (Nat.le_of_ble_eq_true rfl) (Nat.le_of_ble_eq_true rfl))
    · cases z10
      refine gx_S (As := [.int p2, .int (1 : Int32), .int (36 : Int32)]) (rest := []) C (Or.inl rfl) (fun _ => rfl) hout (Nat.le_of_ble_eq_true rfl) (Nat.le_of_ble_eq_true rfl) (c_X3_needRange hN hl9  eo7) wk_5_110 wk_5_111 wk_1_1 wk_5_112 hd_X3_needRange ⟨(Nat.le_of_ble_eq_true rfl), (Nat.le_of_ble_eq_true rfl)⟩ (Nat.le_of_ble_eq_true rfl) ⟨(Nat.le_of_ble_eq_true rfl), (Nat.le_of_ble_eq_true rfl)⟩ dX3_balanceAfter_15 rfl rfl (fun h9 => absurd h9 c9)
  · cases z5
    refine gx_S (As := [.ref (eB E + 6), .int p1]) (rest := []) C (Or.inl rfl) (fun _ => rfl) hout (Nat.le_of_ble_eq_true rfl) (Nat.le_of_ble_eq_true rfl) (c_X3_needRow hN hl9 (show kd 6 = 2 by decide) eo2) wk_5_0 wk_5_1 wk_1_1 wk_5_2 hd_X3_needRow ⟨(Nat.le_of_ble_eq_true rfl), (Nat.le_of_ble_eq_true rfl)⟩ (Nat.le_of_ble_eq_true rfl) ⟨(Nat.le_of_ble_eq_true rfl), (Nat.le_of_ble_eq_true rfl)⟩ dX3_balanceAfter_8 rfl rfl (fun h9 => absurd h9 c4)
abbrev rm_X3_needReaches : Room := { frames := 6, cells := 1, slots := 6, locals := 90 }
def F_X3_needReaches  (μ : Mm) : Option Nat :=
  if (μ.1 2 2) = 0 then
  (some 4)
  else
  (some 0)
set_option maxHeartbeats 4000000 in
set_option maxRecDepth 100000 in
theorem c_X3_needReaches {l : Launch} {E : Ev} (hN : 295 ≤ eN E) (hl9 : l.stackTraces = false) {μ : Mm} {ec : Nat} (z0 : F_X3_needReaches  μ = some ec) : Cx l E yX3_needReaches (Cond.code yX3_needReaches cX3_needReaches 1 none :: GW) rm_X3_needReaches [.ref (eB E + 0)] μ ec none μ := by
  refine cx_of (by decide) (Nat.le_of_ble_eq_true rfl) (fun p e s m args below meth c C hr hout => ?_)
  have C : Cq E p s m args meth c cX3_needReaches 1 RX3 := C
  refine gq_lv (lv' := [(0, .ref (eB E + 0))]) rfl ?_
  unfold F_X3_needReaches at z0
  refine gq_aload_n C dX3_needReaches_0 rfl 0 rfl ?_
  refine gq_get0 C (qn_l 0 (by decide) hN) (by decide) 0 (by decide) wk_1_227 rfl dX3_needReaches_1 ?_
  refine gq_get1N C (qn_l 1 (by decide) hN) (by decide) 0 (by decide) wk_1_62 rfl dX3_needReaches_4 ?_
  refine gq_get2N C (qn_l 2 (by decide) hN) (by decide) 2 (by decide) wk_1_50 rfl dX3_needReaches_7 ?_
  rcases ite_ex z0 with ⟨c1, z2⟩ | ⟨c1, z2⟩
  · refine gq_if_ne_f (tgt := 24) C dX3_needReaches_10 (by decide) c1 ?_
    cases z2
    exact gx_throwW C hl9 (cls := "java/lang/IllegalStateException") (text := "there are no reaches") (names := ["java/lang/RuntimeException", "java/lang/Exception"]) (j := 16) (by decide +kernel) (by decide +kernel) wk_5_237 wk_1_20 (by decide +kernel) (at_X3_231 C) at_X3_231_g dX3_needReaches_13 dX3_needReaches_16 dX3_needReaches_17 dX3_needReaches_20 dX3_needReaches_23 hout (by decide) rfl (Nat.le_of_ble_eq_true rfl) (Nat.le_of_ble_eq_true rfl) (Nat.le_of_ble_eq_true rfl) (Nat.le_of_ble_eq_true rfl) (Nat.le_of_ble_eq_true rfl) (Nat.le_of_ble_eq_true rfl)
  · refine gq_if_ne_t (tgt := 24) C dX3_needReaches_10 (by decide) c1 ?_
    cases z2
    exact gx_ret (gq_vret C hr dX3_needReaches_24 (Nat.le_of_ble_eq_true rfl) (Nat.le_of_ble_eq_true rfl))
abbrev rm_X3_driestMonth : Room := { frames := 7, cells := 2, slots := 12, locals := 171 }
def F_X3_driestMonth_29 (u1 : Int32) : Nat → Int32 → Int32 → Int32 → Mm → Option (Int32 × Mm)
  | 0, _, _, _, _ => none
  | n + 1, v2, v3, v4, μ =>
  if u1 < v4 then
  (some (v2, μ))
  else
  ((F_X1_runMonth 23 (-1 : Int32) μ).bind fun o20 =>
  (F_X1_outflowOfMonth 23 o20.2).bind fun o24 =>
  (if v3 ≤ o24 then
  (some (v2, v3))
  else
  ((F_X1_outflowOfMonth 23 o20.2).bind fun o33 =>
  some (v4, o33))).bind fun o35 =>
  F_X3_driestMonth_29 u1 n o35.1 o35.2 (v4 + 1) o20.2)
def F_X3_driestMonth (p1 : Int32) (μ : Mm) : Option (Nat × Int32 × Mm) :=
  (F_X3_needRange p1 (1 : Int32) (36 : Int32) μ).bind fun o2 =>
  if o2 = 0 then ((F_X3_needReaches  μ).bind fun o7 =>
  if o7 = 0 then ((F_X3_tryMonths (1 : Int32) μ).bind fun o12 =>
  (F_X1_outflowOfMonth 23 o12).bind fun o15 =>
  (F_X3_driestMonth_29 p1 qFuel (1 : Int32) o15 (2 : Int32) o12).bind fun o37 =>
  some (0, o37.1, o37.2))
  else some (o7, 0, μ))
  else some (o2, 0, μ)
set_option maxHeartbeats 4000000 in
set_option maxRecDepth 100000 in
theorem l_X3_driestMonth_29 {l : Launch} {E : Ev} (hN : 295 ≤ eN E) {p : Program} {e : Env} {s : State} {m : MethodId} {args : Array Value} {below : List Frame} {meth : Method} {c : Code} (hl9 : l.stackTraces = false) (hout : ∀ x ∈ c.exceptionTable.toList, False) (C : Cq E p s m args meth c cX3_driestMonth 5 RX3) {Q : State → Prop} {u1 : Int32} : ∀ (n : Nat) (v2 : Int32) (v3 : Int32) (v4 : Int32) (μ : Mm) (w2 : Int32) (μx : Mm), F_X3_driestMonth_29 u1 n v2 v3 v4 μ = some (w2, μx) → Gq E p l e rm_X3_driestMonth s m args below meth c 2 12 5 Q 72 [(2, .int w2)] [] μx → Gq E p l e rm_X3_driestMonth s m args below meth c 2 12 5 Q 29 [(0, .ref (eB E + 0)), (1, .int u1), (2, .int v2), (3, .int v3), (4, .int v4)] [] μ := by
  intro n
  induction n with
  | zero =>
    intro v2 v3 v4 μ w2 μx z0 kk
    rw [F_X3_driestMonth_29] at z0
    cases z0
  | succ n ih =>
    intro v2 v3 v4 μ w2 μx z0 kk
    rw [F_X3_driestMonth_29] at z0
    refine gq_iload C dX3_driestMonth_29 4 rfl ?_
    refine gq_iload_n C dX3_driestMonth_31 rfl 1 rfl ?_
    rcases ite_ex z0 with ⟨c17, z18⟩ | ⟨c17, z18⟩
    · refine gq_icmp_gt_t (tgt := 72) C dX3_driestMonth_32 (by decide) c17 ?_
      cases z18
      exact gq_widen (Nat.le_of_ble_eq_true rfl) (Nat.le_of_ble_eq_true rfl) (gq_sub [2] rfl kk)
    · refine gq_icmp_gt_f (tgt := 72) C dX3_driestMonth_32 (by decide) c17 ?_
      refine gq_aload_n C dX3_driestMonth_35 rfl 0 rfl ?_
      refine gq_get0 C (qn_l 0 (by decide) hN) (by decide) 1 (by decide) wk_1_228 rfl dX3_driestMonth_36 ?_
      refine gq_iconst (v := -1) C dX3_driestMonth_39 (by decide) ?_
      obtain ⟨⟨x21, m22⟩, eo20, z19⟩ := bind_ex z18
      dsimp only at z19
      refine gq_V (As := [.int (-1 : Int32)]) (rest := []) (j := 1) C (c_X1_runMonth hN (show kd 23 = 1 by decide) eo20) (qn_l 23 (by decide) hN) (by decide) (by decide) rfl wk_5_118 wk_5_119 wk_5_120 wk_1_2 wk_5_121 hd_X1_runMonth ⟨(Nat.le_of_ble_eq_true rfl), (Nat.le_of_ble_eq_true rfl)⟩ (Nat.le_of_ble_eq_true rfl) ⟨(Nat.le_of_ble_eq_true rfl), (Nat.le_of_ble_eq_true rfl)⟩ dX3_driestMonth_40 rfl rfl ?_
      refine gq_popi C dX3_driestMonth_43 ?_
      refine gq_aload_n C dX3_driestMonth_44 rfl 0 rfl ?_
      refine gq_get0 C (qn_l 0 (by decide) hN) (by decide) 1 (by decide) wk_1_228 rfl dX3_driestMonth_45 ?_
      obtain ⟨x25, eo24, z23⟩ := bind_ex z19
      refine gq_V (As := []) (rest := []) (j := 1) C (c_X1_outflowOfMonth hN (show kd 23 = 1 by decide) eo24) (qn_l 23 (by decide) hN) (by decide) (by decide) rfl wk_2_81 wk_2_82 wk_2_83 wk_1_2 wk_2_84 hd_X1_outflowOfMonth ⟨(Nat.le_of_ble_eq_true rfl), (Nat.le_of_ble_eq_true rfl)⟩ (Nat.le_of_ble_eq_true rfl) ⟨(Nat.le_of_ble_eq_true rfl), (Nat.le_of_ble_eq_true rfl)⟩ dX3_driestMonth_48 rfl rfl ?_
      refine gq_iload_n C dX3_driestMonth_51 rfl 3 rfl ?_
      obtain ⟨⟨x26, x27⟩, z28, z29⟩ := bind_ex z23
      dsimp only at z29
      refine gq_join (k' := 2) (n' := 12) (pc' := 66) (lv' := [(0, .ref (eB E + 0)), (1, .int u1), (2, .int x26), (3, .int x27), (4, .int v4)]) (st' := []) (μ' := m22) ?_ (fun J66 => ?_)
      · refine gq_iinc (v := (v4 + 1)) (lv' := [(4, .int (v4 + 1)), (0, .ref (eB E + 0)), (1, .int u1), (2, .int x26), (3, .int x27)]) (q := 4) C dX3_driestMonth_66 rfl rfl (by decide) rfl ?_
        refine gq_goto (tgt := 29) C dX3_driestMonth_69 (by decide) ?_
        refine gq_widen (k' := 2) (n' := 12) (Nat.le_of_ble_eq_true rfl) (Nat.le_of_ble_eq_true rfl) (gq_sub [1, 2, 3, 4, 0] rfl ?_)
        exact ih _ _ _ _ _ _ z29 kk
      · rcases ite_ex z28 with ⟨c30, z31⟩ | ⟨c30, z31⟩
        · refine gq_icmp_ge_t (tgt := 66) C dX3_driestMonth_52 (by decide) c30 ?_
          cases z31
          exact gq_widen (Nat.le_of_ble_eq_true rfl) (Nat.le_of_ble_eq_true rfl) (gq_sub [0, 1, 2, 3, 4] rfl J66)
        · refine gq_icmp_ge_f (tgt := 66) C dX3_driestMonth_52 (by decide) c30 ?_
          refine gq_iload C dX3_driestMonth_55 4 rfl ?_
          refine gq_istore_n (lv' := [(2, .int v4), (0, .ref (eB E + 0)), (1, .int u1), (3, .int v3), (4, .int v4)]) C dX3_driestMonth_57 rfl (by decide) rfl ?_
          refine gq_aload_n C dX3_driestMonth_58 rfl 1 rfl ?_
          refine gq_get0 C (qn_l 0 (by decide) hN) (by decide) 1 (by decide) wk_1_228 rfl dX3_driestMonth_59 ?_
          obtain ⟨x34, eo33, z32⟩ := bind_ex z31
          refine gq_V (As := []) (rest := []) (j := 1) C (c_X1_outflowOfMonth hN (show kd 23 = 1 by decide) eo33) (qn_l 23 (by decide) hN) (by decide) (by decide) rfl wk_2_81 wk_2_82 wk_2_83 wk_1_2 wk_2_84 hd_X1_outflowOfMonth ⟨(Nat.le_of_ble_eq_true rfl), (Nat.le_of_ble_eq_true rfl)⟩ (Nat.le_of_ble_eq_true rfl) ⟨(Nat.le_of_ble_eq_true rfl), (Nat.le_of_ble_eq_true rfl)⟩ dX3_driestMonth_62 rfl rfl ?_
          refine gq_istore_n (lv' := [(3, .int x34), (2, .int v4), (0, .ref (eB E + 0)), (1, .int u1), (4, .int v4)]) C dX3_driestMonth_65 rfl (by decide) rfl ?_
          cases z32
          exact gq_widen (Nat.le_of_ble_eq_true rfl) (Nat.le_of_ble_eq_true rfl) (gq_sub [2, 3, 1, 0, 4] rfl J66)
set_option maxHeartbeats 4000000 in
set_option maxRecDepth 100000 in
theorem c_X3_driestMonth {l : Launch} {E : Ev} (hN : 295 ≤ eN E) (hl9 : l.stackTraces = false) {p1 : Int32} {μ : Mm} {ec : Nat} {r : Int32} {μ' : Mm} (z0 : F_X3_driestMonth p1 μ = some (ec, r, μ')) : Cx l E yX3_driestMonth (Cond.code yX3_driestMonth cX3_driestMonth 5 (some .int) :: GW) rm_X3_driestMonth [.ref (eB E + 0), .int p1] μ ec (some (.int r)) μ' := by
  refine cx_of (by decide) (Nat.le_of_ble_eq_true rfl) (fun p e s m args below meth c C hr hout => ?_)
  have C : Cq E p s m args meth c cX3_driestMonth 5 RX3 := C
  refine gq_lv (lv' := [(0, .ref (eB E + 0)), (1, .int p1)]) rfl ?_
  unfold F_X3_driestMonth at z0
  refine gq_iload_n C dX3_driestMonth_0 rfl 1 rfl ?_
  refine gq_iconst (v := 1) C dX3_driestMonth_1 (by decide) ?_
  refine gq_bipush (v := 36) C dX3_driestMonth_2 (by decide) ?_
  obtain ⟨x3, eo2, z1⟩ := bind_ex z0
  rcases ite_ex z1 with ⟨c4, z5⟩ | ⟨c4, z5⟩
  · refine gx_S (As := [.int p1, .int (1 : Int32), .int (36 : Int32)]) (rest := []) C (μF := μ) (oF := none) (mcF := 1000000) (msF := 1000000) (Or.inr c4) (fun h9 => absurd c4 h9) hout (Nat.le_of_ble_eq_true rfl) (Nat.le_of_ble_eq_true rfl) (c_X3_needRange hN hl9  eo2) wk_5_110 wk_5_111 wk_1_1 wk_5_112 hd_X3_needRange ⟨(Nat.le_of_ble_eq_true rfl), (Nat.le_of_ble_eq_true rfl)⟩ (Nat.le_of_ble_eq_true rfl) ⟨(Nat.le_of_ble_eq_true rfl), (Nat.le_of_ble_eq_true rfl)⟩ dX3_driestMonth_4 rfl rfl (fun _ => ?_)
    refine gq_aload_n C dX3_driestMonth_7 rfl 0 rfl ?_
    obtain ⟨x8, eo7, z6⟩ := bind_ex z5
    rcases ite_ex z6 with ⟨c9, z10⟩ | ⟨c9, z10⟩
    · refine gx_V (As := []) (rest := []) (j := 0) C (μF := μ) (oF := none) (mcF := 1000000) (msF := 1000000) (Or.inr c9) (fun h9 => absurd c9 h9) hout (Nat.le_of_ble_eq_true rfl) (Nat.le_of_ble_eq_true rfl) (c_X3_needReaches hN hl9  eo7) (qn_l 0 (by decide) hN) (by decide) (by decide) rfl wk_5_233 wk_5_235 ws_X3_needReaches wk_1_1 wk_5_236 hd_X3_needReaches ⟨(Nat.le_of_ble_eq_true rfl), (Nat.le_of_ble_eq_true rfl)⟩ (Nat.le_of_ble_eq_true rfl) ⟨(Nat.le_of_ble_eq_true rfl), (Nat.le_of_ble_eq_true rfl)⟩ dX3_driestMonth_8 rfl rfl (fun _ => ?_)
      refine gq_aload_n C dX3_driestMonth_11 rfl 0 rfl ?_
      refine gq_iconst (v := 1) C dX3_driestMonth_12 (by decide) ?_
      obtain ⟨m13, eo12, z11⟩ := bind_ex z10
      refine gq_V (As := [.int (1 : Int32)]) (rest := []) (j := 0) C (c_X3_tryMonths hN  eo12) (qn_l 0 (by decide) hN) (by decide) (by decide) rfl wk_5_114 wk_5_116 ws_X3_tryMonths wk_1_1 wk_5_117 hd_X3_tryMonths ⟨(Nat.le_of_ble_eq_true rfl), (Nat.le_of_ble_eq_true rfl)⟩ (Nat.le_of_ble_eq_true rfl) ⟨(Nat.le_of_ble_eq_true rfl), (Nat.le_of_ble_eq_true rfl)⟩ dX3_driestMonth_13 rfl rfl ?_
      refine gq_iconst (v := 1) C dX3_driestMonth_16 (by decide) ?_
      refine gq_istore_n (lv' := [(2, .int (1 : Int32)), (0, .ref (eB E + 0)), (1, .int p1)]) C dX3_driestMonth_17 rfl (by decide) rfl ?_
      refine gq_aload_n C dX3_driestMonth_18 rfl 1 rfl ?_
      refine gq_get0 C (qn_l 0 (by decide) hN) (by decide) 1 (by decide) wk_1_228 rfl dX3_driestMonth_19 ?_
      obtain ⟨x16, eo15, z14⟩ := bind_ex z11
      refine gq_V (As := []) (rest := []) (j := 1) C (c_X1_outflowOfMonth hN (show kd 23 = 1 by decide) eo15) (qn_l 23 (by decide) hN) (by decide) (by decide) rfl wk_2_81 wk_2_82 wk_2_83 wk_1_2 wk_2_84 hd_X1_outflowOfMonth ⟨(Nat.le_of_ble_eq_true rfl), (Nat.le_of_ble_eq_true rfl)⟩ (Nat.le_of_ble_eq_true rfl) ⟨(Nat.le_of_ble_eq_true rfl), (Nat.le_of_ble_eq_true rfl)⟩ dX3_driestMonth_22 rfl rfl ?_
      refine gq_istore_n (lv' := [(3, .int x16), (2, .int (1 : Int32)), (0, .ref (eB E + 0)), (1, .int p1)]) C dX3_driestMonth_25 rfl (by decide) rfl ?_
      refine gq_iconst (v := 2) C dX3_driestMonth_26 (by decide) ?_
      refine gq_istore (lv' := [(4, .int (2 : Int32)), (3, .int x16), (2, .int (1 : Int32)), (0, .ref (eB E + 0)), (1, .int p1)]) C dX3_driestMonth_27 (by decide) rfl ?_
      obtain ⟨⟨x38, m39⟩, eo37, z36⟩ := bind_ex z14
      dsimp only at z36
      refine gq_widen (k' := 2) (n' := 12) (Nat.le_of_ble_eq_true rfl) (Nat.le_of_ble_eq_true rfl) (gq_sub [3, 4, 2, 1, 0] rfl ?_)
      refine l_X3_driestMonth_29 hN hl9 hout C  qFuel _ _ _ _ _ _ eo37 ?_
      refine gq_iload_n C dX3_driestMonth_72 rfl 0 rfl ?_
      cases z36
      exact gx_ret (gq_iret C hr dX3_driestMonth_73 (Nat.le_of_ble_eq_true rfl) (Nat.le_of_ble_eq_true rfl))
    · cases z10
      refine gx_V (As := []) (rest := []) (j := 0) C (Or.inl rfl) (fun _ => rfl) hout (Nat.le_of_ble_eq_true rfl) (Nat.le_of_ble_eq_true rfl) (c_X3_needReaches hN hl9  eo7) (qn_l 0 (by decide) hN) (by decide) (by decide) rfl wk_5_233 wk_5_235 ws_X3_needReaches wk_1_1 wk_5_236 hd_X3_needReaches ⟨(Nat.le_of_ble_eq_true rfl), (Nat.le_of_ble_eq_true rfl)⟩ (Nat.le_of_ble_eq_true rfl) ⟨(Nat.le_of_ble_eq_true rfl), (Nat.le_of_ble_eq_true rfl)⟩ dX3_driestMonth_8 rfl rfl (fun h9 => absurd h9 c9)
  · cases z5
    refine gx_S (As := [.int p1, .int (1 : Int32), .int (36 : Int32)]) (rest := []) C (Or.inl rfl) (fun _ => rfl) hout (Nat.le_of_ble_eq_true rfl) (Nat.le_of_ble_eq_true rfl) (c_X3_needRange hN hl9  eo2) wk_5_110 wk_5_111 wk_1_1 wk_5_112 hd_X3_needRange ⟨(Nat.le_of_ble_eq_true rfl), (Nat.le_of_ble_eq_true rfl)⟩ (Nat.le_of_ble_eq_true rfl) ⟨(Nat.le_of_ble_eq_true rfl), (Nat.le_of_ble_eq_true rfl)⟩ dX3_driestMonth_4 rfl rfl (fun h9 => absurd h9 c4)
