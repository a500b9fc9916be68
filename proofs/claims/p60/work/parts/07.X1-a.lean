abbrev rm_X1_makeEmpty : Room := { frames := 1, cells := 0, slots := 0, locals := 22 }
def F_X1_makeEmpty_9 (t : Nat) : Nat → Int32 → Mm → Option Mm
  | 0, _, _ => none
  | n + 1, v1, μ =>
  if (12 : Int32) ≤ v1 then
  (some μ)
  else
  ((sI μ (t + 3) v1 (100 : Int32)).bind fun m6 =>
  F_X1_makeEmpty_9 t n (v1 + 1) m6)
def F_X1_makeEmpty_59 (t : Nat) : Nat → Int32 → Mm → Option Mm
  | 0, _, _ => none
  | n + 1, v1, μ =>
  if (5 : Int32) ≤ v1 then
  (some μ)
  else
  ((sL μ (t + 7) v1 (0 : Int64)).bind fun m24 =>
  F_X1_makeEmpty_59 t n (v1 + 1) m24)
def F_X1_makeEmpty_86 (t : Nat) : Nat → Int32 → Mm → Option Mm
  | 0, _, _ => none
  | n + 1, v1, μ =>
  if (10 : Int32) ≤ v1 then
  (some μ)
  else
  ((sI μ (t + 10) v1 (0 : Int32)).bind fun m34 =>
  (sL m34 (t + 11) v1 (0 : Int64)).bind fun m36 =>
  F_X1_makeEmpty_86 t n (v1 + 1) m36)
def F_X1_makeEmpty (t : Nat) (μ : Mm) : Option Mm :=
  (F_X2_removeAll (t + 1) μ).bind fun o2 =>
  (F_X1_makeEmpty_9 t qFuel (0 : Int32) o2).bind fun o9 =>
  (sI o9 (t + 4) (0 : Int32) (100 : Int32)).bind fun m11 =>
  (some (uI m11 t 3 (1 : Int32))).bind fun m13 =>
  (F_X2_removeAll (t + 5) m13).bind fun o16 =>
  (F_X2_addRow (t + 5) o16).bind fun o19 =>
  (F_X1_makeEmpty_59 t qFuel (0 : Int32) o19.2).bind fun o27 =>
  (F_X2_removeAll (t + 8) o27).bind fun o30 =>
  (F_X1_makeEmpty_86 t qFuel (0 : Int32) o30).bind fun o39 =>
  (F_X2_removeAll (t + 12) o39).bind fun o42 =>
  (F_X2_removeAll (t + 14) o42).bind fun o45 =>
  (F_X2_removeAll (t + 16) o45).bind fun o48 =>
  (F_X2_removeAll (t + 18) o48).bind fun o51 =>
  (F_X2_removeAll (t + 20) o51).bind fun o54 =>
  (some (uI o54 t 14 (0 : Int32))).bind fun m56 =>
  (some (uI m56 t 15 (0 : Int32))).bind fun m58 =>
  (some (uI m58 t 16 (0 : Int32))).bind fun m60 =>
  (some (uI m60 t 17 (0 : Int32))).bind fun m62 =>
  (some (uI m62 t 18 (0 : Int32))).bind fun m64 =>
  some m64
set_option maxHeartbeats 4000000 in
set_option maxRecDepth 100000 in
theorem l_X1_makeEmpty_9 {l : Launch} {E : Ev} (hN : 295 ≤ eN E) {p : Program} {e : Env} {s : State} {m : MethodId} {args : Array Value} {below : List Frame} {meth : Method} {c : Code} (C : Cq E p s m args meth c cX1_makeEmpty 2 RX1) {Q : State → Prop} {t : Nat} (k_t : kd t = 1) : ∀ (n : Nat) (v1 : Int32) (μ : Mm) (μx : Mm), F_X1_makeEmpty_9 t n v1 μ = some μx → Gq E p l e rm_X1_makeEmpty s m args below meth c 0 0 2 Q 29 [(0, .ref (eB E + t))] [] μx → Gq E p l e rm_X1_makeEmpty s m args below meth c 0 0 2 Q 9 [(0, .ref (eB E + t)), (1, .int v1)] [] μ := by
  intro n
  induction n with
  | zero =>
    intro v1 μ μx z0 kk
    rw [F_X1_makeEmpty_9] at z0
    cases z0
  | succ n ih =>
    intro v1 μ μx z0 kk
    rw [F_X1_makeEmpty_9] at z0
    refine gq_iload_n C dX1_makeEmpty_9 rfl 1 rfl ?_
    refine gq_bipush (v := 12) C dX1_makeEmpty_10 (by decide) ?_
    rcases ite_ex z0 with ⟨c4, z5⟩ | ⟨c4, z5⟩
    · refine gq_icmp_ge_t (tgt := 29) C dX1_makeEmpty_12 (by decide) c4 ?_
      cases z5
      exact gq_widen (Nat.le_of_ble_eq_true rfl) (Nat.le_of_ble_eq_true rfl) (gq_sub [0] rfl kk)
    · refine gq_icmp_ge_f (tgt := 29) C dX1_makeEmpty_12 (by decide) c4 ?_
      refine gq_aload_n C dX1_makeEmpty_15 rfl 0 rfl ?_
      refine gq_get1 C (st_n k_t hN 0 (by decide)) k_t 1 (by decide) wk_2_153 rfl dX1_makeEmpty_16 ?_
      refine gq_iload_n C dX1_makeEmpty_19 rfl 1 rfl ?_
      refine gq_bipush (v := 100) C dX1_makeEmpty_20 (by decide) ?_
      obtain ⟨m6, em6, z7⟩ := bind_ex z5
      refine gq_iastore C (st_n k_t hN 3 (by decide)) (st_kd k_t 3 (by decide)) em6 dX1_makeEmpty_22 ?_
      refine gq_iinc (v := (v1 + 1)) (lv' := [(1, .int (v1 + 1)), (0, .ref (eB E + t))]) (q := 1) C dX1_makeEmpty_23 rfl rfl (by decide) rfl ?_
      refine gq_goto (tgt := 9) C dX1_makeEmpty_26 (by decide) ?_
      refine gq_widen (k' := 0) (n' := 0) (Nat.le_of_ble_eq_true rfl) (Nat.le_of_ble_eq_true rfl) (gq_sub [1, 0] rfl ?_)
      exact ih _ _ _ z7 kk
set_option maxHeartbeats 4000000 in
set_option maxRecDepth 100000 in
theorem l_X1_makeEmpty_59 {l : Launch} {E : Ev} (hN : 295 ≤ eN E) {p : Program} {e : Env} {s : State} {m : MethodId} {args : Array Value} {below : List Frame} {meth : Method} {c : Code} (C : Cq E p s m args meth c cX1_makeEmpty 2 RX1) {Q : State → Prop} {t : Nat} (k_t : kd t = 1) : ∀ (n : Nat) (v1 : Int32) (μ : Mm) (μx : Mm), F_X1_makeEmpty_59 t n v1 μ = some μx → Gq E p l e rm_X1_makeEmpty s m args below meth c 0 0 2 Q 77 [(0, .ref (eB E + t))] [] μx → Gq E p l e rm_X1_makeEmpty s m args below meth c 0 0 2 Q 59 [(0, .ref (eB E + t)), (1, .int v1)] [] μ := by
  intro n
  induction n with
  | zero =>
    intro v1 μ μx z0 kk
    rw [F_X1_makeEmpty_59] at z0
    cases z0
  | succ n ih =>
    intro v1 μ μx z0 kk
    rw [F_X1_makeEmpty_59] at z0
    refine gq_iload_n C dX1_makeEmpty_59 rfl 1 rfl ?_
    refine gq_iconst (v := 5) C dX1_makeEmpty_60 (by decide) ?_
    rcases ite_ex z0 with ⟨c22, z23⟩ | ⟨c22, z23⟩
    · refine gq_icmp_ge_t (tgt := 77) C dX1_makeEmpty_61 (by decide) c22 ?_
      cases z23
      exact gq_widen (Nat.le_of_ble_eq_true rfl) (Nat.le_of_ble_eq_true rfl) (gq_sub [0] rfl kk)
    · refine gq_icmp_ge_f (tgt := 77) C dX1_makeEmpty_61 (by decide) c22 ?_
      refine gq_aload_n C dX1_makeEmpty_64 rfl 0 rfl ?_
      refine gq_get1 C (st_n k_t hN 0 (by decide)) k_t 5 (by decide) wk_2_163 rfl dX1_makeEmpty_65 ?_
      refine gq_iload_n C dX1_makeEmpty_68 rfl 1 rfl ?_
      refine gq_lconst (v := 0) C dX1_makeEmpty_69 (by decide) ?_
      obtain ⟨m24, em24, z25⟩ := bind_ex z23
      refine gq_lastore C (st_n k_t hN 7 (by decide)) (st_kd k_t 7 (by decide)) em24 dX1_makeEmpty_70 ?_
      refine gq_iinc (v := (v1 + 1)) (lv' := [(1, .int (v1 + 1)), (0, .ref (eB E + t))]) (q := 1) C dX1_makeEmpty_71 rfl rfl (by decide) rfl ?_
      refine gq_goto (tgt := 59) C dX1_makeEmpty_74 (by decide) ?_
      refine gq_widen (k' := 0) (n' := 0) (Nat.le_of_ble_eq_true rfl) (Nat.le_of_ble_eq_true rfl) (gq_sub [1, 0] rfl ?_)
      exact ih _ _ _ z25 kk
set_option maxHeartbeats 4000000 in
set_option maxRecDepth 100000 in
theorem l_X1_makeEmpty_86 {l : Launch} {E : Ev} (hN : 295 ≤ eN E) {p : Program} {e : Env} {s : State} {m : MethodId} {args : Array Value} {below : List Frame} {meth : Method} {c : Code} (C : Cq E p s m args meth c cX1_makeEmpty 2 RX1) {Q : State → Prop} {t : Nat} (k_t : kd t = 1) : ∀ (n : Nat) (v1 : Int32) (μ : Mm) (μx : Mm), F_X1_makeEmpty_86 t n v1 μ = some μx → Gq E p l e rm_X1_makeEmpty s m args below meth c 0 0 2 Q 112 [(0, .ref (eB E + t))] [] μx → Gq E p l e rm_X1_makeEmpty s m args below meth c 0 0 2 Q 86 [(0, .ref (eB E + t)), (1, .int v1)] [] μ := by
  intro n
  induction n with
  | zero =>
    intro v1 μ μx z0 kk
    rw [F_X1_makeEmpty_86] at z0
    cases z0
  | succ n ih =>
    intro v1 μ μx z0 kk
    rw [F_X1_makeEmpty_86] at z0
    refine gq_iload_n C dX1_makeEmpty_86 rfl 1 rfl ?_
    refine gq_bipush (v := 10) C dX1_makeEmpty_87 (by decide) ?_
    rcases ite_ex z0 with ⟨c32, z33⟩ | ⟨c32, z33⟩
    · refine gq_icmp_ge_t (tgt := 112) C dX1_makeEmpty_89 (by decide) c32 ?_
      cases z33
      exact gq_widen (Nat.le_of_ble_eq_true rfl) (Nat.le_of_ble_eq_true rfl) (gq_sub [0] rfl kk)
    · refine gq_icmp_ge_f (tgt := 112) C dX1_makeEmpty_89 (by decide) c32 ?_
      refine gq_aload_n C dX1_makeEmpty_92 rfl 0 rfl ?_
      refine gq_get1 C (st_n k_t hN 0 (by decide)) k_t 7 (by decide) wk_2_167 rfl dX1_makeEmpty_93 ?_
      refine gq_iload_n C dX1_makeEmpty_96 rfl 1 rfl ?_
      refine gq_iconst (v := 0) C dX1_makeEmpty_97 (by decide) ?_
      obtain ⟨m34, em34, z35⟩ := bind_ex z33
      refine gq_iastore C (st_n k_t hN 10 (by decide)) (st_kd k_t 10 (by decide)) em34 dX1_makeEmpty_98 ?_
      refine gq_aload_n C dX1_makeEmpty_99 rfl 0 rfl ?_
      refine gq_get1 C (st_n k_t hN 0 (by decide)) k_t 8 (by decide) wk_2_168 rfl dX1_makeEmpty_100 ?_
      refine gq_iload_n C dX1_makeEmpty_103 rfl 1 rfl ?_
      refine gq_lconst (v := 0) C dX1_makeEmpty_104 (by decide) ?_
      obtain ⟨m36, em36, z37⟩ := bind_ex z35
      refine gq_lastore C (st_n k_t hN 11 (by decide)) (st_kd k_t 11 (by decide)) em36 dX1_makeEmpty_105 ?_
      refine gq_iinc (v := (v1 + 1)) (lv' := [(1, .int (v1 + 1)), (0, .ref (eB E + t))]) (q := 1) C dX1_makeEmpty_106 rfl rfl (by decide) rfl ?_
      refine gq_goto (tgt := 86) C dX1_makeEmpty_109 (by decide) ?_
      refine gq_widen (k' := 0) (n' := 0) (Nat.le_of_ble_eq_true rfl) (Nat.le_of_ble_eq_true rfl) (gq_sub [1, 0] rfl ?_)
      exact ih _ _ _ z37 kk
set_option maxHeartbeats 4000000 in
set_option maxRecDepth 100000 in
theorem c_X1_makeEmpty {l : Launch} {E : Ev} (hN : 295 ≤ eN E) {t : Nat} (k_t : kd t = 1) {μ : Mm} {μ' : Mm} (z0 : F_X1_makeEmpty t μ = some μ') : Ct l E yX1_makeEmpty (Cond.code yX1_makeEmpty cX1_makeEmpty 2 none :: GW) rm_X1_makeEmpty [.ref (eB E + t)] μ none μ' := by
  refine ct_of (by decide) (Nat.le_of_ble_eq_true rfl) (fun p e s m args below meth c C hr => ?_)
  have C : Cq E p s m args meth c cX1_makeEmpty 2 RX1 := C
  refine gq_lv (lv' := [(0, .ref (eB E + t))]) rfl ?_
  unfold F_X1_makeEmpty at z0
  refine gq_aload_n C dX1_makeEmpty_0 rfl 0 rfl ?_
  refine gq_get1 C (st_n k_t hN 0 (by decide)) k_t 0 (by decide) wk_2_150 rfl dX1_makeEmpty_1 ?_
  obtain ⟨m3, eo2, z1⟩ := bind_ex z0
  refine gq_V (As := []) (rest := []) C (c_X2_removeAll hN (st_kd k_t 1 (by decide)) eo2) (st_n k_t hN 1 (by decide)) (st_kd k_t 1 (by decide)) (by decide) rfl wk_2_1 wk_2_2 wk_2_3 wk_1_5 wk_2_4 hd_X2_removeAll ⟨(Nat.le_of_ble_eq_true rfl), (Nat.le_of_ble_eq_true rfl)⟩ (Nat.le_of_ble_eq_true rfl) ⟨(Nat.le_of_ble_eq_true rfl), (Nat.le_of_ble_eq_true rfl)⟩ dX1_makeEmpty_4 rfl rfl ?_
  refine gq_iconst (v := 0) C dX1_makeEmpty_7 (by decide) ?_
  refine gq_istore_n (lv' := [(1, .int (0 : Int32)), (0, .ref (eB E + t))]) C dX1_makeEmpty_8 rfl (by decide) rfl ?_
  obtain ⟨m10, eo9, z8⟩ := bind_ex z1
  refine gq_widen (k' := 0) (n' := 0) (Nat.le_of_ble_eq_true rfl) (Nat.le_of_ble_eq_true rfl) (gq_sub [1, 0] rfl ?_)
  refine l_X1_makeEmpty_9 hN C k_t qFuel _ _ _ eo9 ?_
  refine gq_aload_n C dX1_makeEmpty_29 rfl 0 rfl ?_
  refine gq_get1 C (st_n k_t hN 0 (by decide)) k_t 2 (by decide) wk_2_155 rfl dX1_makeEmpty_30 ?_
  refine gq_iconst (v := 0) C dX1_makeEmpty_33 (by decide) ?_
  refine gq_bipush (v := 100) C dX1_makeEmpty_34 (by decide) ?_
  obtain ⟨m11, em11, z12⟩ := bind_ex z8
  refine gq_iastore C (st_n k_t hN 4 (by decide)) (st_kd k_t 4 (by decide)) em11 dX1_makeEmpty_36 ?_
  refine gq_aload_n C dX1_makeEmpty_37 rfl 0 rfl ?_
  refine gq_iconst (v := 1) C dX1_makeEmpty_38 (by decide) ?_
  obtain ⟨m13, em13, z14⟩ := bind_ex z12
  refine gq_put1_3 C (st_n k_t hN 0 (by decide)) k_t wk_2_157 (Option.some.inj em13).symm dX1_makeEmpty_39 ?_
  refine gq_aload_n C dX1_makeEmpty_42 rfl 0 rfl ?_
  refine gq_get1 C (st_n k_t hN 0 (by decide)) k_t 4 (by decide) wk_2_160 rfl dX1_makeEmpty_43 ?_
  obtain ⟨m17, eo16, z15⟩ := bind_ex z14
  refine gq_V (As := []) (rest := []) C (c_X2_removeAll hN (st_kd k_t 5 (by decide)) eo16) (st_n k_t hN 5 (by decide)) (st_kd k_t 5 (by decide)) (by decide) rfl wk_2_1 wk_2_2 wk_2_3 wk_1_5 wk_2_4 hd_X2_removeAll ⟨(Nat.le_of_ble_eq_true rfl), (Nat.le_of_ble_eq_true rfl)⟩ (Nat.le_of_ble_eq_true rfl) ⟨(Nat.le_of_ble_eq_true rfl), (Nat.le_of_ble_eq_true rfl)⟩ dX1_makeEmpty_46 rfl rfl ?_
  refine gq_aload_n C dX1_makeEmpty_49 rfl 0 rfl ?_
  refine gq_get1 C (st_n k_t hN 0 (by decide)) k_t 4 (by decide) wk_2_160 rfl dX1_makeEmpty_50 ?_
  obtain ⟨⟨x20, m21⟩, eo19, z18⟩ := bind_ex z15
  dsimp only at z18
  refine gq_V (As := []) (rest := []) C (c_X2_addRow hN (st_kd k_t 5 (by decide)) eo19) (st_n k_t hN 5 (by decide)) (st_kd k_t 5 (by decide)) (by decide) rfl wk_2_6 wk_2_7 wk_2_8 wk_1_5 wk_2_9 hd_X2_addRow ⟨(Nat.le_of_ble_eq_true rfl), (Nat.le_of_ble_eq_true rfl)⟩ (Nat.le_of_ble_eq_true rfl) ⟨(Nat.le_of_ble_eq_true rfl), (Nat.le_of_ble_eq_true rfl)⟩ dX1_makeEmpty_53 rfl rfl ?_
  refine gq_popi C dX1_makeEmpty_56 ?_
  refine gq_iconst (v := 0) C dX1_makeEmpty_57 (by decide) ?_
  refine gq_istore_n (lv' := [(1, .int (0 : Int32)), (0, .ref (eB E + t))]) C dX1_makeEmpty_58 rfl (by decide) rfl ?_
  obtain ⟨m28, eo27, z26⟩ := bind_ex z18
  refine gq_widen (k' := 0) (n' := 0) (Nat.le_of_ble_eq_true rfl) (Nat.le_of_ble_eq_true rfl) (gq_sub [1, 0] rfl ?_)
  refine l_X1_makeEmpty_59 hN C k_t qFuel _ _ _ eo27 ?_
  refine gq_aload_n C dX1_makeEmpty_77 rfl 0 rfl ?_
  refine gq_get1 C (st_n k_t hN 0 (by decide)) k_t 6 (by decide) wk_2_164 rfl dX1_makeEmpty_78 ?_
  obtain ⟨m31, eo30, z29⟩ := bind_ex z26
  refine gq_V (As := []) (rest := []) C (c_X2_removeAll hN (st_kd k_t 8 (by decide)) eo30) (st_n k_t hN 8 (by decide)) (st_kd k_t 8 (by decide)) (by decide) rfl wk_2_1 wk_2_2 wk_2_3 wk_1_5 wk_2_4 hd_X2_removeAll ⟨(Nat.le_of_ble_eq_true rfl), (Nat.le_of_ble_eq_true rfl)⟩ (Nat.le_of_ble_eq_true rfl) ⟨(Nat.le_of_ble_eq_true rfl), (Nat.le_of_ble_eq_true rfl)⟩ dX1_makeEmpty_81 rfl rfl ?_
  refine gq_iconst (v := 0) C dX1_makeEmpty_84 (by decide) ?_
  refine gq_istore_n (lv' := [(1, .int (0 : Int32)), (0, .ref (eB E + t))]) C dX1_makeEmpty_85 rfl (by decide) rfl ?_
  obtain ⟨m40, eo39, z38⟩ := bind_ex z29
  refine gq_widen (k' := 0) (n' := 0) (Nat.le_of_ble_eq_true rfl) (Nat.le_of_ble_eq_true rfl) (gq_sub [1, 0] rfl ?_)
  refine l_X1_makeEmpty_86 hN C k_t qFuel _ _ _ eo39 ?_
  refine gq_aload_n C dX1_makeEmpty_112 rfl 0 rfl ?_
  refine gq_get1 C (st_n k_t hN 0 (by decide)) k_t 9 (by decide) wk_2_169 rfl dX1_makeEmpty_113 ?_
  obtain ⟨m43, eo42, z41⟩ := bind_ex z38
  refine gq_V (As := []) (rest := []) C (c_X2_removeAll hN (st_kd k_t 12 (by decide)) eo42) (st_n k_t hN 12 (by decide)) (st_kd k_t 12 (by decide)) (by decide) rfl wk_2_1 wk_2_2 wk_2_3 wk_1_5 wk_2_4 hd_X2_removeAll ⟨(Nat.le_of_ble_eq_true rfl), (Nat.le_of_ble_eq_true rfl)⟩ (Nat.le_of_ble_eq_true rfl) ⟨(Nat.le_of_ble_eq_true rfl), (Nat.le_of_ble_eq_true rfl)⟩ dX1_makeEmpty_116 rfl rfl ?_
  refine gq_aload_n C dX1_makeEmpty_119 rfl 0 rfl ?_
  refine gq_get1 C (st_n k_t hN 0 (by decide)) k_t 10 (by decide) wk_2_172 rfl dX1_makeEmpty_120 ?_
  obtain ⟨m46, eo45, z44⟩ := bind_ex z41
  refine gq_V (As := []) (rest := []) C (c_X2_removeAll hN (st_kd k_t 14 (by decide)) eo45) (st_n k_t hN 14 (by decide)) (st_kd k_t 14 (by decide)) (by decide) rfl wk_2_1 wk_2_2 wk_2_3 wk_1_5 wk_2_4 hd_X2_removeAll ⟨(Nat.le_of_ble_eq_true rfl), (Nat.le_of_ble_eq_true rfl)⟩ (Nat.le_of_ble_eq_true rfl) ⟨(Nat.le_of_ble_eq_true rfl), (Nat.le_of_ble_eq_true rfl)⟩ dX1_makeEmpty_123 rfl rfl ?_
  refine gq_aload_n C dX1_makeEmpty_126 rfl 0 rfl ?_
  refine gq_get1 C (st_n k_t hN 0 (by decide)) k_t 11 (by decide) wk_2_175 rfl dX1_makeEmpty_127 ?_
  obtain ⟨m49, eo48, z47⟩ := bind_ex z44
  refine gq_V (As := []) (rest := []) C (c_X2_removeAll hN (st_kd k_t 16 (by decide)) eo48) (st_n k_t hN 16 (by decide)) (st_kd k_t 16 (by decide)) (by decide) rfl wk_2_1 wk_2_2 wk_2_3 wk_1_5 wk_2_4 hd_X2_removeAll ⟨(Nat.le_of_ble_eq_true rfl), (Nat.le_of_ble_eq_true rfl)⟩ (Nat.le_of_ble_eq_true rfl) ⟨(Nat.le_of_ble_eq_true rfl), (Nat.le_of_ble_eq_true rfl)⟩ dX1_makeEmpty_130 rfl rfl ?_
  refine gq_aload_n C dX1_makeEmpty_133 rfl 0 rfl ?_
  refine gq_get1 C (st_n k_t hN 0 (by decide)) k_t 12 (by decide) wk_2_177 rfl dX1_makeEmpty_134 ?_
  obtain ⟨m52, eo51, z50⟩ := bind_ex z47
  refine gq_V (As := []) (rest := []) C (c_X2_removeAll hN (st_kd k_t 18 (by decide)) eo51) (st_n k_t hN 18 (by decide)) (st_kd k_t 18 (by decide)) (by decide) rfl wk_2_1 wk_2_2 wk_2_3 wk_1_5 wk_2_4 hd_X2_removeAll ⟨(Nat.le_of_ble_eq_true rfl), (Nat.le_of_ble_eq_true rfl)⟩ (Nat.le_of_ble_eq_true rfl) ⟨(Nat.le_of_ble_eq_true rfl), (Nat.le_of_ble_eq_true rfl)⟩ dX1_makeEmpty_137 rfl rfl ?_
  refine gq_aload_n C dX1_makeEmpty_140 rfl 0 rfl ?_
  refine gq_get1 C (st_n k_t hN 0 (by decide)) k_t 13 (by decide) wk_2_179 rfl dX1_makeEmpty_141 ?_
  obtain ⟨m55, eo54, z53⟩ := bind_ex z50
  refine gq_V (As := []) (rest := []) C (c_X2_removeAll hN (st_kd k_t 20 (by decide)) eo54) (st_n k_t hN 20 (by decide)) (st_kd k_t 20 (by decide)) (by decide) rfl wk_2_1 wk_2_2 wk_2_3 wk_1_5 wk_2_4 hd_X2_removeAll ⟨(Nat.le_of_ble_eq_true rfl), (Nat.le_of_ble_eq_true rfl)⟩ (Nat.le_of_ble_eq_true rfl) ⟨(Nat.le_of_ble_eq_true rfl), (Nat.le_of_ble_eq_true rfl)⟩ dX1_makeEmpty_144 rfl rfl ?_
  refine gq_aload_n C dX1_makeEmpty_147 rfl 0 rfl ?_
  refine gq_iconst (v := 0) C dX1_makeEmpty_148 (by decide) ?_
  obtain ⟨m56, em56, z57⟩ := bind_ex z53
  refine gq_put1_14 C (st_n k_t hN 0 (by decide)) k_t wk_2_180 (Option.some.inj em56).symm dX1_makeEmpty_149 ?_
  refine gq_aload_n C dX1_makeEmpty_152 rfl 0 rfl ?_
  refine gq_iconst (v := 0) C dX1_makeEmpty_153 (by decide) ?_
  obtain ⟨m58, em58, z59⟩ := bind_ex z57
  refine gq_put1_15 C (st_n k_t hN 0 (by decide)) k_t wk_2_182 (Option.some.inj em58).symm dX1_makeEmpty_154 ?_
  refine gq_aload_n C dX1_makeEmpty_157 rfl 0 rfl ?_
  refine gq_iconst (v := 0) C dX1_makeEmpty_158 (by decide) ?_
  obtain ⟨m60, em60, z61⟩ := bind_ex z59
  refine gq_put1_16 C (st_n k_t hN 0 (by decide)) k_t wk_2_185 (Option.some.inj em60).symm dX1_makeEmpty_159 ?_
  refine gq_aload_n C dX1_makeEmpty_162 rfl 0 rfl ?_
  refine gq_iconst (v := 0) C dX1_makeEmpty_163 (by decide) ?_
  obtain ⟨m62, em62, z63⟩ := bind_ex z61
  refine gq_put1_17 C (st_n k_t hN 0 (by decide)) k_t wk_2_186 (Option.some.inj em62).symm dX1_makeEmpty_164 ?_
  refine gq_aload_n C dX1_makeEmpty_167 rfl 0 rfl ?_
  refine gq_iconst (v := 0) C dX1_makeEmpty_168 (by decide) ?_
  obtain ⟨m64, em64, z65⟩ := bind_ex z63
  refine gq_put1_18 C (st_n k_t hN 0 (by decide)) k_t wk_2_187 (Option.some.inj em64).symm dX1_makeEmpty_169 ?_
  cases z65
  exact gq_vret C hr dX1_makeEmpty_172 (Nat.le_of_ble_eq_true rfl) (Nat.le_of_ble_eq_true rfl)
abbrev rm_X1_addLease : Room := { frames := 1, cells := 0, slots := 0, locals := 23 }
def F_X1_addLease (t : Nat) (p1 : Int32) (p2 : Int32) (p3 : Int32) (p4 : Int32) (p5 : Int32) (p6 : Int32) (μ : Mm) : Option (Int32 × Mm) :=
  (F_X2_addRow (t + 12) μ).bind fun o2 =>
  (F_X2_put (t + 12) o2.1 (0 : Int32) p1 o2.2).bind fun o6 =>
  (F_X2_put (t + 12) o2.1 (1 : Int32) p2 o6).bind fun o9 =>
  (F_X2_put (t + 12) o2.1 (2 : Int32) p3 o9).bind fun o12 =>
  (F_X2_put (t + 12) o2.1 (3 : Int32) p4 o12).bind fun o15 =>
  (F_X2_put (t + 12) o2.1 (4 : Int32) p5 o15).bind fun o18 =>
  (F_X2_put (t + 12) o2.1 (5 : Int32) p6 o18).bind fun o21 =>
  some (o2.1, o21)
set_option maxHeartbeats 4000000 in
set_option maxRecDepth 100000 in
theorem c_X1_addLease {l : Launch} {E : Ev} (hN : 295 ≤ eN E) {t : Nat} (k_t : kd t = 1) {p1 : Int32} {p2 : Int32} {p3 : Int32} {p4 : Int32} {p5 : Int32} {p6 : Int32} {μ : Mm} {r : Int32} {μ' : Mm} (z0 : F_X1_addLease t p1 p2 p3 p4 p5 p6 μ = some (r, μ')) : Ct l E yX1_addLease (Cond.code yX1_addLease cX1_addLease 8 (some .int) :: GW) rm_X1_addLease [.ref (eB E + t), .int p1, .int p2, .int p3, .int p4, .int p5, .int p6] μ (some (.int r)) μ' := by
  refine ct_of (by decide) (Nat.le_of_ble_eq_true rfl) (fun p e s m args below meth c C hr => ?_)
  have C : Cq E p s m args meth c cX1_addLease 8 RX1 := C
  refine gq_lv (lv' := [(0, .ref (eB E + t)), (1, .int p1), (2, .int p2), (3, .int p3), (4, .int p4), (5, .int p5), (6, .int p6)]) rfl ?_
  unfold F_X1_addLease at z0
  refine gq_aload_n C dX1_addLease_0 rfl 0 rfl ?_
  refine gq_get1 C (st_n k_t hN 0 (by decide)) k_t 9 (by decide) wk_2_169 rfl dX1_addLease_1 ?_
  obtain ⟨⟨x3, m4⟩, eo2, z1⟩ := bind_ex z0
  dsimp only at z1
  refine gq_V (As := []) (rest := []) C (c_X2_addRow hN (st_kd k_t 12 (by decide)) eo2) (st_n k_t hN 12 (by decide)) (st_kd k_t 12 (by decide)) (by decide) rfl wk_2_6 wk_2_7 wk_2_8 wk_1_5 wk_2_9 hd_X2_addRow ⟨(Nat.le_of_ble_eq_true rfl), (Nat.le_of_ble_eq_true rfl)⟩ (Nat.le_of_ble_eq_true rfl) ⟨(Nat.le_of_ble_eq_true rfl), (Nat.le_of_ble_eq_true rfl)⟩ dX1_addLease_4 rfl rfl ?_
  refine gq_istore (lv' := [(7, .int x3), (0, .ref (eB E + t)), (1, .int p1), (2, .int p2), (3, .int p3), (4, .int p4), (5, .int p5), (6, .int p6)]) C dX1_addLease_7 (by decide) rfl ?_
  refine gq_aload_n C dX1_addLease_9 rfl 1 rfl ?_
  refine gq_get1 C (st_n k_t hN 0 (by decide)) k_t 9 (by decide) wk_2_169 rfl dX1_addLease_10 ?_
  refine gq_iload C dX1_addLease_13 0 rfl ?_
  refine gq_iconst (v := 0) C dX1_addLease_15 (by decide) ?_
  refine gq_iload_n C dX1_addLease_16 rfl 2 rfl ?_
  obtain ⟨m7, eo6, z5⟩ := bind_ex z1
  refine gq_V (As := [.int x3, .int (0 : Int32), .int p1]) (rest := []) C (c_X2_put hN (st_kd k_t 12 (by decide)) eo6) (st_n k_t hN 12 (by decide)) (st_kd k_t 12 (by decide)) (by decide) rfl wk_2_10 wk_2_11 wk_2_12 wk_1_5 wk_2_13 hd_X2_put ⟨(Nat.le_of_ble_eq_true rfl), (Nat.le_of_ble_eq_true rfl)⟩ (Nat.le_of_ble_eq_true rfl) ⟨(Nat.le_of_ble_eq_true rfl), (Nat.le_of_ble_eq_true rfl)⟩ dX1_addLease_17 rfl rfl ?_
  refine gq_aload_n C dX1_addLease_20 rfl 1 rfl ?_
  refine gq_get1 C (st_n k_t hN 0 (by decide)) k_t 9 (by decide) wk_2_169 rfl dX1_addLease_21 ?_
  refine gq_iload C dX1_addLease_24 0 rfl ?_
  refine gq_iconst (v := 1) C dX1_addLease_26 (by decide) ?_
  refine gq_iload_n C dX1_addLease_27 rfl 3 rfl ?_
  obtain ⟨m10, eo9, z8⟩ := bind_ex z5
  refine gq_V (As := [.int x3, .int (1 : Int32), .int p2]) (rest := []) C (c_X2_put hN (st_kd k_t 12 (by decide)) eo9) (st_n k_t hN 12 (by decide)) (st_kd k_t 12 (by decide)) (by decide) rfl wk_2_10 wk_2_11 wk_2_12 wk_1_5 wk_2_13 hd_X2_put ⟨(Nat.le_of_ble_eq_true rfl), (Nat.le_of_ble_eq_true rfl)⟩ (Nat.le_of_ble_eq_true rfl) ⟨(Nat.le_of_ble_eq_true rfl), (Nat.le_of_ble_eq_true rfl)⟩ dX1_addLease_28 rfl rfl ?_
  refine gq_aload_n C dX1_addLease_31 rfl 1 rfl ?_
  refine gq_get1 C (st_n k_t hN 0 (by decide)) k_t 9 (by decide) wk_2_169 rfl dX1_addLease_32 ?_
  refine gq_iload C dX1_addLease_35 0 rfl ?_
  refine gq_iconst (v := 2) C dX1_addLease_37 (by decide) ?_
  refine gq_iload_n C dX1_addLease_38 rfl 4 rfl ?_
  obtain ⟨m13, eo12, z11⟩ := bind_ex z8
  refine gq_V (As := [.int x3, .int (2 : Int32), .int p3]) (rest := []) C (c_X2_put hN (st_kd k_t 12 (by decide)) eo12) (st_n k_t hN 12 (by decide)) (st_kd k_t 12 (by decide)) (by decide) rfl wk_2_10 wk_2_11 wk_2_12 wk_1_5 wk_2_13 hd_X2_put ⟨(Nat.le_of_ble_eq_true rfl), (Nat.le_of_ble_eq_true rfl)⟩ (Nat.le_of_ble_eq_true rfl) ⟨(Nat.le_of_ble_eq_true rfl), (Nat.le_of_ble_eq_true rfl)⟩ dX1_addLease_39 rfl rfl ?_
  refine gq_aload_n C dX1_addLease_42 rfl 1 rfl ?_
  refine gq_get1 C (st_n k_t hN 0 (by decide)) k_t 9 (by decide) wk_2_169 rfl dX1_addLease_43 ?_
  refine gq_iload C dX1_addLease_46 0 rfl ?_
  refine gq_iconst (v := 3) C dX1_addLease_48 (by decide) ?_
  refine gq_iload C dX1_addLease_49 5 rfl ?_
  obtain ⟨m16, eo15, z14⟩ := bind_ex z11
  refine gq_V (As := [.int x3, .int (3 : Int32), .int p4]) (rest := []) C (c_X2_put hN (st_kd k_t 12 (by decide)) eo15) (st_n k_t hN 12 (by decide)) (st_kd k_t 12 (by decide)) (by decide) rfl wk_2_10 wk_2_11 wk_2_12 wk_1_5 wk_2_13 hd_X2_put ⟨(Nat.le_of_ble_eq_true rfl), (Nat.le_of_ble_eq_true rfl)⟩ (Nat.le_of_ble_eq_true rfl) ⟨(Nat.le_of_ble_eq_true rfl), (Nat.le_of_ble_eq_true rfl)⟩ dX1_addLease_51 rfl rfl ?_
  refine gq_aload_n C dX1_addLease_54 rfl 1 rfl ?_
  refine gq_get1 C (st_n k_t hN 0 (by decide)) k_t 9 (by decide) wk_2_169 rfl dX1_addLease_55 ?_
  refine gq_iload C dX1_addLease_58 0 rfl ?_
  refine gq_iconst (v := 4) C dX1_addLease_60 (by decide) ?_
  refine gq_iload C dX1_addLease_61 6 rfl ?_
  obtain ⟨m19, eo18, z17⟩ := bind_ex z14
  refine gq_V (As := [.int x3, .int (4 : Int32), .int p5]) (rest := []) C (c_X2_put hN (st_kd k_t 12 (by decide)) eo18) (st_n k_t hN 12 (by decide)) (st_kd k_t 12 (by decide)) (by decide) rfl wk_2_10 wk_2_11 wk_2_12 wk_1_5 wk_2_13 hd_X2_put ⟨(Nat.le_of_ble_eq_true rfl), (Nat.le_of_ble_eq_true rfl)⟩ (Nat.le_of_ble_eq_true rfl) ⟨(Nat.le_of_ble_eq_true rfl), (Nat.le_of_ble_eq_true rfl)⟩ dX1_addLease_63 rfl rfl ?_
  refine gq_aload_n C dX1_addLease_66 rfl 1 rfl ?_
  refine gq_get1 C (st_n k_t hN 0 (by decide)) k_t 9 (by decide) wk_2_169 rfl dX1_addLease_67 ?_
  refine gq_iload C dX1_addLease_70 0 rfl ?_
  refine gq_iconst (v := 5) C dX1_addLease_72 (by decide) ?_
  refine gq_iload C dX1_addLease_73 7 rfl ?_
  obtain ⟨m22, eo21, z20⟩ := bind_ex z17
  refine gq_V (As := [.int x3, .int (5 : Int32), .int p6]) (rest := []) C (c_X2_put hN (st_kd k_t 12 (by decide)) eo21) (st_n k_t hN 12 (by decide)) (st_kd k_t 12 (by decide)) (by decide) rfl wk_2_10 wk_2_11 wk_2_12 wk_1_5 wk_2_13 hd_X2_put ⟨(Nat.le_of_ble_eq_true rfl), (Nat.le_of_ble_eq_true rfl)⟩ (Nat.le_of_ble_eq_true rfl) ⟨(Nat.le_of_ble_eq_true rfl), (Nat.le_of_ble_eq_true rfl)⟩ dX1_addLease_75 rfl rfl ?_
  refine gq_iload C dX1_addLease_78 0 rfl ?_
  cases z20
  exact gq_iret C hr dX1_addLease_80 (Nat.le_of_ble_eq_true rfl) (Nat.le_of_ble_eq_true rfl)
abbrev rm_X1_rankRights : Room := { frames := 1, cells := 0, slots := 0, locals := 22 }
def F_X1_rankRights_28 (t : Nat) (u1 : Int32) (u2 : Int32) (μ : Mm) : Nat → Int32 → Int32 → Option Int32
  | 0, _, _ => none
  | n + 1, v3, v4 =>
  if (μ.1 (t + 8) 2) ≤ v4 then
  (some v3)
  else
  ((F_X2_get (t + 8) v4 (2 : Int32) μ).bind fun o9 =>
  (if u2 ≤ o9 then
  (some v3)
  else
  (some (v3 + 1))).bind fun o16 =>
  F_X1_rankRights_28 t u1 u2 μ n o16 (v4 + 1))
def F_X1_rankRights_2 (t : Nat) : Nat → Int32 → Mm → Option Mm
  | 0, _, _ => none
  | n + 1, v1, μ =>
  if (μ.1 (t + 8) 2) ≤ v1 then
  (some μ)
  else
  ((F_X2_get (t + 8) v1 (2 : Int32) μ).bind fun o4 =>
  (F_X1_rankRights_28 t v1 o4 μ qFuel (0 : Int32) (0 : Int32)).bind fun o18 =>
  (if (10 : Int32) ≤ o18 then
  (some μ)
  else
  ((sI μ (t + 10) o18 v1).bind fun m25 =>
  some m25)).bind fun o27 =>
  F_X1_rankRights_2 t n (v1 + 1) o27)
def F_X1_rankRights (t : Nat) (μ : Mm) : Option Mm :=
  (F_X1_rankRights_2 t qFuel (0 : Int32) μ).bind fun o29 =>
  some o29
set_option maxHeartbeats 4000000 in
set_option maxRecDepth 100000 in
theorem l_X1_rankRights_28 {l : Launch} {E : Ev} (hN : 295 ≤ eN E) {p : Program} {e : Env} {s : State} {m : MethodId} {args : Array Value} {below : List Frame} {meth : Method} {c : Code} (C : Cq E p s m args meth c cX1_rankRights 5 RX1) {Q : State → Prop} {t : Nat} (k_t : kd t = 1) {u1 : Int32} {u2 : Int32} {μ : Mm} : ∀ (n : Nat) (v3 : Int32) (v4 : Int32) (w3 : Int32), F_X1_rankRights_28 t u1 u2 μ n v3 v4 = some w3 → Gq E p l e rm_X1_rankRights s m args below meth c 0 0 5 Q 63 [(0, .ref (eB E + t)), (1, .int u1), (3, .int w3)] [] μ → Gq E p l e rm_X1_rankRights s m args below meth c 0 0 5 Q 28 [(0, .ref (eB E + t)), (1, .int u1), (2, .int u2), (3, .int v3), (4, .int v4)] [] μ := by
  intro n
  induction n with
  | zero =>
    intro v3 v4 w3 z0 kk
    rw [F_X1_rankRights_28] at z0
    cases z0
  | succ n ih =>
    intro v3 v4 w3 z0 kk
    rw [F_X1_rankRights_28] at z0
    refine gq_iload C dX1_rankRights_28 4 rfl ?_
    refine gq_aload_n C dX1_rankRights_30 rfl 0 rfl ?_
    refine gq_get1 C (st_n k_t hN 0 (by decide)) k_t 6 (by decide) wk_2_164 rfl dX1_rankRights_31 ?_
    refine gq_get2N C (st_n k_t hN 8 (by decide)) (st_kd k_t 8 (by decide)) 2 (by decide) wk_2_141 rfl dX1_rankRights_34 ?_
    rcases ite_ex z0 with ⟨c6, z7⟩ | ⟨c6, z7⟩
    · refine gq_icmp_ge_t (tgt := 63) C dX1_rankRights_37 (by decide) c6 ?_
      cases z7
      exact gq_widen (Nat.le_of_ble_eq_true rfl) (Nat.le_of_ble_eq_true rfl) (gq_sub [0, 1, 3] rfl kk)
    · refine gq_icmp_ge_f (tgt := 63) C dX1_rankRights_37 (by decide) c6 ?_
      refine gq_aload_n C dX1_rankRights_40 rfl 0 rfl ?_
      refine gq_get1 C (st_n k_t hN 0 (by decide)) k_t 6 (by decide) wk_2_164 rfl dX1_rankRights_41 ?_
      refine gq_iload C dX1_rankRights_44 4 rfl ?_
      refine gq_iconst (v := 2) C dX1_rankRights_46 (by decide) ?_
      obtain ⟨x10, eo9, z8⟩ := bind_ex z7
      refine gq_V (As := [.int v4, .int (2 : Int32)]) (rest := []) C (c_X2_get hN (st_kd k_t 8 (by decide)) eo9) (st_n k_t hN 8 (by decide)) (st_kd k_t 8 (by decide)) (by decide) rfl wk_1_132 wk_1_133 wk_1_134 wk_1_5 wk_1_135 hd_X2_get ⟨(Nat.le_of_ble_eq_true rfl), (Nat.le_of_ble_eq_true rfl)⟩ (Nat.le_of_ble_eq_true rfl) ⟨(Nat.le_of_ble_eq_true rfl), (Nat.le_of_ble_eq_true rfl)⟩ dX1_rankRights_47 rfl rfl ?_
      refine gq_iload_n C dX1_rankRights_50 rfl 2 rfl ?_
      obtain ⟨x11, z12, z13⟩ := bind_ex z8
      refine gq_join (k' := 0) (n' := 0) (pc' := 57) (lv' := [(0, .ref (eB E + t)), (1, .int u1), (2, .int u2), (3, .int x11), (4, .int v4)]) (st' := []) (μ' := μ) ?_ (fun J57 => ?_)
      · refine gq_iinc (v := (v4 + 1)) (lv' := [(4, .int (v4 + 1)), (0, .ref (eB E + t)), (1, .int u1), (2, .int u2), (3, .int x11)]) (q := 4) C dX1_rankRights_57 rfl rfl (by decide) rfl ?_
        refine gq_goto (tgt := 28) C dX1_rankRights_60 (by decide) ?_
        refine gq_widen (k' := 0) (n' := 0) (Nat.le_of_ble_eq_true rfl) (Nat.le_of_ble_eq_true rfl) (gq_sub [1, 2, 3, 4, 0] rfl ?_)
        exact ih _ _ _ z13 kk
      · rcases ite_ex z12 with ⟨c14, z15⟩ | ⟨c14, z15⟩
        · refine gq_icmp_ge_t (tgt := 57) C dX1_rankRights_51 (by decide) c14 ?_
          cases z15
          exact gq_widen (Nat.le_of_ble_eq_true rfl) (Nat.le_of_ble_eq_true rfl) (gq_sub [0, 1, 2, 3, 4] rfl J57)
        · refine gq_icmp_ge_f (tgt := 57) C dX1_rankRights_51 (by decide) c14 ?_
          refine gq_iinc (v := (v3 + 1)) (lv' := [(3, .int (v3 + 1)), (0, .ref (eB E + t)), (1, .int u1), (2, .int u2), (4, .int v4)]) (q := 3) C dX1_rankRights_54 rfl rfl (by decide) rfl ?_
          cases z15
          exact gq_widen (Nat.le_of_ble_eq_true rfl) (Nat.le_of_ble_eq_true rfl) (gq_sub [1, 2, 3, 0, 4] rfl J57)
set_option maxHeartbeats 4000000 in
set_option maxRecDepth 100000 in
theorem l_X1_rankRights_2 {l : Launch} {E : Ev} (hN : 295 ≤ eN E) {p : Program} {e : Env} {s : State} {m : MethodId} {args : Array Value} {below : List Frame} {meth : Method} {c : Code} (C : Cq E p s m args meth c cX1_rankRights 5 RX1) {Q : State → Prop} {t : Nat} (k_t : kd t = 1) : ∀ (n : Nat) (v1 : Int32) (μ : Mm) (μx : Mm), F_X1_rankRights_2 t n v1 μ = some μx → Gq E p l e rm_X1_rankRights s m args below meth c 0 0 5 Q 82 [] [] μx → Gq E p l e rm_X1_rankRights s m args below meth c 0 0 5 Q 2 [(0, .ref (eB E + t)), (1, .int v1)] [] μ := by
  intro n
  induction n with
  | zero =>
    intro v1 μ μx z0 kk
    rw [F_X1_rankRights_2] at z0
    cases z0
  | succ n ih =>
    intro v1 μ μx z0 kk
    rw [F_X1_rankRights_2] at z0
    refine gq_iload_n C dX1_rankRights_2 rfl 1 rfl ?_
    refine gq_aload_n C dX1_rankRights_3 rfl 0 rfl ?_
    refine gq_get1 C (st_n k_t hN 0 (by decide)) k_t 6 (by decide) wk_2_164 rfl dX1_rankRights_4 ?_
    refine gq_get2N C (st_n k_t hN 8 (by decide)) (st_kd k_t 8 (by decide)) 2 (by decide) wk_2_141 rfl dX1_rankRights_7 ?_
    rcases ite_ex z0 with ⟨c1, z2⟩ | ⟨c1, z2⟩
    · refine gq_icmp_ge_t (tgt := 82) C dX1_rankRights_10 (by decide) c1 ?_
      cases z2
      exact gq_widen (Nat.le_of_ble_eq_true rfl) (Nat.le_of_ble_eq_true rfl) (gq_sub [] rfl kk)
    · refine gq_icmp_ge_f (tgt := 82) C dX1_rankRights_10 (by decide) c1 ?_
      refine gq_aload_n C dX1_rankRights_13 rfl 0 rfl ?_
      refine gq_get1 C (st_n k_t hN 0 (by decide)) k_t 6 (by decide) wk_2_164 rfl dX1_rankRights_14 ?_
      refine gq_iload_n C dX1_rankRights_17 rfl 1 rfl ?_
      refine gq_iconst (v := 2) C dX1_rankRights_18 (by decide) ?_
      obtain ⟨x5, eo4, z3⟩ := bind_ex z2
      refine gq_V (As := [.int v1, .int (2 : Int32)]) (rest := []) C (c_X2_get hN (st_kd k_t 8 (by decide)) eo4) (st_n k_t hN 8 (by decide)) (st_kd k_t 8 (by decide)) (by decide) rfl wk_1_132 wk_1_133 wk_1_134 wk_1_5 wk_1_135 hd_X2_get ⟨(Nat.le_of_ble_eq_true rfl), (Nat.le_of_ble_eq_true rfl)⟩ (Nat.le_of_ble_eq_true rfl) ⟨(Nat.le_of_ble_eq_true rfl), (Nat.le_of_ble_eq_true rfl)⟩ dX1_rankRights_19 rfl rfl ?_
      refine gq_istore_n (lv' := [(2, .int x5), (0, .ref (eB E + t)), (1, .int v1)]) C dX1_rankRights_22 rfl (by decide) rfl ?_
      refine gq_iconst (v := 0) C dX1_rankRights_23 (by decide) ?_
      refine gq_istore_n (lv' := [(3, .int (0 : Int32)), (2, .int x5), (0, .ref (eB E + t)), (1, .int v1)]) C dX1_rankRights_24 rfl (by decide) rfl ?_
      refine gq_iconst (v := 0) C dX1_rankRights_25 (by decide) ?_
      refine gq_istore (lv' := [(4, .int (0 : Int32)), (3, .int (0 : Int32)), (2, .int x5), (0, .ref (eB E + t)), (1, .int v1)]) C dX1_rankRights_26 (by decide) rfl ?_
      obtain ⟨x19, eo18, z17⟩ := bind_ex z3
      refine gq_widen (k' := 0) (n' := 0) (Nat.le_of_ble_eq_true rfl) (Nat.le_of_ble_eq_true rfl) (gq_sub [3, 4, 2, 1, 0] rfl ?_)
      refine l_X1_rankRights_28 hN C k_t qFuel _ _ _ eo18 ?_
      refine gq_iload_n C dX1_rankRights_63 rfl 2 rfl ?_
      refine gq_bipush (v := 10) C dX1_rankRights_64 (by decide) ?_
      obtain ⟨m20, z21, z22⟩ := bind_ex z17
      refine gq_join (k' := 0) (n' := 0) (pc' := 76) (lv' := [(0, .ref (eB E + t)), (1, .int v1)]) (st' := []) (μ' := m20) ?_ (fun J76 => ?_)
      · refine gq_iinc (v := (v1 + 1)) (lv' := [(1, .int (v1 + 1)), (0, .ref (eB E + t))]) (q := 1) C dX1_rankRights_76 rfl rfl (by decide) rfl ?_
        refine gq_goto (tgt := 2) C dX1_rankRights_79 (by decide) ?_
        refine gq_widen (k' := 0) (n' := 0) (Nat.le_of_ble_eq_true rfl) (Nat.le_of_ble_eq_true rfl) (gq_sub [1, 0] rfl ?_)
        exact ih _ _ _ z22 kk
      · rcases ite_ex z21 with ⟨c23, z24⟩ | ⟨c23, z24⟩
        · refine gq_icmp_ge_t (tgt := 76) C dX1_rankRights_66 (by decide) c23 ?_
          cases z24
          exact gq_widen (Nat.le_of_ble_eq_true rfl) (Nat.le_of_ble_eq_true rfl) (gq_sub [0, 1] rfl J76)
        · refine gq_icmp_ge_f (tgt := 76) C dX1_rankRights_66 (by decide) c23 ?_
          refine gq_aload_n C dX1_rankRights_69 rfl 0 rfl ?_
          refine gq_get1 C (st_n k_t hN 0 (by decide)) k_t 7 (by decide) wk_2_167 rfl dX1_rankRights_70 ?_
          refine gq_iload_n C dX1_rankRights_73 rfl 2 rfl ?_
          refine gq_iload_n C dX1_rankRights_74 rfl 1 rfl ?_
          obtain ⟨m25, em25, z26⟩ := bind_ex z24
          refine gq_iastore C (st_n k_t hN 10 (by decide)) (st_kd k_t 10 (by decide)) em25 dX1_rankRights_75 ?_
          cases z26
          exact gq_widen (Nat.le_of_ble_eq_true rfl) (Nat.le_of_ble_eq_true rfl) (gq_sub [0, 1] rfl J76)
set_option maxHeartbeats 4000000 in
set_option maxRecDepth 100000 in
theorem c_X1_rankRights {l : Launch} {E : Ev} (hN : 295 ≤ eN E) {t : Nat} (k_t : kd t = 1) {μ : Mm} {μ' : Mm} (z0 : F_X1_rankRights t μ = some μ') : Ct l E yX1_rankRights (Cond.code yX1_rankRights cX1_rankRights 5 none :: GW) rm_X1_rankRights [.ref (eB E + t)] μ none μ' := by
  refine ct_of (by decide) (Nat.le_of_ble_eq_true rfl) (fun p e s m args below meth c C hr => ?_)
  have C : Cq E p s m args meth c cX1_rankRights 5 RX1 := C
  refine gq_lv (lv' := [(0, .ref (eB E + t))]) rfl ?_
  unfold F_X1_rankRights at z0
  refine gq_iconst (v := 0) C dX1_rankRights_0 (by decide) ?_
  refine gq_istore_n (lv' := [(1, .int (0 : Int32)), (0, .ref (eB E + t))]) C dX1_rankRights_1 rfl (by decide) rfl ?_
  obtain ⟨m30, eo29, z28⟩ := bind_ex z0
  refine gq_widen (k' := 0) (n' := 0) (Nat.le_of_ble_eq_true rfl) (Nat.le_of_ble_eq_true rfl) (gq_sub [1, 0] rfl ?_)
  refine l_X1_rankRights_2 hN C k_t qFuel _ _ _ eo29 ?_
  cases z28
  exact gq_vret C hr dX1_rankRights_82 (Nat.le_of_ble_eq_true rfl) (Nat.le_of_ble_eq_true rfl)
abbrev rm_X1_copyFrom : Room := { frames := 2, cells := 0, slots := 0, locals := 89 }
def F_X1_copyFrom (t : Nat) (q1 : Nat) (μ : Mm) : Option Mm :=
  (F_X2_copyFrom (t + 1) (q1 + 1) μ).bind fun o2 =>
  (yI o2 (q1 + 3) (0 : Int32) (t + 3) (0 : Int32) (12 : Int32)).bind fun m4 =>
  (yI m4 (q1 + 4) (0 : Int32) (t + 4) (0 : Int32) (5 : Int32)).bind fun m6 =>
  (some (uI m6 t 3 (m6.1 q1 3))).bind fun m8 =>
  (F_X2_copyFrom (t + 5) (q1 + 5) m8).bind fun o11 =>
  (yL o11 (q1 + 7) (0 : Int32) (t + 7) (0 : Int32) (5 : Int32)).bind fun m13 =>
  (F_X2_copyFrom (t + 8) (q1 + 8) m13).bind fun o16 =>
  (yI o16 (q1 + 10) (0 : Int32) (t + 10) (0 : Int32) (10 : Int32)).bind fun m18 =>
  (yL m18 (q1 + 11) (0 : Int32) (t + 11) (0 : Int32) (10 : Int32)).bind fun m20 =>
  (F_X2_copyFrom (t + 12) (q1 + 12) m20).bind fun o23 =>
  (F_X2_copyFrom (t + 14) (q1 + 14) o23).bind fun o26 =>
  (F_X2_copyFrom (t + 16) (q1 + 16) o26).bind fun o29 =>
  (F_X2_copyFrom (t + 18) (q1 + 18) o29).bind fun o32 =>
  (F_X2_copyFrom (t + 20) (q1 + 20) o32).bind fun o35 =>
  (some (uI o35 t 14 (o35.1 q1 14))).bind fun m37 =>
  (some (uI m37 t 15 (m37.1 q1 15))).bind fun m39 =>
  (some (uI m39 t 16 (m39.1 q1 16))).bind fun m41 =>
  (some (uI m41 t 17 (m41.1 q1 17))).bind fun m43 =>
  (some (uI m43 t 18 (m43.1 q1 18))).bind fun m45 =>
  some m45
set_option maxHeartbeats 4000000 in
set_option maxRecDepth 100000 in
theorem c_X1_copyFrom {l : Launch} {E : Ev} (hN : 295 ≤ eN E) {t : Nat} (k_t : kd t = 1) {q1 : Nat} (k_q1 : kd q1 = 1) {μ : Mm} {μ' : Mm} (z0 : F_X1_copyFrom t q1 μ = some μ') : Ct l E yX1_copyFrom (Cond.code yX1_copyFrom cX1_copyFrom 2 none :: GW) rm_X1_copyFrom [.ref (eB E + t), .ref (eB E + q1)] μ none μ' := by
  refine ct_of (by decide) (Nat.le_of_ble_eq_true rfl) (fun p e s m args below meth c C hr => ?_)
  have C : Cq E p s m args meth c cX1_copyFrom 2 RX1 := C
  refine gq_lv (lv' := [(0, .ref (eB E + t)), (1, .ref (eB E + q1))]) rfl ?_
  unfold F_X1_copyFrom at z0
  refine gq_aload_n C dX1_copyFrom_0 rfl 0 rfl ?_
  refine gq_get1 C (st_n k_t hN 0 (by decide)) k_t 0 (by decide) wk_2_150 rfl dX1_copyFrom_1 ?_
  refine gq_aload_n C dX1_copyFrom_4 rfl 1 rfl ?_
  refine gq_get1 C (st_n k_q1 hN 0 (by decide)) k_q1 0 (by decide) wk_2_150 rfl dX1_copyFrom_5 ?_
  obtain ⟨m3, eo2, z1⟩ := bind_ex z0
  refine gq_V (As := [.ref (eB E + (q1 + 1))]) (rest := []) C (c_X2_copyFrom hN (st_kd k_t 1 (by decide)) (st_kd k_q1 1 (by decide)) eo2) (st_n k_t hN 1 (by decide)) (st_kd k_t 1 (by decide)) (by decide) rfl wk_1_225 wk_1_226 wk_1_227 wk_1_5 wk_1_228 hd_X2_copyFrom ⟨(Nat.le_of_ble_eq_true rfl), (Nat.le_of_ble_eq_true rfl)⟩ (Nat.le_of_ble_eq_true rfl) ⟨(Nat.le_of_ble_eq_true rfl), (Nat.le_of_ble_eq_true rfl)⟩ dX1_copyFrom_8 rfl rfl ?_
  refine gq_aload_n C dX1_copyFrom_11 rfl 1 rfl ?_
  refine gq_get1 C (st_n k_q1 hN 0 (by decide)) k_q1 1 (by decide) wk_2_153 rfl dX1_copyFrom_12 ?_
  refine gq_iconst (v := 0) C dX1_copyFrom_15 (by decide) ?_
  refine gq_aload_n C dX1_copyFrom_16 rfl 0 rfl ?_
  refine gq_get1 C (st_n k_t hN 0 (by decide)) k_t 1 (by decide) wk_2_153 rfl dX1_copyFrom_17 ?_
  refine gq_iconst (v := 0) C dX1_copyFrom_20 (by decide) ?_
  refine gq_bipush (v := 12) C dX1_copyFrom_21 (by decide) ?_
  obtain ⟨m4, em4, z5⟩ := bind_ex z1
  refine gq_cpyI C (st_n k_q1 hN 3 (by decide)) (st_n k_t hN 3 (by decide)) (st_kd k_q1 3 (by decide)) (st_kd k_t 3 (by decide)) em4 wk_1_232 wk_1_231 wk_1_230 wk_1_14 (Nat.le_of_ble_eq_true rfl) (Nat.le_of_ble_eq_true rfl) dX1_copyFrom_23 ?_
  refine gq_aload_n C dX1_copyFrom_26 rfl 1 rfl ?_
  refine gq_get1 C (st_n k_q1 hN 0 (by decide)) k_q1 2 (by decide) wk_2_155 rfl dX1_copyFrom_27 ?_
  refine gq_iconst (v := 0) C dX1_copyFrom_30 (by decide) ?_
  refine gq_aload_n C dX1_copyFrom_31 rfl 0 rfl ?_
  refine gq_get1 C (st_n k_t hN 0 (by decide)) k_t 2 (by decide) wk_2_155 rfl dX1_copyFrom_32 ?_
  refine gq_iconst (v := 0) C dX1_copyFrom_35 (by decide) ?_
  refine gq_iconst (v := 5) C dX1_copyFrom_36 (by decide) ?_
  obtain ⟨m6, em6, z7⟩ := bind_ex z5
  refine gq_cpyI C (st_n k_q1 hN 4 (by decide)) (st_n k_t hN 4 (by decide)) (st_kd k_q1 4 (by decide)) (st_kd k_t 4 (by decide)) em6 wk_1_232 wk_1_231 wk_1_230 wk_1_14 (Nat.le_of_ble_eq_true rfl) (Nat.le_of_ble_eq_true rfl) dX1_copyFrom_37 ?_
  refine gq_aload_n C dX1_copyFrom_40 rfl 0 rfl ?_
  refine gq_aload_n C dX1_copyFrom_41 rfl 1 rfl ?_
  refine gq_get1 C (st_n k_q1 hN 0 (by decide)) k_q1 3 (by decide) wk_2_157 rfl dX1_copyFrom_42 ?_
  obtain ⟨m8, em8, z9⟩ := bind_ex z7
  refine gq_put1_3 C (st_n k_t hN 0 (by decide)) k_t wk_2_157 (Option.some.inj em8).symm dX1_copyFrom_45 ?_
  refine gq_aload_n C dX1_copyFrom_48 rfl 0 rfl ?_
  refine gq_get1 C (st_n k_t hN 0 (by decide)) k_t 4 (by decide) wk_2_160 rfl dX1_copyFrom_49 ?_
  refine gq_aload_n C dX1_copyFrom_52 rfl 1 rfl ?_
  refine gq_get1 C (st_n k_q1 hN 0 (by decide)) k_q1 4 (by decide) wk_2_160 rfl dX1_copyFrom_53 ?_
  obtain ⟨m12, eo11, z10⟩ := bind_ex z9
  refine gq_V (As := [.ref (eB E + (q1 + 5))]) (rest := []) C (c_X2_copyFrom hN (st_kd k_t 5 (by decide)) (st_kd k_q1 5 (by decide)) eo11) (st_n k_t hN 5 (by decide)) (st_kd k_t 5 (by decide)) (by decide) rfl wk_1_225 wk_1_226 wk_1_227 wk_1_5 wk_1_228 hd_X2_copyFrom ⟨(Nat.le_of_ble_eq_true rfl), (Nat.le_of_ble_eq_true rfl)⟩ (Nat.le_of_ble_eq_true rfl) ⟨(Nat.le_of_ble_eq_true rfl), (Nat.le_of_ble_eq_true rfl)⟩ dX1_copyFrom_56 rfl rfl ?_
  refine gq_aload_n C dX1_copyFrom_59 rfl 1 rfl ?_
  refine gq_get1 C (st_n k_q1 hN 0 (by decide)) k_q1 5 (by decide) wk_2_163 rfl dX1_copyFrom_60 ?_
  refine gq_iconst (v := 0) C dX1_copyFrom_63 (by decide) ?_
  refine gq_aload_n C dX1_copyFrom_64 rfl 0 rfl ?_
  refine gq_get1 C (st_n k_t hN 0 (by decide)) k_t 5 (by decide) wk_2_163 rfl dX1_copyFrom_65 ?_
  refine gq_iconst (v := 0) C dX1_copyFrom_68 (by decide) ?_
  refine gq_iconst (v := 5) C dX1_copyFrom_69 (by decide) ?_
  obtain ⟨m13, em13, z14⟩ := bind_ex z10
  refine gq_cpyL C (st_n k_q1 hN 7 (by decide)) (st_n k_t hN 7 (by decide)) (st_kd k_q1 7 (by decide)) (st_kd k_t 7 (by decide)) em13 wk_1_232 wk_1_231 wk_1_230 wk_1_14 (Nat.le_of_ble_eq_true rfl) (Nat.le_of_ble_eq_true rfl) dX1_copyFrom_70 ?_
  refine gq_aload_n C dX1_copyFrom_73 rfl 0 rfl ?_
  refine gq_get1 C (st_n k_t hN 0 (by decide)) k_t 6 (by decide) wk_2_164 rfl dX1_copyFrom_74 ?_
  refine gq_aload_n C dX1_copyFrom_77 rfl 1 rfl ?_
  refine gq_get1 C (st_n k_q1 hN 0 (by decide)) k_q1 6 (by decide) wk_2_164 rfl dX1_copyFrom_78 ?_
  obtain ⟨m17, eo16, z15⟩ := bind_ex z14
  refine gq_V (As := [.ref (eB E + (q1 + 8))]) (rest := []) C (c_X2_copyFrom hN (st_kd k_t 8 (by decide)) (st_kd k_q1 8 (by decide)) eo16) (st_n k_t hN 8 (by decide)) (st_kd k_t 8 (by decide)) (by decide) rfl wk_1_225 wk_1_226 wk_1_227 wk_1_5 wk_1_228 hd_X2_copyFrom ⟨(Nat.le_of_ble_eq_true rfl), (Nat.le_of_ble_eq_true rfl)⟩ (Nat.le_of_ble_eq_true rfl) ⟨(Nat.le_of_ble_eq_true rfl), (Nat.le_of_ble_eq_true rfl)⟩ dX1_copyFrom_81 rfl rfl ?_
  refine gq_aload_n C dX1_copyFrom_84 rfl 1 rfl ?_
  refine gq_get1 C (st_n k_q1 hN 0 (by decide)) k_q1 7 (by decide) wk_2_167 rfl dX1_copyFrom_85 ?_
  refine gq_iconst (v := 0) C dX1_copyFrom_88 (by decide) ?_
  refine gq_aload_n C dX1_copyFrom_89 rfl 0 rfl ?_
  refine gq_get1 C (st_n k_t hN 0 (by decide)) k_t 7 (by decide) wk_2_167 rfl dX1_copyFrom_90 ?_
  refine gq_iconst (v := 0) C dX1_copyFrom_93 (by decide) ?_
  refine gq_bipush (v := 10) C dX1_copyFrom_94 (by decide) ?_
  obtain ⟨m18, em18, z19⟩ := bind_ex z15
  refine gq_cpyI C (st_n k_q1 hN 10 (by decide)) (st_n k_t hN 10 (by decide)) (st_kd k_q1 10 (by decide)) (st_kd k_t 10 (by decide)) em18 wk_1_232 wk_1_231 wk_1_230 wk_1_14 (Nat.le_of_ble_eq_true rfl) (Nat.le_of_ble_eq_true rfl) dX1_copyFrom_96 ?_
  refine gq_aload_n C dX1_copyFrom_99 rfl 1 rfl ?_
  refine gq_get1 C (st_n k_q1 hN 0 (by decide)) k_q1 8 (by decide) wk_2_168 rfl dX1_copyFrom_100 ?_
  refine gq_iconst (v := 0) C dX1_copyFrom_103 (by decide) ?_
  refine gq_aload_n C dX1_copyFrom_104 rfl 0 rfl ?_
  refine gq_get1 C (st_n k_t hN 0 (by decide)) k_t 8 (by decide) wk_2_168 rfl dX1_copyFrom_105 ?_
  refine gq_iconst (v := 0) C dX1_copyFrom_108 (by decide) ?_
  refine gq_bipush (v := 10) C dX1_copyFrom_109 (by decide) ?_
  obtain ⟨m20, em20, z21⟩ := bind_ex z19
  refine gq_cpyL C (st_n k_q1 hN 11 (by decide)) (st_n k_t hN 11 (by decide)) (st_kd k_q1 11 (by decide)) (st_kd k_t 11 (by decide)) em20 wk_1_232 wk_1_231 wk_1_230 wk_1_14 (Nat.le_of_ble_eq_true rfl) (Nat.le_of_ble_eq_true rfl) dX1_copyFrom_111 ?_
  refine gq_aload_n C dX1_copyFrom_114 rfl 0 rfl ?_
  refine gq_get1 C (st_n k_t hN 0 (by decide)) k_t 9 (by decide) wk_2_169 rfl dX1_copyFrom_115 ?_
  refine gq_aload_n C dX1_copyFrom_118 rfl 1 rfl ?_
  refine gq_get1 C (st_n k_q1 hN 0 (by decide)) k_q1 9 (by decide) wk_2_169 rfl dX1_copyFrom_119 ?_
  obtain ⟨m24, eo23, z22⟩ := bind_ex z21
  refine gq_V (As := [.ref (eB E + (q1 + 12))]) (rest := []) C (c_X2_copyFrom hN (st_kd k_t 12 (by decide)) (st_kd k_q1 12 (by decide)) eo23) (st_n k_t hN 12 (by decide)) (st_kd k_t 12 (by decide)) (by decide) rfl wk_1_225 wk_1_226 wk_1_227 wk_1_5 wk_1_228 hd_X2_copyFrom ⟨(Nat.le_of_ble_eq_true rfl), (Nat.le_of_ble_eq_true rfl)⟩ (Nat.le_of_ble_eq_true rfl) ⟨(Nat.le_of_ble_eq_true rfl), (Nat.le_of_ble_eq_true rfl)⟩ dX1_copyFrom_122 rfl rfl ?_
  refine gq_aload_n C dX1_copyFrom_125 rfl 0 rfl ?_
  refine gq_get1 C (st_n k_t hN 0 (by decide)) k_t 10 (by decide) wk_2_172 rfl dX1_copyFrom_126 ?_
  refine gq_aload_n C dX1_copyFrom_129 rfl 1 rfl ?_
  refine gq_get1 C (st_n k_q1 hN 0 (by decide)) k_q1 10 (by decide) wk_2_172 rfl dX1_copyFrom_130 ?_
  obtain ⟨m27, eo26, z25⟩ := bind_ex z22
  refine gq_V (As := [.ref (eB E + (q1 + 14))]) (rest := []) C (c_X2_copyFrom hN (st_kd k_t 14 (by decide)) (st_kd k_q1 14 (by decide)) eo26) (st_n k_t hN 14 (by decide)) (st_kd k_t 14 (by decide)) (by decide) rfl wk_1_225 wk_1_226 wk_1_227 wk_1_5 wk_1_228 hd_X2_copyFrom ⟨(Nat.le_of_ble_eq_true rfl), (Nat.le_of_ble_eq_true rfl)⟩ (Nat.le_of_ble_eq_true rfl) ⟨(Nat.le_of_ble_eq_true rfl), (Nat.le_of_ble_eq_true rfl)⟩ dX1_copyFrom_133 rfl rfl ?_
  refine gq_aload_n C dX1_copyFrom_136 rfl 0 rfl ?_
  refine gq_get1 C (st_n k_t hN 0 (by decide)) k_t 11 (by decide) wk_2_175 rfl dX1_copyFrom_137 ?_
  refine gq_aload_n C dX1_copyFrom_140 rfl 1 rfl ?_
  refine gq_get1 C (st_n k_q1 hN 0 (by decide)) k_q1 11 (by decide) wk_2_175 rfl dX1_copyFrom_141 ?_
  obtain ⟨m30, eo29, z28⟩ := bind_ex z25
  refine gq_V (As := [.ref (eB E + (q1 + 16))]) (rest := []) C (c_X2_copyFrom hN (st_kd k_t 16 (by decide)) (st_kd k_q1 16 (by decide)) eo29) (st_n k_t hN 16 (by decide)) (st_kd k_t 16 (by decide)) (by decide) rfl wk_1_225 wk_1_226 wk_1_227 wk_1_5 wk_1_228 hd_X2_copyFrom ⟨(Nat.le_of_ble_eq_true rfl), (Nat.le_of_ble_eq_true rfl)⟩ (Nat.le_of_ble_eq_true rfl) ⟨(Nat.le_of_ble_eq_true rfl), (Nat.le_of_ble_eq_true rfl)⟩ dX1_copyFrom_144 rfl rfl ?_
  refine gq_aload_n C dX1_copyFrom_147 rfl 0 rfl ?_
  refine gq_get1 C (st_n k_t hN 0 (by decide)) k_t 12 (by decide) wk_2_177 rfl dX1_copyFrom_148 ?_
  refine gq_aload_n C dX1_copyFrom_151 rfl 1 rfl ?_
  refine gq_get1 C (st_n k_q1 hN 0 (by decide)) k_q1 12 (by decide) wk_2_177 rfl dX1_copyFrom_152 ?_
  obtain ⟨m33, eo32, z31⟩ := bind_ex z28
  refine gq_V (As := [.ref (eB E + (q1 + 18))]) (rest := []) C (c_X2_copyFrom hN (st_kd k_t 18 (by decide)) (st_kd k_q1 18 (by decide)) eo32) (st_n k_t hN 18 (by decide)) (st_kd k_t 18 (by decide)) (by decide) rfl wk_1_225 wk_1_226 wk_1_227 wk_1_5 wk_1_228 hd_X2_copyFrom ⟨(Nat.le_of_ble_eq_true rfl), (Nat.le_of_ble_eq_true rfl)⟩ (Nat.le_of_ble_eq_true rfl) ⟨(Nat.le_of_ble_eq_true rfl), (Nat.le_of_ble_eq_true rfl)⟩ dX1_copyFrom_155 rfl rfl ?_
  refine gq_aload_n C dX1_copyFrom_158 rfl 0 rfl ?_
  refine gq_get1 C (st_n k_t hN 0 (by decide)) k_t 13 (by decide) wk_2_179 rfl dX1_copyFrom_159 ?_
  refine gq_aload_n C dX1_copyFrom_162 rfl 1 rfl ?_
  refine gq_get1 C (st_n k_q1 hN 0 (by decide)) k_q1 13 (by decide) wk_2_179 rfl dX1_copyFrom_163 ?_
  obtain ⟨m36, eo35, z34⟩ := bind_ex z31
  refine gq_V (As := [.ref (eB E + (q1 + 20))]) (rest := []) C (c_X2_copyFrom hN (st_kd k_t 20 (by decide)) (st_kd k_q1 20 (by decide)) eo35) (st_n k_t hN 20 (by decide)) (st_kd k_t 20 (by decide)) (by decide) rfl wk_1_225 wk_1_226 wk_1_227 wk_1_5 wk_1_228 hd_X2_copyFrom ⟨(Nat.le_of_ble_eq_true rfl), (Nat.le_of_ble_eq_true rfl)⟩ (Nat.le_of_ble_eq_true rfl) ⟨(Nat.le_of_ble_eq_true rfl), (Nat.le_of_ble_eq_true rfl)⟩ dX1_copyFrom_166 rfl rfl ?_
  refine gq_aload_n C dX1_copyFrom_169 rfl 0 rfl ?_
  refine gq_aload_n C dX1_copyFrom_170 rfl 1 rfl ?_
  refine gq_get1 C (st_n k_q1 hN 0 (by decide)) k_q1 14 (by decide) wk_2_180 rfl dX1_copyFrom_171 ?_
  obtain ⟨m37, em37, z38⟩ := bind_ex z34
  refine gq_put1_14 C (st_n k_t hN 0 (by decide)) k_t wk_2_180 (Option.some.inj em37).symm dX1_copyFrom_174 ?_
  refine gq_aload_n C dX1_copyFrom_177 rfl 0 rfl ?_
  refine gq_aload_n C dX1_copyFrom_178 rfl 1 rfl ?_
  refine gq_get1 C (st_n k_q1 hN 0 (by decide)) k_q1 15 (by decide) wk_2_182 rfl dX1_copyFrom_179 ?_
  obtain ⟨m39, em39, z40⟩ := bind_ex z38
  refine gq_put1_15 C (st_n k_t hN 0 (by decide)) k_t wk_2_182 (Option.some.inj em39).symm dX1_copyFrom_182 ?_
  refine gq_aload_n C dX1_copyFrom_185 rfl 0 rfl ?_
  refine gq_aload_n C dX1_copyFrom_186 rfl 1 rfl ?_
  refine gq_get1 C (st_n k_q1 hN 0 (by decide)) k_q1 16 (by decide) wk_2_185 rfl dX1_copyFrom_187 ?_
  obtain ⟨m41, em41, z42⟩ := bind_ex z40
  refine gq_put1_16 C (st_n k_t hN 0 (by decide)) k_t wk_2_185 (Option.some.inj em41).symm dX1_copyFrom_190 ?_
  refine gq_aload_n C dX1_copyFrom_193 rfl 0 rfl ?_
  refine gq_aload_n C dX1_copyFrom_194 rfl 1 rfl ?_
  refine gq_get1 C (st_n k_q1 hN 0 (by decide)) k_q1 17 (by decide) wk_2_186 rfl dX1_copyFrom_195 ?_
  obtain ⟨m43, em43, z44⟩ := bind_ex z42
  refine gq_put1_17 C (st_n k_t hN 0 (by decide)) k_t wk_2_186 (Option.some.inj em43).symm dX1_copyFrom_198 ?_
  refine gq_aload_n C dX1_copyFrom_201 rfl 0 rfl ?_
  refine gq_aload_n C dX1_copyFrom_202 rfl 1 rfl ?_
  refine gq_get1 C (st_n k_q1 hN 0 (by decide)) k_q1 18 (by decide) wk_2_187 rfl dX1_copyFrom_203 ?_
  obtain ⟨m45, em45, z46⟩ := bind_ex z44
  refine gq_put1_18 C (st_n k_t hN 0 (by decide)) k_t wk_2_187 (Option.some.inj em45).symm dX1_copyFrom_206 ?_
  cases z46
  exact gq_vret C hr dX1_copyFrom_209 (Nat.le_of_ble_eq_true rfl) (Nat.le_of_ble_eq_true rfl)
abbrev rm_X1_seasonPercentOf : Room := { frames := 0, cells := 0, slots := 0, locals := 0 }
def F_X1_seasonPercentOf (t : Nat) (p1 : Int32) (μ : Mm) : Option Int32 :=
  if p1 < 0 then
  (some (0 : Int32))
  else
  (if (12 : Int32) ≤ p1 then
  (some (0 : Int32))
  else
  ((aI μ (t + 3) p1).bind fun x5 =>
  some x5))
set_option maxHeartbeats 4000000 in
set_option maxRecDepth 100000 in
theorem c_X1_seasonPercentOf {l : Launch} {E : Ev} (hN : 295 ≤ eN E) {t : Nat} (k_t : kd t = 1) {p1 : Int32} {μ : Mm} {r : Int32} (z0 : F_X1_seasonPercentOf t p1 μ = some r) : Ct l E yX1_seasonPercentOf (Cond.code yX1_seasonPercentOf cX1_seasonPercentOf 2 (some .int) :: GW) rm_X1_seasonPercentOf [.ref (eB E + t), .int p1] μ (some (.int r)) μ := by
  refine ct_of (by decide) (Nat.le_of_ble_eq_true rfl) (fun p e s m args below meth c C hr => ?_)
  have C : Cq E p s m args meth c cX1_seasonPercentOf 2 RX1 := C
  refine gq_lv (lv' := [(0, .ref (eB E + t)), (1, .int p1)]) rfl ?_
  unfold F_X1_seasonPercentOf at z0
  refine gq_iload_n C dX1_seasonPercentOf_0 rfl 1 rfl ?_
  rcases ite_ex z0 with ⟨c1, z2⟩ | ⟨c1, z2⟩
  · refine gq_if_lt_t (tgt := 19) C dX1_seasonPercentOf_1 (by decide) c1 ?_
    refine gq_iconst (v := 0) C dX1_seasonPercentOf_19 (by decide) ?_
    cases z2
    exact gq_iret C hr dX1_seasonPercentOf_20 (Nat.le_of_ble_eq_true rfl) (Nat.le_of_ble_eq_true rfl)
  · refine gq_if_lt_f (tgt := 19) C dX1_seasonPercentOf_1 (by decide) c1 ?_
    refine gq_iload_n C dX1_seasonPercentOf_4 rfl 1 rfl ?_
    refine gq_bipush (v := 12) C dX1_seasonPercentOf_5 (by decide) ?_
    rcases ite_ex z2 with ⟨c3, z4⟩ | ⟨c3, z4⟩
    · refine gq_icmp_ge_t (tgt := 19) C dX1_seasonPercentOf_7 (by decide) c3 ?_
      refine gq_iconst (v := 0) C dX1_seasonPercentOf_19 (by decide) ?_
      cases z4
      exact gq_iret C hr dX1_seasonPercentOf_20 (Nat.le_of_ble_eq_true rfl) (Nat.le_of_ble_eq_true rfl)
    · refine gq_icmp_ge_f (tgt := 19) C dX1_seasonPercentOf_7 (by decide) c3 ?_
      refine gq_aload_n C dX1_seasonPercentOf_10 rfl 0 rfl ?_
      refine gq_get1 C (st_n k_t hN 0 (by decide)) k_t 1 (by decide) wk_2_153 rfl dX1_seasonPercentOf_11 ?_
      refine gq_iload_n C dX1_seasonPercentOf_14 rfl 1 rfl ?_
      obtain ⟨x5, ex5, z6⟩ := bind_ex z4
      refine gq_ialoadI C (st_n k_t hN 3 (by decide)) (st_kd k_t 3 (by decide)) ex5 dX1_seasonPercentOf_15 ?_
      refine gq_goto (tgt := 20) C dX1_seasonPercentOf_16 (by decide) ?_
      cases z6
      exact gq_iret C hr dX1_seasonPercentOf_20 (Nat.le_of_ble_eq_true rfl) (Nat.le_of_ble_eq_true rfl)
abbrev rm_X1_percentOfYear : Room := { frames := 0, cells := 0, slots := 0, locals := 0 }
def F_X1_percentOfYear (t : Nat) (p1 : Int32) (μ : Mm) : Option Int32 :=
  if p1 < 0 then
  (some (0 : Int32))
  else
  (if (μ.1 t 3) ≤ 0 then
  (some (0 : Int32))
  else
  (if (μ.1 t 3) ≤ (5 : Int32) then
  ((irm p1 (μ.1 t 3)).bind fun x7 => (aI μ (t + 4) x7).bind fun x9 =>
  some x9)
  else
  (some (0 : Int32))))
set_option maxHeartbeats 4000000 in
set_option maxRecDepth 100000 in
theorem c_X1_percentOfYear {l : Launch} {E : Ev} (hN : 295 ≤ eN E) {t : Nat} (k_t : kd t = 1) {p1 : Int32} {μ : Mm} {r : Int32} (z0 : F_X1_percentOfYear t p1 μ = some r) : Ct l E yX1_percentOfYear (Cond.code yX1_percentOfYear cX1_percentOfYear 2 (some .int) :: GW) rm_X1_percentOfYear [.ref (eB E + t), .int p1] μ (some (.int r)) μ := by
  refine ct_of (by decide) (Nat.le_of_ble_eq_true rfl) (fun p e s m args below meth c C hr => ?_)
  have C : Cq E p s m args meth c cX1_percentOfYear 2 RX1 := C
  refine gq_lv (lv' := [(0, .ref (eB E + t)), (1, .int p1)]) rfl ?_
  unfold F_X1_percentOfYear at z0
  refine gq_iload_n C dX1_percentOfYear_0 rfl 1 rfl ?_
  rcases ite_ex z0 with ⟨c1, z2⟩ | ⟨c1, z2⟩
  · refine gq_if_lt_t (tgt := 19) C dX1_percentOfYear_1 (by decide) c1 ?_
    refine gq_iconst (v := 0) C dX1_percentOfYear_19 (by decide) ?_
    cases z2
    exact gq_iret C hr dX1_percentOfYear_20 (Nat.le_of_ble_eq_true rfl) (Nat.le_of_ble_eq_true rfl)
  · refine gq_if_lt_f (tgt := 19) C dX1_percentOfYear_1 (by decide) c1 ?_
    refine gq_aload_n C dX1_percentOfYear_4 rfl 0 rfl ?_
    refine gq_get1 C (st_n k_t hN 0 (by decide)) k_t 3 (by decide) wk_2_157 rfl dX1_percentOfYear_5 ?_
    rcases ite_ex z2 with ⟨c3, z4⟩ | ⟨c3, z4⟩
    · refine gq_if_le_t (tgt := 19) C dX1_percentOfYear_8 (by decide) c3 ?_
      refine gq_iconst (v := 0) C dX1_percentOfYear_19 (by decide) ?_
      cases z4
      exact gq_iret C hr dX1_percentOfYear_20 (Nat.le_of_ble_eq_true rfl) (Nat.le_of_ble_eq_true rfl)
    · refine gq_if_le_f (tgt := 19) C dX1_percentOfYear_8 (by decide) c3 ?_
      refine gq_aload_n C dX1_percentOfYear_11 rfl 0 rfl ?_
      refine gq_get1 C (st_n k_t hN 0 (by decide)) k_t 3 (by decide) wk_2_157 rfl dX1_percentOfYear_12 ?_
      refine gq_iconst (v := 5) C dX1_percentOfYear_15 (by decide) ?_
      rcases ite_ex z4 with ⟨c5, z6⟩ | ⟨c5, z6⟩
      · refine gq_icmp_le_t (tgt := 21) C dX1_percentOfYear_16 (by decide) c5 ?_
        refine gq_aload_n C dX1_percentOfYear_21 rfl 0 rfl ?_
        refine gq_get1 C (st_n k_t hN 0 (by decide)) k_t 2 (by decide) wk_2_155 rfl dX1_percentOfYear_22 ?_
        refine gq_iload_n C dX1_percentOfYear_25 rfl 1 rfl ?_
        refine gq_aload_n C dX1_percentOfYear_26 rfl 0 rfl ?_
        refine gq_get1 C (st_n k_t hN 0 (by decide)) k_t 3 (by decide) wk_2_157 rfl dX1_percentOfYear_27 ?_
        obtain ⟨x7, ex7, z8⟩ := bind_ex z6
        obtain ⟨nx7, qx7⟩ := irm_ex ex7
        refine gq_iremE C dX1_percentOfYear_30 nx7 qx7 ?_
        obtain ⟨x9, ex9, z10⟩ := bind_ex z8
        refine gq_ialoadI C (st_n k_t hN 4 (by decide)) (st_kd k_t 4 (by decide)) ex9 dX1_percentOfYear_31 ?_
        cases z10
        exact gq_iret C hr dX1_percentOfYear_32 (Nat.le_of_ble_eq_true rfl) (Nat.le_of_ble_eq_true rfl)
      · refine gq_icmp_le_f (tgt := 21) C dX1_percentOfYear_16 (by decide) c5 ?_
        refine gq_iconst (v := 0) C dX1_percentOfYear_19 (by decide) ?_
        cases z6
        exact gq_iret C hr dX1_percentOfYear_20 (Nat.le_of_ble_eq_true rfl) (Nat.le_of_ble_eq_true rfl)
abbrev rm_X1_comingInto : Room := { frames := 1, cells := 0, slots := 0, locals := 22 }
def F_X1_comingInto (t : Nat) (p1 : Int32) (μ : Mm) : Option Int32 :=
  (F_X2_get (t + 1) p1 (0 : Int32) μ).bind fun o2 =>
  (F_X1_seasonPercentOf t ((μ.1 t 14) - (μ.1 t 14) / (12 : Int32) * (12 : Int32)) μ).bind fun o5 =>
  (F_X1_percentOfYear t ((μ.1 t 14) / (12 : Int32)) μ).bind fun o8 =>
  (F_X2_get (t + 1) p1 (2 : Int32) μ).bind fun o11 =>
  some (((((o2 * o5) / (100 : Int32)) * o8) / (100 : Int32)) + o11)
set_option maxHeartbeats 4000000 in
set_option maxRecDepth 100000 in
theorem c_X1_comingInto {l : Launch} {E : Ev} (hN : 295 ≤ eN E) {t : Nat} (k_t : kd t = 1) {p1 : Int32} {μ : Mm} {r : Int32} (z0 : F_X1_comingInto t p1 μ = some r) : Ct l E yX1_comingInto (Cond.code yX1_comingInto cX1_comingInto 5 (some .int) :: GW) rm_X1_comingInto [.ref (eB E + t), .int p1] μ (some (.int r)) μ := by
  refine ct_of (by decide) (Nat.le_of_ble_eq_true rfl) (fun p e s m args below meth c C hr => ?_)
  have C : Cq E p s m args meth c cX1_comingInto 5 RX1 := C
  refine gq_lv (lv' := [(0, .ref (eB E + t)), (1, .int p1)]) rfl ?_
  unfold F_X1_comingInto at z0
  refine gq_aload_n C dX1_comingInto_0 rfl 0 rfl ?_
  refine gq_get1 C (st_n k_t hN 0 (by decide)) k_t 0 (by decide) wk_2_150 rfl dX1_comingInto_1 ?_
  refine gq_iload_n C dX1_comingInto_4 rfl 1 rfl ?_
  refine gq_iconst (v := 0) C dX1_comingInto_5 (by decide) ?_
  obtain ⟨x3, eo2, z1⟩ := bind_ex z0
  refine gq_V (As := [.int p1, .int (0 : Int32)]) (rest := []) C (c_X2_get hN (st_kd k_t 1 (by decide)) eo2) (st_n k_t hN 1 (by decide)) (st_kd k_t 1 (by decide)) (by decide) rfl wk_1_132 wk_1_133 wk_1_134 wk_1_5 wk_1_135 hd_X2_get ⟨(Nat.le_of_ble_eq_true rfl), (Nat.le_of_ble_eq_true rfl)⟩ (Nat.le_of_ble_eq_true rfl) ⟨(Nat.le_of_ble_eq_true rfl), (Nat.le_of_ble_eq_true rfl)⟩ dX1_comingInto_6 rfl rfl ?_
  refine gq_istore_n (lv' := [(2, .int x3), (0, .ref (eB E + t)), (1, .int p1)]) C dX1_comingInto_9 rfl (by decide) rfl ?_
  refine gq_iload_n C dX1_comingInto_10 rfl 0 rfl ?_
  refine gq_aload_n C dX1_comingInto_11 rfl 1 rfl ?_
  refine gq_aload_n C dX1_comingInto_12 rfl 1 rfl ?_
  refine gq_get1 C (st_n k_t hN 0 (by decide)) k_t 14 (by decide) wk_2_180 rfl dX1_comingInto_13 ?_
  refine gq_bipush (v := 12) C dX1_comingInto_16 (by decide) ?_
  refine gq_irem C dX1_comingInto_18 (by decide) ?_
  obtain ⟨x6, eo5, z4⟩ := bind_ex z1
  refine gq_V (As := [.int ((μ.1 t 14) - (μ.1 t 14) / (12 : Int32) * (12 : Int32))]) (rest := [.int x3]) C (c_X1_seasonPercentOf hN k_t eo5) (st_n k_t hN 0 (by decide)) k_t (by decide) rfl wk_1_136 wk_1_137 wk_1_138 wk_1_4 wk_1_139 hd_X1_seasonPercentOf ⟨(Nat.le_of_ble_eq_true rfl), (Nat.le_of_ble_eq_true rfl)⟩ (Nat.le_of_ble_eq_true rfl) ⟨(Nat.le_of_ble_eq_true rfl), (Nat.le_of_ble_eq_true rfl)⟩ dX1_comingInto_19 rfl rfl ?_
  refine gq_imul C dX1_comingInto_22 ?_
  refine gq_bipush (v := 100) C dX1_comingInto_23 (by decide) ?_
  refine gq_idiv C dX1_comingInto_25 (by decide) ?_
  refine gq_istore_n (lv' := [(3, .int ((x3 * x6) / (100 : Int32))), (2, .int x3), (0, .ref (eB E + t)), (1, .int p1)]) C dX1_comingInto_26 rfl (by decide) rfl ?_
  refine gq_iload_n C dX1_comingInto_27 rfl 0 rfl ?_
  refine gq_aload_n C dX1_comingInto_28 rfl 2 rfl ?_
  refine gq_aload_n C dX1_comingInto_29 rfl 2 rfl ?_
  refine gq_get1 C (st_n k_t hN 0 (by decide)) k_t 14 (by decide) wk_2_180 rfl dX1_comingInto_30 ?_
  refine gq_bipush (v := 12) C dX1_comingInto_33 (by decide) ?_
  refine gq_idiv C dX1_comingInto_35 (by decide) ?_
  obtain ⟨x9, eo8, z7⟩ := bind_ex z4
  refine gq_V (As := [.int ((μ.1 t 14) / (12 : Int32))]) (rest := [.int ((x3 * x6) / (100 : Int32))]) C (c_X1_percentOfYear hN k_t eo8) (st_n k_t hN 0 (by decide)) k_t (by decide) rfl wk_1_140 wk_1_141 wk_1_142 wk_1_4 wk_1_143 hd_X1_percentOfYear ⟨(Nat.le_of_ble_eq_true rfl), (Nat.le_of_ble_eq_true rfl)⟩ (Nat.le_of_ble_eq_true rfl) ⟨(Nat.le_of_ble_eq_true rfl), (Nat.le_of_ble_eq_true rfl)⟩ dX1_comingInto_36 rfl rfl ?_
  refine gq_imul C dX1_comingInto_39 ?_
  refine gq_bipush (v := 100) C dX1_comingInto_40 (by decide) ?_
  refine gq_idiv C dX1_comingInto_42 (by decide) ?_
  refine gq_istore (lv' := [(4, .int ((((x3 * x6) / (100 : Int32)) * x9) / (100 : Int32))), (3, .int ((x3 * x6) / (100 : Int32))), (2, .int x3), (0, .ref (eB E + t)), (1, .int p1)]) C dX1_comingInto_43 (by decide) rfl ?_
  refine gq_iload C dX1_comingInto_45 0 rfl ?_
  refine gq_aload_n C dX1_comingInto_47 rfl 3 rfl ?_
  refine gq_get1 C (st_n k_t hN 0 (by decide)) k_t 0 (by decide) wk_2_150 rfl dX1_comingInto_48 ?_
  refine gq_iload_n C dX1_comingInto_51 rfl 4 rfl ?_
  refine gq_iconst (v := 2) C dX1_comingInto_52 (by decide) ?_
  obtain ⟨x12, eo11, z10⟩ := bind_ex z7
  refine gq_V (As := [.int p1, .int (2 : Int32)]) (rest := [.int ((((x3 * x6) / (100 : Int32)) * x9) / (100 : Int32))]) C (c_X2_get hN (st_kd k_t 1 (by decide)) eo11) (st_n k_t hN 1 (by decide)) (st_kd k_t 1 (by decide)) (by decide) rfl wk_1_132 wk_1_133 wk_1_134 wk_1_5 wk_1_135 hd_X2_get ⟨(Nat.le_of_ble_eq_true rfl), (Nat.le_of_ble_eq_true rfl)⟩ (Nat.le_of_ble_eq_true rfl) ⟨(Nat.le_of_ble_eq_true rfl), (Nat.le_of_ble_eq_true rfl)⟩ dX1_comingInto_53 rfl rfl ?_
  refine gq_iadd C dX1_comingInto_56 ?_
  cases z10
  exact gq_iret C hr dX1_comingInto_57 (Nat.le_of_ble_eq_true rfl) (Nat.le_of_ble_eq_true rfl)
abbrev rm_X1_outflowOfMonth : Room := { frames := 1, cells := 0, slots := 0, locals := 22 }
def F_X1_outflowOfMonth (t : Nat) (μ : Mm) : Option Int32 :=
  (F_X2_get (t + 18) ((μ.1 (t + 18) 2) - (1 : Int32)) (2 : Int32) μ).bind fun o2 =>
  some o2
set_option maxHeartbeats 4000000 in
set_option maxRecDepth 100000 in
theorem c_X1_outflowOfMonth {l : Launch} {E : Ev} (hN : 295 ≤ eN E) {t : Nat} (k_t : kd t = 1) {μ : Mm} {r : Int32} (z0 : F_X1_outflowOfMonth t μ = some r) : Ct l E yX1_outflowOfMonth (Cond.code yX1_outflowOfMonth cX1_outflowOfMonth 1 (some .int) :: GW) rm_X1_outflowOfMonth [.ref (eB E + t)] μ (some (.int r)) μ := by
  refine ct_of (by decide) (Nat.le_of_ble_eq_true rfl) (fun p e s m args below meth c C hr => ?_)
  have C : Cq E p s m args meth c cX1_outflowOfMonth 1 RX1 := C
  refine gq_lv (lv' := [(0, .ref (eB E + t))]) rfl ?_
  unfold F_X1_outflowOfMonth at z0
  refine gq_aload_n C dX1_outflowOfMonth_0 rfl 0 rfl ?_
  refine gq_get1 C (st_n k_t hN 0 (by decide)) k_t 12 (by decide) wk_2_177 rfl dX1_outflowOfMonth_1 ?_
  refine gq_aload_n C dX1_outflowOfMonth_4 rfl 0 rfl ?_
  refine gq_get1 C (st_n k_t hN 0 (by decide)) k_t 12 (by decide) wk_2_177 rfl dX1_outflowOfMonth_5 ?_
  refine gq_get2N C (st_n k_t hN 18 (by decide)) (st_kd k_t 18 (by decide)) 2 (by decide) wk_2_141 rfl dX1_outflowOfMonth_8 ?_
  refine gq_iconst (v := 1) C dX1_outflowOfMonth_11 (by decide) ?_
  refine gq_isub C dX1_outflowOfMonth_12 ?_
  refine gq_iconst (v := 2) C dX1_outflowOfMonth_13 (by decide) ?_
  obtain ⟨x3, eo2, z1⟩ := bind_ex z0
  refine gq_V (As := [.int ((μ.1 (t + 18) 2) - (1 : Int32)), .int (2 : Int32)]) (rest := []) C (c_X2_get hN (st_kd k_t 18 (by decide)) eo2) (st_n k_t hN 18 (by decide)) (st_kd k_t 18 (by decide)) (by decide) rfl wk_1_132 wk_1_133 wk_1_134 wk_1_5 wk_1_135 hd_X2_get ⟨(Nat.le_of_ble_eq_true rfl), (Nat.le_of_ble_eq_true rfl)⟩ (Nat.le_of_ble_eq_true rfl) ⟨(Nat.le_of_ble_eq_true rfl), (Nat.le_of_ble_eq_true rfl)⟩ dX1_outflowOfMonth_14 rfl rfl ?_
  cases z1
  exact gq_iret C hr dX1_outflowOfMonth_17 (Nat.le_of_ble_eq_true rfl) (Nat.le_of_ble_eq_true rfl)
abbrev rm_X1_openGauges : Room := { frames := 2, cells := 0, slots := 0, locals := 46 }
def F_X1_openGauges_11 (t : Nat) : Nat → Int32 → Int32 → Mm → Option Mm
  | 0, _, _, _ => none
  | n + 1, v1, v2, μ =>
  if (μ.1 (t + 1) 2) ≤ v2 then
  (some μ)
  else
  ((F_X1_comingInto t v2 μ).bind fun o7 =>
  (F_X2_addRow (t + 18) μ).bind fun o10 =>
  (F_X2_put (t + 18) v2 (0 : Int32) o7 o10.2).bind fun o14 =>
  (F_X2_put (t + 18) v2 (1 : Int32) (v1 + o7) o14).bind fun o17 =>
  (F_X2_put (t + 18) v2 (2 : Int32) (v1 + o7) o17).bind fun o20 =>
  F_X1_openGauges_11 t n (v1 + o7) (v2 + 1) o20)
def F_X1_openGauges (t : Nat) (μ : Mm) : Option Mm :=
  (F_X2_removeAll (t + 18) μ).bind fun o2 =>
  (F_X1_openGauges_11 t qFuel (0 : Int32) (0 : Int32) o2).bind fun o23 =>
  some o23
set_option maxHeartbeats 4000000 in
set_option maxRecDepth 100000 in
theorem l_X1_openGauges_11 {l : Launch} {E : Ev} (hN : 295 ≤ eN E) {p : Program} {e : Env} {s : State} {m : MethodId} {args : Array Value} {below : List Frame} {meth : Method} {c : Code} (C : Cq E p s m args meth c cX1_openGauges 4 RX1) {Q : State → Prop} {t : Nat} (k_t : kd t = 1) : ∀ (n : Nat) (v1 : Int32) (v2 : Int32) (μ : Mm) (μx : Mm), F_X1_openGauges_11 t n v1 v2 μ = some μx → Gq E p l e rm_X1_openGauges s m args below meth c 0 0 4 Q 76 [] [] μx → Gq E p l e rm_X1_openGauges s m args below meth c 0 0 4 Q 11 [(0, .ref (eB E + t)), (1, .int v1), (2, .int v2)] [] μ := by
  intro n
  induction n with
  | zero =>
    intro v1 v2 μ μx z0 kk
    rw [F_X1_openGauges_11] at z0
    cases z0
  | succ n ih =>
    intro v1 v2 μ μx z0 kk
    rw [F_X1_openGauges_11] at z0
    refine gq_iload_n C dX1_openGauges_11 rfl 2 rfl ?_
    refine gq_aload_n C dX1_openGauges_12 rfl 0 rfl ?_
    refine gq_get1 C (st_n k_t hN 0 (by decide)) k_t 0 (by decide) wk_2_150 rfl dX1_openGauges_13 ?_
    refine gq_get2N C (st_n k_t hN 1 (by decide)) (st_kd k_t 1 (by decide)) 2 (by decide) wk_2_141 rfl dX1_openGauges_16 ?_
    rcases ite_ex z0 with ⟨c4, z5⟩ | ⟨c4, z5⟩
    · refine gq_icmp_ge_t (tgt := 76) C dX1_openGauges_19 (by decide) c4 ?_
      cases z5
      exact gq_widen (Nat.le_of_ble_eq_true rfl) (Nat.le_of_ble_eq_true rfl) (gq_sub [] rfl kk)
    · refine gq_icmp_ge_f (tgt := 76) C dX1_openGauges_19 (by decide) c4 ?_
      refine gq_aload_n C dX1_openGauges_22 rfl 0 rfl ?_
      refine gq_iload_n C dX1_openGauges_23 rfl 2 rfl ?_
      obtain ⟨x8, eo7, z6⟩ := bind_ex z5
      refine gq_V (As := [.int v2]) (rest := []) C (c_X1_comingInto hN k_t eo7) (st_n k_t hN 0 (by decide)) k_t (by decide) rfl wk_2_5 wk_1_129 wk_1_130 wk_1_4 wk_1_131 hd_X1_comingInto ⟨(Nat.le_of_ble_eq_true rfl), (Nat.le_of_ble_eq_true rfl)⟩ (Nat.le_of_ble_eq_true rfl) ⟨(Nat.le_of_ble_eq_true rfl), (Nat.le_of_ble_eq_true rfl)⟩ dX1_openGauges_24 rfl rfl ?_
      refine gq_istore_n (lv' := [(3, .int x8), (0, .ref (eB E + t)), (1, .int v1), (2, .int v2)]) C dX1_openGauges_27 rfl (by decide) rfl ?_
      refine gq_iload_n C dX1_openGauges_28 rfl 2 rfl ?_
      refine gq_iload_n C dX1_openGauges_29 rfl 0 rfl ?_
      refine gq_iadd C dX1_openGauges_30 ?_
      refine gq_istore_n (lv' := [(1, .int (v1 + x8)), (3, .int x8), (0, .ref (eB E + t)), (2, .int v2)]) C dX1_openGauges_31 rfl (by decide) rfl ?_
      refine gq_aload_n C dX1_openGauges_32 rfl 2 rfl ?_
      refine gq_get1 C (st_n k_t hN 0 (by decide)) k_t 12 (by decide) wk_2_177 rfl dX1_openGauges_33 ?_
      obtain ⟨⟨x11, m12⟩, eo10, z9⟩ := bind_ex z6
      dsimp only at z9
      refine gq_V (As := []) (rest := []) C (c_X2_addRow hN (st_kd k_t 18 (by decide)) eo10) (st_n k_t hN 18 (by decide)) (st_kd k_t 18 (by decide)) (by decide) rfl wk_2_6 wk_2_7 wk_2_8 wk_1_5 wk_2_9 hd_X2_addRow ⟨(Nat.le_of_ble_eq_true rfl), (Nat.le_of_ble_eq_true rfl)⟩ (Nat.le_of_ble_eq_true rfl) ⟨(Nat.le_of_ble_eq_true rfl), (Nat.le_of_ble_eq_true rfl)⟩ dX1_openGauges_36 rfl rfl ?_
      refine gq_popi C dX1_openGauges_39 ?_
      refine gq_aload_n C dX1_openGauges_40 rfl 2 rfl ?_
      refine gq_get1 C (st_n k_t hN 0 (by decide)) k_t 12 (by decide) wk_2_177 rfl dX1_openGauges_41 ?_
      refine gq_iload_n C dX1_openGauges_44 rfl 3 rfl ?_
      refine gq_iconst (v := 0) C dX1_openGauges_45 (by decide) ?_
      refine gq_iload_n C dX1_openGauges_46 rfl 1 rfl ?_
      obtain ⟨m15, eo14, z13⟩ := bind_ex z9
      refine gq_V (As := [.int v2, .int (0 : Int32), .int x8]) (rest := []) C (c_X2_put hN (st_kd k_t 18 (by decide)) eo14) (st_n k_t hN 18 (by decide)) (st_kd k_t 18 (by decide)) (by decide) rfl wk_2_10 wk_2_11 wk_2_12 wk_1_5 wk_2_13 hd_X2_put ⟨(Nat.le_of_ble_eq_true rfl), (Nat.le_of_ble_eq_true rfl)⟩ (Nat.le_of_ble_eq_true rfl) ⟨(Nat.le_of_ble_eq_true rfl), (Nat.le_of_ble_eq_true rfl)⟩ dX1_openGauges_47 rfl rfl ?_
      refine gq_aload_n C dX1_openGauges_50 rfl 2 rfl ?_
      refine gq_get1 C (st_n k_t hN 0 (by decide)) k_t 12 (by decide) wk_2_177 rfl dX1_openGauges_51 ?_
      refine gq_iload_n C dX1_openGauges_54 rfl 3 rfl ?_
      refine gq_iconst (v := 1) C dX1_openGauges_55 (by decide) ?_
      refine gq_iload_n C dX1_openGauges_56 rfl 0 rfl ?_
      obtain ⟨m18, eo17, z16⟩ := bind_ex z13
      refine gq_V (As := [.int v2, .int (1 : Int32), .int (v1 + x8)]) (rest := []) C (c_X2_put hN (st_kd k_t 18 (by decide)) eo17) (st_n k_t hN 18 (by decide)) (st_kd k_t 18 (by decide)) (by decide) rfl wk_2_10 wk_2_11 wk_2_12 wk_1_5 wk_2_13 hd_X2_put ⟨(Nat.le_of_ble_eq_true rfl), (Nat.le_of_ble_eq_true rfl)⟩ (Nat.le_of_ble_eq_true rfl) ⟨(Nat.le_of_ble_eq_true rfl), (Nat.le_of_ble_eq_true rfl)⟩ dX1_openGauges_57 rfl rfl ?_
      refine gq_aload_n C dX1_openGauges_60 rfl 2 rfl ?_
      refine gq_get1 C (st_n k_t hN 0 (by decide)) k_t 12 (by decide) wk_2_177 rfl dX1_openGauges_61 ?_
      refine gq_iload_n C dX1_openGauges_64 rfl 3 rfl ?_
      refine gq_iconst (v := 2) C dX1_openGauges_65 (by decide) ?_
      refine gq_iload_n C dX1_openGauges_66 rfl 0 rfl ?_
      obtain ⟨m21, eo20, z19⟩ := bind_ex z16
      refine gq_V (As := [.int v2, .int (2 : Int32), .int (v1 + x8)]) (rest := []) C (c_X2_put hN (st_kd k_t 18 (by decide)) eo20) (st_n k_t hN 18 (by decide)) (st_kd k_t 18 (by decide)) (by decide) rfl wk_2_10 wk_2_11 wk_2_12 wk_1_5 wk_2_13 hd_X2_put ⟨(Nat.le_of_ble_eq_true rfl), (Nat.le_of_ble_eq_true rfl)⟩ (Nat.le_of_ble_eq_true rfl) ⟨(Nat.le_of_ble_eq_true rfl), (Nat.le_of_ble_eq_true rfl)⟩ dX1_openGauges_67 rfl rfl ?_
      refine gq_iinc (v := (v2 + 1)) (lv' := [(2, .int (v2 + 1)), (1, .int (v1 + x8)), (3, .int x8), (0, .ref (eB E + t))]) (q := 3) C dX1_openGauges_70 rfl rfl (by decide) rfl ?_
      refine gq_goto (tgt := 11) C dX1_openGauges_73 (by decide) ?_
      refine gq_widen (k' := 0) (n' := 0) (Nat.le_of_ble_eq_true rfl) (Nat.le_of_ble_eq_true rfl) (gq_sub [3, 1, 0] rfl ?_)
      exact ih _ _ _ _ z19 kk
set_option maxHeartbeats 4000000 in
set_option maxRecDepth 100000 in
theorem c_X1_openGauges {l : Launch} {E : Ev} (hN : 295 ≤ eN E) {t : Nat} (k_t : kd t = 1) {μ : Mm} {μ' : Mm} (z0 : F_X1_openGauges t μ = some μ') : Ct l E yX1_openGauges (Cond.code yX1_openGauges cX1_openGauges 4 none :: GW) rm_X1_openGauges [.ref (eB E + t)] μ none μ' := by
  refine ct_of (by decide) (Nat.le_of_ble_eq_true rfl) (fun p e s m args below meth c C hr => ?_)
  have C : Cq E p s m args meth c cX1_openGauges 4 RX1 := C
  refine gq_lv (lv' := [(0, .ref (eB E + t))]) rfl ?_
  unfold F_X1_openGauges at z0
  refine gq_aload_n C dX1_openGauges_0 rfl 0 rfl ?_
  refine gq_get1 C (st_n k_t hN 0 (by decide)) k_t 12 (by decide) wk_2_177 rfl dX1_openGauges_1 ?_
  obtain ⟨m3, eo2, z1⟩ := bind_ex z0
  refine gq_V (As := []) (rest := []) C (c_X2_removeAll hN (st_kd k_t 18 (by decide)) eo2) (st_n k_t hN 18 (by decide)) (st_kd k_t 18 (by decide)) (by decide) rfl wk_2_1 wk_2_2 wk_2_3 wk_1_5 wk_2_4 hd_X2_removeAll ⟨(Nat.le_of_ble_eq_true rfl), (Nat.le_of_ble_eq_true rfl)⟩ (Nat.le_of_ble_eq_true rfl) ⟨(Nat.le_of_ble_eq_true rfl), (Nat.le_of_ble_eq_true rfl)⟩ dX1_openGauges_4 rfl rfl ?_
  refine gq_iconst (v := 0) C dX1_openGauges_7 (by decide) ?_
  refine gq_istore_n (lv' := [(1, .int (0 : Int32)), (0, .ref (eB E + t))]) C dX1_openGauges_8 rfl (by decide) rfl ?_
  refine gq_iconst (v := 0) C dX1_openGauges_9 (by decide) ?_
  refine gq_istore_n (lv' := [(2, .int (0 : Int32)), (1, .int (0 : Int32)), (0, .ref (eB E + t))]) C dX1_openGauges_10 rfl (by decide) rfl ?_
  obtain ⟨m24, eo23, z22⟩ := bind_ex z1
  refine gq_widen (k' := 0) (n' := 0) (Nat.le_of_ble_eq_true rfl) (Nat.le_of_ble_eq_true rfl) (gq_sub [2, 1, 0] rfl ?_)
  refine l_X1_openGauges_11 hN C k_t qFuel _ _ _ _ eo23 ?_
  cases z22
  exact gq_vret C hr dX1_openGauges_76 (Nat.le_of_ble_eq_true rfl) (Nat.le_of_ble_eq_true rfl)
abbrev rm_X1_pay : Room := { frames := 0, cells := 0, slots := 0, locals := 0 }
def F_X1_pay (t : Nat) (p1 : Int32) (p2 : Int32) (p3 : Int32) (μ : Mm) : Option Mm :=
  if p1 < 0 then
  (some μ)
  else
  (if (5 : Int32) ≤ p1 then
  (some μ)
  else
  (if p2 < 0 then
  (some μ)
  else
  (if (5 : Int32) ≤ p2 then
  (some μ)
  else
  ((aL μ (t + 7) p1).bind fun x9 =>
  (sL μ (t + 7) p1 (x9 - (Int32.toInt64 p3))).bind fun m11 =>
  (aL m11 (t + 7) p2).bind fun x13 =>
  (sL m11 (t + 7) p2 (x13 + (Int32.toInt64 p3))).bind fun m15 =>
  some m15))))
set_option maxHeartbeats 4000000 in
set_option maxRecDepth 100000 in
theorem c_X1_pay {l : Launch} {E : Ev} (hN : 295 ≤ eN E) {t : Nat} (k_t : kd t = 1) {p1 : Int32} {p2 : Int32} {p3 : Int32} {μ : Mm} {μ' : Mm} (z0 : F_X1_pay t p1 p2 p3 μ = some μ') : Ct l E yX1_pay (Cond.code yX1_pay cX1_pay 4 none :: GW) rm_X1_pay [.ref (eB E + t), .int p1, .int p2, .int p3] μ none μ' := by
  refine ct_of (by decide) (Nat.le_of_ble_eq_true rfl) (fun p e s m args below meth c C hr => ?_)
  have C : Cq E p s m args meth c cX1_pay 4 RX1 := C
  refine gq_lv (lv' := [(0, .ref (eB E + t)), (1, .int p1), (2, .int p2), (3, .int p3)]) rfl ?_
  unfold F_X1_pay at z0
  refine gq_iload_n C dX1_pay_0 rfl 1 rfl ?_
  rcases ite_ex z0 with ⟨c1, z2⟩ | ⟨c1, z2⟩
  · refine gq_if_lt_t (tgt := 40) C dX1_pay_1 (by decide) c1 ?_
    cases z2
    exact gq_vret C hr dX1_pay_40 (Nat.le_of_ble_eq_true rfl) (Nat.le_of_ble_eq_true rfl)
  · refine gq_if_lt_f (tgt := 40) C dX1_pay_1 (by decide) c1 ?_
    refine gq_iload_n C dX1_pay_4 rfl 1 rfl ?_
    refine gq_iconst (v := 5) C dX1_pay_5 (by decide) ?_
    rcases ite_ex z2 with ⟨c3, z4⟩ | ⟨c3, z4⟩
    · refine gq_icmp_ge_t (tgt := 40) C dX1_pay_6 (by decide) c3 ?_
      cases z4
      exact gq_vret C hr dX1_pay_40 (Nat.le_of_ble_eq_true rfl) (Nat.le_of_ble_eq_true rfl)
    · refine gq_icmp_ge_f (tgt := 40) C dX1_pay_6 (by decide) c3 ?_
      refine gq_iload_n C dX1_pay_9 rfl 2 rfl ?_
      rcases ite_ex z4 with ⟨c5, z6⟩ | ⟨c5, z6⟩
      · refine gq_if_lt_t (tgt := 40) C dX1_pay_10 (by decide) c5 ?_
        cases z6
        exact gq_vret C hr dX1_pay_40 (Nat.le_of_ble_eq_true rfl) (Nat.le_of_ble_eq_true rfl)
      · refine gq_if_lt_f (tgt := 40) C dX1_pay_10 (by decide) c5 ?_
        refine gq_iload_n C dX1_pay_13 rfl 2 rfl ?_
        refine gq_iconst (v := 5) C dX1_pay_14 (by decide) ?_
        rcases ite_ex z6 with ⟨c7, z8⟩ | ⟨c7, z8⟩
        · refine gq_icmp_ge_t (tgt := 40) C dX1_pay_15 (by decide) c7 ?_
          cases z8
          exact gq_vret C hr dX1_pay_40 (Nat.le_of_ble_eq_true rfl) (Nat.le_of_ble_eq_true rfl)
        · refine gq_icmp_ge_f (tgt := 40) C dX1_pay_15 (by decide) c7 ?_
          refine gq_aload_n C dX1_pay_18 rfl 0 rfl ?_
          refine gq_get1 C (st_n k_t hN 0 (by decide)) k_t 5 (by decide) wk_2_163 rfl dX1_pay_19 ?_
          refine gq_iload_n C dX1_pay_22 rfl 1 rfl ?_
          refine gq_dup2 C dX1_pay_23 ?_
          obtain ⟨x9, ex9, z10⟩ := bind_ex z8
          refine gq_laloadL C (st_n k_t hN 7 (by decide)) (st_kd k_t 7 (by decide)) ex9 dX1_pay_24 ?_
          refine gq_iload_n C dX1_pay_25 rfl 3 rfl ?_
          refine gq_i2l C dX1_pay_26 ?_
          refine gq_lsub C dX1_pay_27 ?_
          obtain ⟨m11, em11, z12⟩ := bind_ex z10
          refine gq_lastore C (st_n k_t hN 7 (by decide)) (st_kd k_t 7 (by decide)) em11 dX1_pay_28 ?_
          refine gq_aload_n C dX1_pay_29 rfl 0 rfl ?_
          refine gq_get1 C (st_n k_t hN 0 (by decide)) k_t 5 (by decide) wk_2_163 rfl dX1_pay_30 ?_
          refine gq_iload_n C dX1_pay_33 rfl 2 rfl ?_
          refine gq_dup2 C dX1_pay_34 ?_
          obtain ⟨x13, ex13, z14⟩ := bind_ex z12
          refine gq_laloadL C (st_n k_t hN 7 (by decide)) (st_kd k_t 7 (by decide)) ex13 dX1_pay_35 ?_
          refine gq_iload_n C dX1_pay_36 rfl 3 rfl ?_
          refine gq_i2l C dX1_pay_37 ?_
          refine gq_ladd C dX1_pay_38 ?_
          obtain ⟨m15, em15, z16⟩ := bind_ex z14
          refine gq_lastore C (st_n k_t hN 7 (by decide)) (st_kd k_t 7 (by decide)) em15 dX1_pay_39 ?_
          cases z16
          exact gq_vret C hr dX1_pay_40 (Nat.le_of_ble_eq_true rfl) (Nat.le_of_ble_eq_true rfl)
abbrev rm_X1_payPremiums : Room := { frames := 1, cells := 0, slots := 0, locals := 23 }
def F_X1_payPremiums_13 (t : Nat) : Nat → Int32 → Mm → Option Mm
  | 0, _, _ => none
  | n + 1, v1, μ =>
  if (μ.1 (t + 14) 2) ≤ v1 then
  (some μ)
  else
  ((F_X2_get (t + 14) v1 (0 : Int32) μ).bind fun o6 =>
  (F_X2_get (t + 8) o6 (0 : Int32) μ).bind fun o9 =>
  (F_X2_get (t + 14) v1 (1 : Int32) μ).bind fun o12 =>
  (F_X2_get (t + 14) v1 (4 : Int32) μ).bind fun o15 =>
  (F_X1_pay t o12 o9 o15 μ).bind fun o18 =>
  F_X1_payPremiums_13 t n (v1 + 1) o18)
def F_X1_payPremiums (t : Nat) (μ : Mm) : Option Mm :=
  if ((μ.1 t 14) - (μ.1 t 14) / (12 : Int32) * (12 : Int32)) = 0 then
  ((F_X1_payPremiums_13 t qFuel (0 : Int32) μ).bind fun o21 =>
  some o21)
  else
  (some μ)
set_option maxHeartbeats 4000000 in
set_option maxRecDepth 100000 in
theorem l_X1_payPremiums_13 {l : Launch} {E : Ev} (hN : 295 ≤ eN E) {p : Program} {e : Env} {s : State} {m : MethodId} {args : Array Value} {below : List Frame} {meth : Method} {c : Code} (C : Cq E p s m args meth c cX1_payPremiums 3 RX1) {Q : State → Prop} {t : Nat} (k_t : kd t = 1) : ∀ (n : Nat) (v1 : Int32) (μ : Mm) (μx : Mm), F_X1_payPremiums_13 t n v1 μ = some μx → Gq E p l e rm_X1_payPremiums s m args below meth c 0 0 3 Q 71 [] [] μx → Gq E p l e rm_X1_payPremiums s m args below meth c 0 0 3 Q 13 [(0, .ref (eB E + t)), (1, .int v1)] [] μ := by
  intro n
  induction n with
  | zero =>
    intro v1 μ μx z0 kk
    rw [F_X1_payPremiums_13] at z0
    cases z0
  | succ n ih =>
    intro v1 μ μx z0 kk
    rw [F_X1_payPremiums_13] at z0
    refine gq_iload_n C dX1_payPremiums_13 rfl 1 rfl ?_
    refine gq_aload_n C dX1_payPremiums_14 rfl 0 rfl ?_
    refine gq_get1 C (st_n k_t hN 0 (by decide)) k_t 10 (by decide) wk_2_172 rfl dX1_payPremiums_15 ?_
    refine gq_get2N C (st_n k_t hN 14 (by decide)) (st_kd k_t 14 (by decide)) 2 (by decide) wk_2_141 rfl dX1_payPremiums_18 ?_
    rcases ite_ex z0 with ⟨c3, z4⟩ | ⟨c3, z4⟩
    · refine gq_icmp_ge_t (tgt := 71) C dX1_payPremiums_21 (by decide) c3 ?_
      cases z4
      exact gq_widen (Nat.le_of_ble_eq_true rfl) (Nat.le_of_ble_eq_true rfl) (gq_sub [] rfl kk)
    · refine gq_icmp_ge_f (tgt := 71) C dX1_payPremiums_21 (by decide) c3 ?_
      refine gq_aload_n C dX1_payPremiums_24 rfl 0 rfl ?_
      refine gq_get1 C (st_n k_t hN 0 (by decide)) k_t 6 (by decide) wk_2_164 rfl dX1_payPremiums_25 ?_
      refine gq_aload_n C dX1_payPremiums_28 rfl 0 rfl ?_
      refine gq_get1 C (st_n k_t hN 0 (by decide)) k_t 10 (by decide) wk_2_172 rfl dX1_payPremiums_29 ?_
      refine gq_iload_n C dX1_payPremiums_32 rfl 1 rfl ?_
      refine gq_iconst (v := 0) C dX1_payPremiums_33 (by decide) ?_
      obtain ⟨x7, eo6, z5⟩ := bind_ex z4
      refine gq_V (As := [.int v1, .int (0 : Int32)]) (rest := [.ref (eB E + (t + 8))]) C (c_X2_get hN (st_kd k_t 14 (by decide)) eo6) (st_n k_t hN 14 (by decide)) (st_kd k_t 14 (by decide)) (by decide) rfl wk_1_132 wk_1_133 wk_1_134 wk_1_5 wk_1_135 hd_X2_get ⟨(Nat.le_of_ble_eq_true rfl), (Nat.le_of_ble_eq_true rfl)⟩ (Nat.le_of_ble_eq_true rfl) ⟨(Nat.le_of_ble_eq_true rfl), (Nat.le_of_ble_eq_true rfl)⟩ dX1_payPremiums_34 rfl rfl ?_
      refine gq_iconst (v := 0) C dX1_payPremiums_37 (by decide) ?_
      obtain ⟨x10, eo9, z8⟩ := bind_ex z5
      refine gq_V (As := [.int x7, .int (0 : Int32)]) (rest := []) C (c_X2_get hN (st_kd k_t 8 (by decide)) eo9) (st_n k_t hN 8 (by decide)) (st_kd k_t 8 (by decide)) (by decide) rfl wk_1_132 wk_1_133 wk_1_134 wk_1_5 wk_1_135 hd_X2_get ⟨(Nat.le_of_ble_eq_true rfl), (Nat.le_of_ble_eq_true rfl)⟩ (Nat.le_of_ble_eq_true rfl) ⟨(Nat.le_of_ble_eq_true rfl), (Nat.le_of_ble_eq_true rfl)⟩ dX1_payPremiums_38 rfl rfl ?_
      refine gq_istore_n (lv' := [(2, .int x10), (0, .ref (eB E + t)), (1, .int v1)]) C dX1_payPremiums_41 rfl (by decide) rfl ?_
      refine gq_aload_n C dX1_payPremiums_42 rfl 1 rfl ?_
      refine gq_aload_n C dX1_payPremiums_43 rfl 1 rfl ?_
      refine gq_get1 C (st_n k_t hN 0 (by decide)) k_t 10 (by decide) wk_2_172 rfl dX1_payPremiums_44 ?_
      refine gq_iload_n C dX1_payPremiums_47 rfl 2 rfl ?_
      refine gq_iconst (v := 1) C dX1_payPremiums_48 (by decide) ?_
      obtain ⟨x13, eo12, z11⟩ := bind_ex z8
      refine gq_V (As := [.int v1, .int (1 : Int32)]) (rest := [.ref (eB E + t)]) C (c_X2_get hN (st_kd k_t 14 (by decide)) eo12) (st_n k_t hN 14 (by decide)) (st_kd k_t 14 (by decide)) (by decide) rfl wk_1_132 wk_1_133 wk_1_134 wk_1_5 wk_1_135 hd_X2_get ⟨(Nat.le_of_ble_eq_true rfl), (Nat.le_of_ble_eq_true rfl)⟩ (Nat.le_of_ble_eq_true rfl) ⟨(Nat.le_of_ble_eq_true rfl), (Nat.le_of_ble_eq_true rfl)⟩ dX1_payPremiums_49 rfl rfl ?_
      refine gq_iload_n C dX1_payPremiums_52 rfl 0 rfl ?_
      refine gq_aload_n C dX1_payPremiums_53 rfl 1 rfl ?_
      refine gq_get1 C (st_n k_t hN 0 (by decide)) k_t 10 (by decide) wk_2_172 rfl dX1_payPremiums_54 ?_
      refine gq_iload_n C dX1_payPremiums_57 rfl 2 rfl ?_
      refine gq_iconst (v := 4) C dX1_payPremiums_58 (by decide) ?_
      obtain ⟨x16, eo15, z14⟩ := bind_ex z11
      refine gq_V (As := [.int v1, .int (4 : Int32)]) (rest := [.int x10, .int x13, .ref (eB E + t)]) C (c_X2_get hN (st_kd k_t 14 (by decide)) eo15) (st_n k_t hN 14 (by decide)) (st_kd k_t 14 (by decide)) (by decide) rfl wk_1_132 wk_1_133 wk_1_134 wk_1_5 wk_1_135 hd_X2_get ⟨(Nat.le_of_ble_eq_true rfl), (Nat.le_of_ble_eq_true rfl)⟩ (Nat.le_of_ble_eq_true rfl) ⟨(Nat.le_of_ble_eq_true rfl), (Nat.le_of_ble_eq_true rfl)⟩ dX1_payPremiums_59 rfl rfl ?_
      obtain ⟨m19, eo18, z17⟩ := bind_ex z14
      refine gq_V (As := [.int x13, .int x10, .int x16]) (rest := []) C (c_X1_pay hN k_t eo18) (st_n k_t hN 0 (by decide)) k_t (by decide) rfl wk_2_19 wk_2_20 wk_2_21 wk_1_4 wk_2_22 hd_X1_pay ⟨(Nat.le_of_ble_eq_true rfl), (Nat.le_of_ble_eq_true rfl)⟩ (Nat.le_of_ble_eq_true rfl) ⟨(Nat.le_of_ble_eq_true rfl), (Nat.le_of_ble_eq_true rfl)⟩ dX1_payPremiums_62 rfl rfl ?_
      refine gq_iinc (v := (v1 + 1)) (lv' := [(1, .int (v1 + 1)), (2, .int x10), (0, .ref (eB E + t))]) (q := 2) C dX1_payPremiums_65 rfl rfl (by decide) rfl ?_
      refine gq_goto (tgt := 13) C dX1_payPremiums_68 (by decide) ?_
      refine gq_widen (k' := 0) (n' := 0) (Nat.le_of_ble_eq_true rfl) (Nat.le_of_ble_eq_true rfl) (gq_sub [2, 0] rfl ?_)
      exact ih _ _ _ z17 kk
set_option maxHeartbeats 4000000 in
set_option maxRecDepth 100000 in
theorem c_X1_payPremiums {l : Launch} {E : Ev} (hN : 295 ≤ eN E) {t : Nat} (k_t : kd t = 1) {μ : Mm} {μ' : Mm} (z0 : F_X1_payPremiums t μ = some μ') : Ct l E yX1_payPremiums (Cond.code yX1_payPremiums cX1_payPremiums 3 none :: GW) rm_X1_payPremiums [.ref (eB E + t)] μ none μ' := by
  refine ct_of (by decide) (Nat.le_of_ble_eq_true rfl) (fun p e s m args below meth c C hr => ?_)
  have C : Cq E p s m args meth c cX1_payPremiums 3 RX1 := C
  refine gq_lv (lv' := [(0, .ref (eB E + t))]) rfl ?_
  unfold F_X1_payPremiums at z0
  refine gq_aload_n C dX1_payPremiums_0 rfl 0 rfl ?_
  refine gq_get1 C (st_n k_t hN 0 (by decide)) k_t 14 (by decide) wk_2_180 rfl dX1_payPremiums_1 ?_
  refine gq_bipush (v := 12) C dX1_payPremiums_4 (by decide) ?_
  refine gq_irem C dX1_payPremiums_6 (by decide) ?_
  rcases ite_ex z0 with ⟨c1, z2⟩ | ⟨c1, z2⟩
  · refine gq_if_eq_t (tgt := 11) C dX1_payPremiums_7 (by decide) c1 ?_
    refine gq_iconst (v := 0) C dX1_payPremiums_11 (by decide) ?_
    refine gq_istore_n (lv' := [(1, .int (0 : Int32)), (0, .ref (eB E + t))]) C dX1_payPremiums_12 rfl (by decide) rfl ?_
    obtain ⟨m22, eo21, z20⟩ := bind_ex z2
    refine gq_widen (k' := 0) (n' := 0) (Nat.le_of_ble_eq_true rfl) (Nat.le_of_ble_eq_true rfl) (gq_sub [1, 0] rfl ?_)
    refine l_X1_payPremiums_13 hN C k_t qFuel _ _ _ eo21 ?_
    cases z20
    exact gq_vret C hr dX1_payPremiums_71 (Nat.le_of_ble_eq_true rfl) (Nat.le_of_ble_eq_true rfl)
  · refine gq_if_eq_f (tgt := 11) C dX1_payPremiums_7 (by decide) c1 ?_
    cases z2
    exact gq_vret C hr dX1_payPremiums_10 (Nat.le_of_ble_eq_true rfl) (Nat.le_of_ble_eq_true rfl)
abbrev rm_X1_rightAtRank : Room := { frames := 1, cells := 0, slots := 0, locals := 21 }
def F_X1_rightAtRank (t : Nat) (p1 : Int32) (μ : Mm) : Option Int32 :=
  (F_X2_has (t + 8) p1 μ).bind fun o2 =>
  if o2 = 0 then
  (some (-1 : Int32))
  else
  (if (10 : Int32) ≤ p1 then
  (some (-1 : Int32))
  else
  ((aI μ (t + 10) p1).bind fun x8 =>
  some x8))
set_option maxHeartbeats 4000000 in
set_option maxRecDepth 100000 in
theorem c_X1_rightAtRank {l : Launch} {E : Ev} (hN : 295 ≤ eN E) {t : Nat} (k_t : kd t = 1) {p1 : Int32} {μ : Mm} {r : Int32} (z0 : F_X1_rightAtRank t p1 μ = some r) : Ct l E yX1_rightAtRank (Cond.code yX1_rightAtRank cX1_rightAtRank 2 (some .int) :: GW) rm_X1_rightAtRank [.ref (eB E + t), .int p1] μ (some (.int r)) μ := by
  refine ct_of (by decide) (Nat.le_of_ble_eq_true rfl) (fun p e s m args below meth c C hr => ?_)
  have C : Cq E p s m args meth c cX1_rightAtRank 2 RX1 := C
  refine gq_lv (lv' := [(0, .ref (eB E + t)), (1, .int p1)]) rfl ?_
  unfold F_X1_rightAtRank at z0
  refine gq_aload_n C dX1_rightAtRank_0 rfl 0 rfl ?_
  refine gq_get1 C (st_n k_t hN 0 (by decide)) k_t 6 (by decide) wk_2_164 rfl dX1_rightAtRank_1 ?_
  refine gq_iload_n C dX1_rightAtRank_4 rfl 1 rfl ?_
  obtain ⟨x3, eo2, z1⟩ := bind_ex z0
  refine gq_V (As := [.int p1]) (rest := []) C (c_X2_has hN (st_kd k_t 8 (by decide)) eo2) (st_n k_t hN 8 (by decide)) (st_kd k_t 8 (by decide)) (by decide) rfl wk_2_27 wk_1_109 wk_1_110 wk_1_5 wk_1_111 hd_X2_has ⟨(Nat.le_of_ble_eq_true rfl), (Nat.le_of_ble_eq_true rfl)⟩ (Nat.le_of_ble_eq_true rfl) ⟨(Nat.le_of_ble_eq_true rfl), (Nat.le_of_ble_eq_true rfl)⟩ dX1_rightAtRank_5 rfl rfl ?_
  rcases ite_ex z1 with ⟨c4, z5⟩ | ⟨c4, z5⟩
  · refine gq_if_eq_t (tgt := 26) C dX1_rightAtRank_8 (by decide) c4 ?_
    refine gq_iconst (v := -1) C dX1_rightAtRank_26 (by decide) ?_
    cases z5
    exact gq_iret C hr dX1_rightAtRank_27 (Nat.le_of_ble_eq_true rfl) (Nat.le_of_ble_eq_true rfl)
  · refine gq_if_eq_f (tgt := 26) C dX1_rightAtRank_8 (by decide) c4 ?_
    refine gq_iload_n C dX1_rightAtRank_11 rfl 1 rfl ?_
    refine gq_bipush (v := 10) C dX1_rightAtRank_12 (by decide) ?_
    rcases ite_ex z5 with ⟨c6, z7⟩ | ⟨c6, z7⟩
    · refine gq_icmp_ge_t (tgt := 26) C dX1_rightAtRank_14 (by decide) c6 ?_
      refine gq_iconst (v := -1) C dX1_rightAtRank_26 (by decide) ?_
      cases z7
      exact gq_iret C hr dX1_rightAtRank_27 (Nat.le_of_ble_eq_true rfl) (Nat.le_of_ble_eq_true rfl)
    · refine gq_icmp_ge_f (tgt := 26) C dX1_rightAtRank_14 (by decide) c6 ?_
      refine gq_aload_n C dX1_rightAtRank_17 rfl 0 rfl ?_
      refine gq_get1 C (st_n k_t hN 0 (by decide)) k_t 7 (by decide) wk_2_167 rfl dX1_rightAtRank_18 ?_
      refine gq_iload_n C dX1_rightAtRank_21 rfl 1 rfl ?_
      obtain ⟨x8, ex8, z9⟩ := bind_ex z7
      refine gq_ialoadI C (st_n k_t hN 10 (by decide)) (st_kd k_t 10 (by decide)) ex8 dX1_rightAtRank_22 ?_
      refine gq_goto (tgt := 27) C dX1_rightAtRank_23 (by decide) ?_
      cases z9
      exact gq_iret C hr dX1_rightAtRank_27 (Nat.le_of_ble_eq_true rfl) (Nat.le_of_ble_eq_true rfl)
abbrev rm_X1_percentOf : Room := { frames := 0, cells := 0, slots := 0, locals := 0 }
def F_X1_percentOf (p1 : Int32) (p2 : Int32) (μ : Mm) : Option Int32 :=
  some ((p1 * p2) / (100 : Int32))
set_option maxHeartbeats 4000000 in
set_option maxRecDepth 100000 in
theorem c_X1_percentOf {l : Launch} {E : Ev} (hN : 295 ≤ eN E) {p1 : Int32} {p2 : Int32} {μ : Mm} {r : Int32} (z0 : F_X1_percentOf p1 p2 μ = some r) : Ct l E yX1_percentOf (Cond.code yX1_percentOf cX1_percentOf 2 (some .int) :: GW) rm_X1_percentOf [.int p1, .int p2] μ (some (.int r)) μ := by
  refine ct_of (by decide) (Nat.le_of_ble_eq_true rfl) (fun p e s m args below meth c C hr => ?_)
  have C : Cq E p s m args meth c cX1_percentOf 2 RX1 := C
  refine gq_lv (lv' := [(0, .int p1), (1, .int p2)]) rfl ?_
  unfold F_X1_percentOf at z0
  refine gq_iload_n C dX1_percentOf_0 rfl 0 rfl ?_
  refine gq_iload_n C dX1_percentOf_1 rfl 1 rfl ?_
  refine gq_imul C dX1_percentOf_2 ?_
  refine gq_bipush (v := 100) C dX1_percentOf_3 (by decide) ?_
  refine gq_idiv C dX1_percentOf_5 (by decide) ?_
  cases z0
  exact gq_iret C hr dX1_percentOf_6 (Nat.le_of_ble_eq_true rfl) (Nat.le_of_ble_eq_true rfl)
abbrev rm_X1_leastSpare : Room := { frames := 1, cells := 0, slots := 0, locals := 22 }
def F_X1_leastSpare_6 (t : Nat) (u2 : Int32) (μ : Mm) : Nat → Int32 → Int32 → Option Int32
  | 0, _, _ => none
  | n + 1, v4, v5 =>
  if u2 ≤ v5 then
  (some v4)
  else
  (if (μ.1 (t + 18) 2) ≤ v5 then
  (some v4)
  else
  ((F_X2_get (t + 18) v5 (2 : Int32) μ).bind fun o6 =>
  (F_X2_get (t + 1) v5 (1 : Int32) μ).bind fun o9 =>
  F_X1_leastSpare_6 t u2 μ n (if (if (o6 - o9) < (0 : Int32) then (0 : Int32) else (o6 - o9)) < v4 then (if (o6 - o9) < (0 : Int32) then (0 : Int32) else (o6 - o9)) else v4) (v5 + 1)))
def F_X1_leastSpare (t : Nat) (p1 : Int32) (p2 : Int32) (p3 : Int32) (μ : Mm) : Option Int32 :=
  (F_X1_leastSpare_6 t p2 μ qFuel p3 p1).bind fun o12 =>
  some o12
set_option maxHeartbeats 4000000 in
set_option maxRecDepth 100000 in
theorem l_X1_leastSpare_6 {l : Launch} {E : Ev} (hN : 295 ≤ eN E) {p : Program} {e : Env} {s : State} {m : MethodId} {args : Array Value} {below : List Frame} {meth : Method} {c : Code} (C : Cq E p s m args meth c cX1_leastSpare 7 RX1) {Q : State → Prop} {t : Nat} (k_t : kd t = 1) {u2 : Int32} {μ : Mm} : ∀ (n : Nat) (v4 : Int32) (v5 : Int32) (w4 : Int32), F_X1_leastSpare_6 t u2 μ n v4 v5 = some w4 → Gq E p l e rm_X1_leastSpare s m args below meth c 0 0 7 Q 66 [(4, .int w4)] [] μ → Gq E p l e rm_X1_leastSpare s m args below meth c 0 0 7 Q 6 [(0, .ref (eB E + t)), (2, .int u2), (4, .int v4), (5, .int v5)] [] μ := by
  intro n
  induction n with
  | zero =>
    intro v4 v5 w4 z0 kk
    rw [F_X1_leastSpare_6] at z0
    cases z0
  | succ n ih =>
    intro v4 v5 w4 z0 kk
    rw [F_X1_leastSpare_6] at z0
    refine gq_iload C dX1_leastSpare_6 3 rfl ?_
    refine gq_iload_n C dX1_leastSpare_8 rfl 1 rfl ?_
    rcases ite_ex z0 with ⟨c1, z2⟩ | ⟨c1, z2⟩
    · refine gq_icmp_ge_t (tgt := 66) C dX1_leastSpare_9 (by decide) c1 ?_
      cases z2
      exact gq_widen (Nat.le_of_ble_eq_true rfl) (Nat.le_of_ble_eq_true rfl) (gq_sub [2] rfl kk)
    · refine gq_icmp_ge_f (tgt := 66) C dX1_leastSpare_9 (by decide) c1 ?_
      refine gq_iload C dX1_leastSpare_12 3 rfl ?_
      refine gq_aload_n C dX1_leastSpare_14 rfl 0 rfl ?_
      refine gq_get1 C (st_n k_t hN 0 (by decide)) k_t 12 (by decide) wk_2_177 rfl dX1_leastSpare_15 ?_
      refine gq_get2N C (st_n k_t hN 18 (by decide)) (st_kd k_t 18 (by decide)) 2 (by decide) wk_2_141 rfl dX1_leastSpare_18 ?_
      rcases ite_ex z2 with ⟨c3, z4⟩ | ⟨c3, z4⟩
      · refine gq_icmp_ge_t (tgt := 66) C dX1_leastSpare_21 (by decide) c3 ?_
        cases z4
        exact gq_widen (Nat.le_of_ble_eq_true rfl) (Nat.le_of_ble_eq_true rfl) (gq_sub [2] rfl kk)
      · refine gq_icmp_ge_f (tgt := 66) C dX1_leastSpare_21 (by decide) c3 ?_
        refine gq_aload_n C dX1_leastSpare_24 rfl 0 rfl ?_
        refine gq_get1 C (st_n k_t hN 0 (by decide)) k_t 12 (by decide) wk_2_177 rfl dX1_leastSpare_25 ?_
        refine gq_iload C dX1_leastSpare_28 3 rfl ?_
        refine gq_iconst (v := 2) C dX1_leastSpare_30 (by decide) ?_
        obtain ⟨x7, eo6, z5⟩ := bind_ex z4
        refine gq_V (As := [.int v5, .int (2 : Int32)]) (rest := []) C (c_X2_get hN (st_kd k_t 18 (by decide)) eo6) (st_n k_t hN 18 (by decide)) (st_kd k_t 18 (by decide)) (by decide) rfl wk_1_132 wk_1_133 wk_1_134 wk_1_5 wk_1_135 hd_X2_get ⟨(Nat.le_of_ble_eq_true rfl), (Nat.le_of_ble_eq_true rfl)⟩ (Nat.le_of_ble_eq_true rfl) ⟨(Nat.le_of_ble_eq_true rfl), (Nat.le_of_ble_eq_true rfl)⟩ dX1_leastSpare_31 rfl rfl ?_
        refine gq_aload_n C dX1_leastSpare_34 rfl 0 rfl ?_
        refine gq_get1 C (st_n k_t hN 0 (by decide)) k_t 0 (by decide) wk_2_150 rfl dX1_leastSpare_35 ?_
        refine gq_iload C dX1_leastSpare_38 3 rfl ?_
        refine gq_iconst (v := 1) C dX1_leastSpare_40 (by decide) ?_
        obtain ⟨x10, eo9, z8⟩ := bind_ex z5
        refine gq_V (As := [.int v5, .int (1 : Int32)]) (rest := [.int x7]) C (c_X2_get hN (st_kd k_t 1 (by decide)) eo9) (st_n k_t hN 1 (by decide)) (st_kd k_t 1 (by decide)) (by decide) rfl wk_1_132 wk_1_133 wk_1_134 wk_1_5 wk_1_135 hd_X2_get ⟨(Nat.le_of_ble_eq_true rfl), (Nat.le_of_ble_eq_true rfl)⟩ (Nat.le_of_ble_eq_true rfl) ⟨(Nat.le_of_ble_eq_true rfl), (Nat.le_of_ble_eq_true rfl)⟩ dX1_leastSpare_41 rfl rfl ?_
        refine gq_isub C dX1_leastSpare_44 ?_
        refine gq_istore (lv' := [(6, .int (x7 - x10)), (0, .ref (eB E + t)), (2, .int u2), (4, .int v4), (5, .int v5)]) C dX1_leastSpare_45 (by decide) rfl ?_
        refine gq_iload C dX1_leastSpare_47 3 rfl ?_
        refine gq_iload C dX1_leastSpare_49 0 rfl ?_
        refine gq_iconst (v := 0) C dX1_leastSpare_51 (by decide) ?_
        refine gq_mmax C wk_2_46 wk_2_47 wk_1_12 wk_2_48 (Nat.le_of_ble_eq_true rfl) (Nat.le_of_ble_eq_true rfl) (Nat.le_of_ble_eq_true rfl) (Nat.le_of_ble_eq_true rfl) dX1_leastSpare_52 ?_
        refine gq_mmin C wk_2_32 wk_2_33 wk_1_12 wk_2_34 (Nat.le_of_ble_eq_true rfl) (Nat.le_of_ble_eq_true rfl) (Nat.le_of_ble_eq_true rfl) (Nat.le_of_ble_eq_true rfl) dX1_leastSpare_55 ?_
        refine gq_istore (lv' := [(4, .int (if (if (x7 - x10) < (0 : Int32) then (0 : Int32) else (x7 - x10)) < v4 then (if (x7 - x10) < (0 : Int32) then (0 : Int32) else (x7 - x10)) else v4)), (6, .int (x7 - x10)), (0, .ref (eB E + t)), (2, .int u2), (5, .int v5)]) C dX1_leastSpare_58 (by decide) rfl ?_
        refine gq_iinc (v := (v5 + 1)) (lv' := [(5, .int (v5 + 1)), (4, .int (if (if (x7 - x10) < (0 : Int32) then (0 : Int32) else (x7 - x10)) < v4 then (if (x7 - x10) < (0 : Int32) then (0 : Int32) else (x7 - x10)) else v4)), (6, .int (x7 - x10)), (0, .ref (eB E + t)), (2, .int u2)]) (q := 4) C dX1_leastSpare_60 rfl rfl (by decide) rfl ?_
        refine gq_goto (tgt := 6) C dX1_leastSpare_63 (by decide) ?_
        refine gq_widen (k' := 0) (n' := 0) (Nat.le_of_ble_eq_true rfl) (Nat.le_of_ble_eq_true rfl) (gq_sub [3, 4, 1, 0] rfl ?_)
        exact ih _ _ _ z8 kk
set_option maxHeartbeats 4000000 in
set_option maxRecDepth 100000 in
theorem c_X1_leastSpare {l : Launch} {E : Ev} (hN : 295 ≤ eN E) {t : Nat} (k_t : kd t = 1) {p1 : Int32} {p2 : Int32} {p3 : Int32} {μ : Mm} {r : Int32} (z0 : F_X1_leastSpare t p1 p2 p3 μ = some r) : Ct l E yX1_leastSpare (Cond.code yX1_leastSpare cX1_leastSpare 7 (some .int) :: GW) rm_X1_leastSpare [.ref (eB E + t), .int p1, .int p2, .int p3] μ (some (.int r)) μ := by
  refine ct_of (by decide) (Nat.le_of_ble_eq_true rfl) (fun p e s m args below meth c C hr => ?_)
  have C : Cq E p s m args meth c cX1_leastSpare 7 RX1 := C
  refine gq_lv (lv' := [(0, .ref (eB E + t)), (1, .int p1), (2, .int p2), (3, .int p3)]) rfl ?_
  unfold F_X1_leastSpare at z0
  refine gq_iload_n C dX1_leastSpare_0 rfl 3 rfl ?_
  refine gq_istore (lv' := [(4, .int p3), (0, .ref (eB E + t)), (1, .int p1), (2, .int p2), (3, .int p3)]) C dX1_leastSpare_1 (by decide) rfl ?_
  refine gq_iload_n C dX1_leastSpare_3 rfl 2 rfl ?_
  refine gq_istore (lv' := [(5, .int p1), (4, .int p3), (0, .ref (eB E + t)), (1, .int p1), (2, .int p2), (3, .int p3)]) C dX1_leastSpare_4 (by decide) rfl ?_
  obtain ⟨x13, eo12, z11⟩ := bind_ex z0
  refine gq_widen (k' := 0) (n' := 0) (Nat.le_of_ble_eq_true rfl) (Nat.le_of_ble_eq_true rfl) (gq_sub [2, 4, 1, 0] rfl ?_)
  refine l_X1_leastSpare_6 hN C k_t qFuel _ _ _ eo12 ?_
  refine gq_iload C dX1_leastSpare_66 0 rfl ?_
  cases z11
  exact gq_iret C hr dX1_leastSpare_68 (Nat.le_of_ble_eq_true rfl) (Nat.le_of_ble_eq_true rfl)
abbrev rm_X1_addClaim : Room := { frames := 1, cells := 0, slots := 0, locals := 23 }
def F_X1_addClaim (t : Nat) (p1 : Int32) (p2 : Int32) (p3 : Int32) (p4 : Int32) (μ : Mm) : Option (Int32 × Mm) :=
  (F_X2_addRow (t + 16) μ).bind fun o2 =>
  (F_X2_put (t + 16) o2.1 (0 : Int32) p1 o2.2).bind fun o6 =>
  (F_X2_put (t + 16) o2.1 (1 : Int32) p2 o6).bind fun o9 =>
  (F_X2_put (t + 16) o2.1 (2 : Int32) p3 o9).bind fun o12 =>
  (F_X2_put (t + 16) o2.1 (3 : Int32) p4 o12).bind fun o15 =>
  some (o2.1, o15)
set_option maxHeartbeats 4000000 in
set_option maxRecDepth 100000 in
theorem c_X1_addClaim {l : Launch} {E : Ev} (hN : 295 ≤ eN E) {t : Nat} (k_t : kd t = 1) {p1 : Int32} {p2 : Int32} {p3 : Int32} {p4 : Int32} {μ : Mm} {r : Int32} {μ' : Mm} (z0 : F_X1_addClaim t p1 p2 p3 p4 μ = some (r, μ')) : Ct l E yX1_addClaim (Cond.code yX1_addClaim cX1_addClaim 6 (some .int) :: GW) rm_X1_addClaim [.ref (eB E + t), .int p1, .int p2, .int p3, .int p4] μ (some (.int r)) μ' := by
  refine ct_of (by decide) (Nat.le_of_ble_eq_true rfl) (fun p e s m args below meth c C hr => ?_)
  have C : Cq E p s m args meth c cX1_addClaim 6 RX1 := C
  refine gq_lv (lv' := [(0, .ref (eB E + t)), (1, .int p1), (2, .int p2), (3, .int p3), (4, .int p4)]) rfl ?_
  unfold F_X1_addClaim at z0
  refine gq_aload_n C dX1_addClaim_0 rfl 0 rfl ?_
  refine gq_get1 C (st_n k_t hN 0 (by decide)) k_t 11 (by decide) wk_2_175 rfl dX1_addClaim_1 ?_
  obtain ⟨⟨x3, m4⟩, eo2, z1⟩ := bind_ex z0
  dsimp only at z1
  refine gq_V (As := []) (rest := []) C (c_X2_addRow hN (st_kd k_t 16 (by decide)) eo2) (st_n k_t hN 16 (by decide)) (st_kd k_t 16 (by decide)) (by decide) rfl wk_2_6 wk_2_7 wk_2_8 wk_1_5 wk_2_9 hd_X2_addRow ⟨(Nat.le_of_ble_eq_true rfl), (Nat.le_of_ble_eq_true rfl)⟩ (Nat.le_of_ble_eq_true rfl) ⟨(Nat.le_of_ble_eq_true rfl), (Nat.le_of_ble_eq_true rfl)⟩ dX1_addClaim_4 rfl rfl ?_
  refine gq_istore (lv' := [(5, .int x3), (0, .ref (eB E + t)), (1, .int p1), (2, .int p2), (3, .int p3), (4, .int p4)]) C dX1_addClaim_7 (by decide) rfl ?_
  refine gq_aload_n C dX1_addClaim_9 rfl 1 rfl ?_
  refine gq_get1 C (st_n k_t hN 0 (by decide)) k_t 11 (by decide) wk_2_175 rfl dX1_addClaim_10 ?_
  refine gq_iload C dX1_addClaim_13 0 rfl ?_
  refine gq_iconst (v := 0) C dX1_addClaim_15 (by decide) ?_
  refine gq_iload_n C dX1_addClaim_16 rfl 2 rfl ?_
  obtain ⟨m7, eo6, z5⟩ := bind_ex z1
  refine gq_V (As := [.int x3, .int (0 : Int32), .int p1]) (rest := []) C (c_X2_put hN (st_kd k_t 16 (by decide)) eo6) (st_n k_t hN 16 (by decide)) (st_kd k_t 16 (by decide)) (by decide) rfl wk_2_10 wk_2_11 wk_2_12 wk_1_5 wk_2_13 hd_X2_put ⟨(Nat.le_of_ble_eq_true rfl), (Nat.le_of_ble_eq_true rfl)⟩ (Nat.le_of_ble_eq_true rfl) ⟨(Nat.le_of_ble_eq_true rfl), (Nat.le_of_ble_eq_true rfl)⟩ dX1_addClaim_17 rfl rfl ?_
  refine gq_aload_n C dX1_addClaim_20 rfl 1 rfl ?_
  refine gq_get1 C (st_n k_t hN 0 (by decide)) k_t 11 (by decide) wk_2_175 rfl dX1_addClaim_21 ?_
  refine gq_iload C dX1_addClaim_24 0 rfl ?_
  refine gq_iconst (v := 1) C dX1_addClaim_26 (by decide) ?_
  refine gq_iload_n C dX1_addClaim_27 rfl 3 rfl ?_
  obtain ⟨m10, eo9, z8⟩ := bind_ex z5
  refine gq_V (As := [.int x3, .int (1 : Int32), .int p2]) (rest := []) C (c_X2_put hN (st_kd k_t 16 (by decide)) eo9) (st_n k_t hN 16 (by decide)) (st_kd k_t 16 (by decide)) (by decide) rfl wk_2_10 wk_2_11 wk_2_12 wk_1_5 wk_2_13 hd_X2_put ⟨(Nat.le_of_ble_eq_true rfl), (Nat.le_of_ble_eq_true rfl)⟩ (Nat.le_of_ble_eq_true rfl) ⟨(Nat.le_of_ble_eq_true rfl), (Nat.le_of_ble_eq_true rfl)⟩ dX1_addClaim_28 rfl rfl ?_
  refine gq_aload_n C dX1_addClaim_31 rfl 1 rfl ?_
  refine gq_get1 C (st_n k_t hN 0 (by decide)) k_t 11 (by decide) wk_2_175 rfl dX1_addClaim_32 ?_
  refine gq_iload C dX1_addClaim_35 0 rfl ?_
  refine gq_iconst (v := 2) C dX1_addClaim_37 (by decide) ?_
  refine gq_iload_n C dX1_addClaim_38 rfl 4 rfl ?_
  obtain ⟨m13, eo12, z11⟩ := bind_ex z8
  refine gq_V (As := [.int x3, .int (2 : Int32), .int p3]) (rest := []) C (c_X2_put hN (st_kd k_t 16 (by decide)) eo12) (st_n k_t hN 16 (by decide)) (st_kd k_t 16 (by decide)) (by decide) rfl wk_2_10 wk_2_11 wk_2_12 wk_1_5 wk_2_13 hd_X2_put ⟨(Nat.le_of_ble_eq_true rfl), (Nat.le_of_ble_eq_true rfl)⟩ (Nat.le_of_ble_eq_true rfl) ⟨(Nat.le_of_ble_eq_true rfl), (Nat.le_of_ble_eq_true rfl)⟩ dX1_addClaim_39 rfl rfl ?_
  refine gq_aload_n C dX1_addClaim_42 rfl 1 rfl ?_
  refine gq_get1 C (st_n k_t hN 0 (by decide)) k_t 11 (by decide) wk_2_175 rfl dX1_addClaim_43 ?_
  refine gq_iload C dX1_addClaim_46 0 rfl ?_
  refine gq_iconst (v := 3) C dX1_addClaim_48 (by decide) ?_
  refine gq_iload C dX1_addClaim_49 5 rfl ?_
  obtain ⟨m16, eo15, z14⟩ := bind_ex z11
  refine gq_V (As := [.int x3, .int (3 : Int32), .int p4]) (rest := []) C (c_X2_put hN (st_kd k_t 16 (by decide)) eo15) (st_n k_t hN 16 (by decide)) (st_kd k_t 16 (by decide)) (by decide) rfl wk_2_10 wk_2_11 wk_2_12 wk_1_5 wk_2_13 hd_X2_put ⟨(Nat.le_of_ble_eq_true rfl), (Nat.le_of_ble_eq_true rfl)⟩ (Nat.le_of_ble_eq_true rfl) ⟨(Nat.le_of_ble_eq_true rfl), (Nat.le_of_ble_eq_true rfl)⟩ dX1_addClaim_51 rfl rfl ?_
  refine gq_iload C dX1_addClaim_54 0 rfl ?_
  cases z14
  exact gq_iret C hr dX1_addClaim_56 (Nat.le_of_ble_eq_true rfl) (Nat.le_of_ble_eq_true rfl)
abbrev rm_X1_divert : Room := { frames := 2, cells := 0, slots := 0, locals := 45 }
def F_X1_divert (t : Nat) (p1 : Int32) (p2 : Int32) (p3 : Int32) (μ : Mm) : Option Mm :=
  (F_X2_get (t + 16) p1 (3 : Int32) μ).bind fun o2 =>
  (F_X2_put (t + 16) p1 (4 : Int32) p2 μ).bind fun o5 =>
  (F_X2_put (t + 16) p1 (5 : Int32) p3 o5).bind fun o8 =>
  (F_X2_increase (t + 18) o2 (3 : Int32) p3 o8).bind fun o11 =>
  (F_X2_increaseFrom (t + 18) o2 (2 : Int32) (-p3) o11).bind fun o14 =>
  (F_X2_get (t + 16) p1 (1 : Int32) o14).bind fun o17 =>
  (F_X2_increase (t + 8) o17 (7 : Int32) p3 o14).bind fun o20 =>
  (F_X2_get (t + 16) p1 (2 : Int32) o20).bind fun o23 =>
  (F_X2_increase (t + 5) o23 (1 : Int32) p3 o20).bind fun o26 =>
  some o26
set_option maxHeartbeats 4000000 in
set_option maxRecDepth 100000 in
theorem c_X1_divert {l : Launch} {E : Ev} (hN : 295 ≤ eN E) {t : Nat} (k_t : kd t = 1) {p1 : Int32} {p2 : Int32} {p3 : Int32} {μ : Mm} {μ' : Mm} (z0 : F_X1_divert t p1 p2 p3 μ = some μ') : Ct l E yX1_divert (Cond.code yX1_divert cX1_divert 5 none :: GW) rm_X1_divert [.ref (eB E + t), .int p1, .int p2, .int p3] μ none μ' := by
  refine ct_of (by decide) (Nat.le_of_ble_eq_true rfl) (fun p e s m args below meth c C hr => ?_)
  have C : Cq E p s m args meth c cX1_divert 5 RX1 := C
  refine gq_lv (lv' := [(0, .ref (eB E + t)), (1, .int p1), (2, .int p2), (3, .int p3)]) rfl ?_
  unfold F_X1_divert at z0
  refine gq_aload_n C dX1_divert_0 rfl 0 rfl ?_
  refine gq_get1 C (st_n k_t hN 0 (by decide)) k_t 11 (by decide) wk_2_175 rfl dX1_divert_1 ?_
  refine gq_iload_n C dX1_divert_4 rfl 1 rfl ?_
  refine gq_iconst (v := 3) C dX1_divert_5 (by decide) ?_
  obtain ⟨x3, eo2, z1⟩ := bind_ex z0
  refine gq_V (As := [.int p1, .int (3 : Int32)]) (rest := []) C (c_X2_get hN (st_kd k_t 16 (by decide)) eo2) (st_n k_t hN 16 (by decide)) (st_kd k_t 16 (by decide)) (by decide) rfl wk_1_132 wk_1_133 wk_1_134 wk_1_5 wk_1_135 hd_X2_get ⟨(Nat.le_of_ble_eq_true rfl), (Nat.le_of_ble_eq_true rfl)⟩ (Nat.le_of_ble_eq_true rfl) ⟨(Nat.le_of_ble_eq_true rfl), (Nat.le_of_ble_eq_true rfl)⟩ dX1_divert_6 rfl rfl ?_
  refine gq_istore (lv' := [(4, .int x3), (0, .ref (eB E + t)), (1, .int p1), (2, .int p2), (3, .int p3)]) C dX1_divert_9 (by decide) rfl ?_
  refine gq_aload_n C dX1_divert_11 rfl 1 rfl ?_
  refine gq_get1 C (st_n k_t hN 0 (by decide)) k_t 11 (by decide) wk_2_175 rfl dX1_divert_12 ?_
  refine gq_iload_n C dX1_divert_15 rfl 2 rfl ?_
  refine gq_iconst (v := 4) C dX1_divert_16 (by decide) ?_
  refine gq_iload_n C dX1_divert_17 rfl 3 rfl ?_
  obtain ⟨m6, eo5, z4⟩ := bind_ex z1
  refine gq_V (As := [.int p1, .int (4 : Int32), .int p2]) (rest := []) C (c_X2_put hN (st_kd k_t 16 (by decide)) eo5) (st_n k_t hN 16 (by decide)) (st_kd k_t 16 (by decide)) (by decide) rfl wk_2_10 wk_2_11 wk_2_12 wk_1_5 wk_2_13 hd_X2_put ⟨(Nat.le_of_ble_eq_true rfl), (Nat.le_of_ble_eq_true rfl)⟩ (Nat.le_of_ble_eq_true rfl) ⟨(Nat.le_of_ble_eq_true rfl), (Nat.le_of_ble_eq_true rfl)⟩ dX1_divert_18 rfl rfl ?_
  refine gq_aload_n C dX1_divert_21 rfl 1 rfl ?_
  refine gq_get1 C (st_n k_t hN 0 (by decide)) k_t 11 (by decide) wk_2_175 rfl dX1_divert_22 ?_
  refine gq_iload_n C dX1_divert_25 rfl 2 rfl ?_
  refine gq_iconst (v := 5) C dX1_divert_26 (by decide) ?_
  refine gq_iload_n C dX1_divert_27 rfl 4 rfl ?_
  obtain ⟨m9, eo8, z7⟩ := bind_ex z4
  refine gq_V (As := [.int p1, .int (5 : Int32), .int p3]) (rest := []) C (c_X2_put hN (st_kd k_t 16 (by decide)) eo8) (st_n k_t hN 16 (by decide)) (st_kd k_t 16 (by decide)) (by decide) rfl wk_2_10 wk_2_11 wk_2_12 wk_1_5 wk_2_13 hd_X2_put ⟨(Nat.le_of_ble_eq_true rfl), (Nat.le_of_ble_eq_true rfl)⟩ (Nat.le_of_ble_eq_true rfl) ⟨(Nat.le_of_ble_eq_true rfl), (Nat.le_of_ble_eq_true rfl)⟩ dX1_divert_28 rfl rfl ?_
  refine gq_aload_n C dX1_divert_31 rfl 1 rfl ?_
  refine gq_get1 C (st_n k_t hN 0 (by decide)) k_t 12 (by decide) wk_2_177 rfl dX1_divert_32 ?_
  refine gq_iload C dX1_divert_35 0 rfl ?_
  refine gq_iconst (v := 3) C dX1_divert_37 (by decide) ?_
  refine gq_iload_n C dX1_divert_38 rfl 4 rfl ?_
  obtain ⟨m12, eo11, z10⟩ := bind_ex z7
  refine gq_V (As := [.int x3, .int (3 : Int32), .int p3]) (rest := []) C (c_X2_increase hN (st_kd k_t 18 (by decide)) eo11) (st_n k_t hN 18 (by decide)) (st_kd k_t 18 (by decide)) (by decide) rfl wk_2_57 wk_2_58 wk_2_59 wk_1_5 wk_2_60 hd_X2_increase ⟨(Nat.le_of_ble_eq_true rfl), (Nat.le_of_ble_eq_true rfl)⟩ (Nat.le_of_ble_eq_true rfl) ⟨(Nat.le_of_ble_eq_true rfl), (Nat.le_of_ble_eq_true rfl)⟩ dX1_divert_39 rfl rfl ?_
  refine gq_aload_n C dX1_divert_42 rfl 1 rfl ?_
  refine gq_get1 C (st_n k_t hN 0 (by decide)) k_t 12 (by decide) wk_2_177 rfl dX1_divert_43 ?_
  refine gq_iload C dX1_divert_46 0 rfl ?_
  refine gq_iconst (v := 2) C dX1_divert_48 (by decide) ?_
  refine gq_iload_n C dX1_divert_49 rfl 4 rfl ?_
  refine gq_ineg C dX1_divert_50 ?_
  obtain ⟨m15, eo14, z13⟩ := bind_ex z10
  refine gq_V (As := [.int x3, .int (2 : Int32), .int (-p3)]) (rest := []) C (c_X2_increaseFrom hN (st_kd k_t 18 (by decide)) eo14) (st_n k_t hN 18 (by decide)) (st_kd k_t 18 (by decide)) (by decide) rfl wk_2_61 wk_2_62 wk_2_63 wk_1_5 wk_2_64 hd_X2_increaseFrom ⟨(Nat.le_of_ble_eq_true rfl), (Nat.le_of_ble_eq_true rfl)⟩ (Nat.le_of_ble_eq_true rfl) ⟨(Nat.le_of_ble_eq_true rfl), (Nat.le_of_ble_eq_true rfl)⟩ dX1_divert_51 rfl rfl ?_
  refine gq_aload_n C dX1_divert_54 rfl 1 rfl ?_
  refine gq_get1 C (st_n k_t hN 0 (by decide)) k_t 6 (by decide) wk_2_164 rfl dX1_divert_55 ?_
  refine gq_aload_n C dX1_divert_58 rfl 1 rfl ?_
  refine gq_get1 C (st_n k_t hN 0 (by decide)) k_t 11 (by decide) wk_2_175 rfl dX1_divert_59 ?_
  refine gq_iload_n C dX1_divert_62 rfl 2 rfl ?_
  refine gq_iconst (v := 1) C dX1_divert_63 (by decide) ?_
  obtain ⟨x18, eo17, z16⟩ := bind_ex z13
  refine gq_V (As := [.int p1, .int (1 : Int32)]) (rest := [.ref (eB E + (t + 8))]) C (c_X2_get hN (st_kd k_t 16 (by decide)) eo17) (st_n k_t hN 16 (by decide)) (st_kd k_t 16 (by decide)) (by decide) rfl wk_1_132 wk_1_133 wk_1_134 wk_1_5 wk_1_135 hd_X2_get ⟨(Nat.le_of_ble_eq_true rfl), (Nat.le_of_ble_eq_true rfl)⟩ (Nat.le_of_ble_eq_true rfl) ⟨(Nat.le_of_ble_eq_true rfl), (Nat.le_of_ble_eq_true rfl)⟩ dX1_divert_64 rfl rfl ?_
  refine gq_bipush (v := 7) C dX1_divert_67 (by decide) ?_
  refine gq_iload_n C dX1_divert_69 rfl 4 rfl ?_
  obtain ⟨m21, eo20, z19⟩ := bind_ex z16
  refine gq_V (As := [.int x18, .int (7 : Int32), .int p3]) (rest := []) C (c_X2_increase hN (st_kd k_t 8 (by decide)) eo20) (st_n k_t hN 8 (by decide)) (st_kd k_t 8 (by decide)) (by decide) rfl wk_2_57 wk_2_58 wk_2_59 wk_1_5 wk_2_60 hd_X2_increase ⟨(Nat.le_of_ble_eq_true rfl), (Nat.le_of_ble_eq_true rfl)⟩ (Nat.le_of_ble_eq_true rfl) ⟨(Nat.le_of_ble_eq_true rfl), (Nat.le_of_ble_eq_true rfl)⟩ dX1_divert_70 rfl rfl ?_
  refine gq_aload_n C dX1_divert_73 rfl 1 rfl ?_
  refine gq_get1 C (st_n k_t hN 0 (by decide)) k_t 4 (by decide) wk_2_160 rfl dX1_divert_74 ?_
  refine gq_aload_n C dX1_divert_77 rfl 1 rfl ?_
  refine gq_get1 C (st_n k_t hN 0 (by decide)) k_t 11 (by decide) wk_2_175 rfl dX1_divert_78 ?_
  refine gq_iload_n C dX1_divert_81 rfl 2 rfl ?_
  refine gq_iconst (v := 2) C dX1_divert_82 (by decide) ?_
  obtain ⟨x24, eo23, z22⟩ := bind_ex z19
  refine gq_V (As := [.int p1, .int (2 : Int32)]) (rest := [.ref (eB E + (t + 5))]) C (c_X2_get hN (st_kd k_t 16 (by decide)) eo23) (st_n k_t hN 16 (by decide)) (st_kd k_t 16 (by decide)) (by decide) rfl wk_1_132 wk_1_133 wk_1_134 wk_1_5 wk_1_135 hd_X2_get ⟨(Nat.le_of_ble_eq_true rfl), (Nat.le_of_ble_eq_true rfl)⟩ (Nat.le_of_ble_eq_true rfl) ⟨(Nat.le_of_ble_eq_true rfl), (Nat.le_of_ble_eq_true rfl)⟩ dX1_divert_83 rfl rfl ?_
  refine gq_iconst (v := 1) C dX1_divert_86 (by decide) ?_
  refine gq_iload_n C dX1_divert_87 rfl 4 rfl ?_
  obtain ⟨m27, eo26, z25⟩ := bind_ex z22
  refine gq_V (As := [.int x24, .int (1 : Int32), .int p3]) (rest := []) C (c_X2_increase hN (st_kd k_t 5 (by decide)) eo26) (st_n k_t hN 5 (by decide)) (st_kd k_t 5 (by decide)) (by decide) rfl wk_2_57 wk_2_58 wk_2_59 wk_1_5 wk_2_60 hd_X2_increase ⟨(Nat.le_of_ble_eq_true rfl), (Nat.le_of_ble_eq_true rfl)⟩ (Nat.le_of_ble_eq_true rfl) ⟨(Nat.le_of_ble_eq_true rfl), (Nat.le_of_ble_eq_true rfl)⟩ dX1_divert_88 rfl rfl ?_
  cases z25
  exact gq_vret C hr dX1_divert_91 (Nat.le_of_ble_eq_true rfl) (Nat.le_of_ble_eq_true rfl)
abbrev rm_X1_claimOfOther : Room := { frames := 3, cells := 0, slots := 0, locals := 69 }
def F_X1_claimOfOther (t : Nat) (p1 : Int32) (q2 : Nat) (p3 : Int32) (p4 : Int32) (p5 : Int32) (μ : Mm) : Option Mm :=
  (F_X2_get q2 p3 (0 : Int32) μ).bind fun o2 =>
  (F_X2_get q2 p3 (1 : Int32) μ).bind fun o5 =>
  (F_X2_get q2 p3 (2 : Int32) μ).bind fun o8 =>
  (F_X2_get (t + 8) o2 (4 : Int32) μ).bind fun o11 =>
  (F_X1_percentOf p4 ((100 : Int32) - o11) μ).bind fun o14 =>
  (F_X1_leastSpare t o8 (μ.1 (t + 18) 2) o14 μ).bind fun o17 =>
  (F_X1_addClaim t p1 o2 o5 o8 μ).bind fun o20 =>
  (F_X1_divert t o20.1 o14 o17 o20.2).bind fun o24 =>
  (F_X2_get (t + 8) o2 (0 : Int32) o24).bind fun o27 =>
  (F_X1_pay t o5 o27 (o17 * p5) o24).bind fun o30 =>
  if o2 < 0 then
  (some o30)
  else
  (if (10 : Int32) ≤ o2 then
  (some o30)
  else
  ((aL o30 (t + 11) o2).bind fun x36 =>
  (sL o30 (t + 11) o2 (x36 + (Int32.toInt64 (o17 * p5)))).bind fun m38 =>
  some m38))
set_option maxHeartbeats 4000000 in
set_option maxRecDepth 100000 in
theorem c_X1_claimOfOther {l : Launch} {E : Ev} (hN : 295 ≤ eN E) {t : Nat} (k_t : kd t = 1) {p1 : Int32} {q2 : Nat} (k_q2 : kd q2 = 2) {p3 : Int32} {p4 : Int32} {p5 : Int32} {μ : Mm} {μ' : Mm} (z0 : F_X1_claimOfOther t p1 q2 p3 p4 p5 μ = some μ') : Ct l E yX1_claimOfOther (Cond.code yX1_claimOfOther cX1_claimOfOther 12 none :: GW) rm_X1_claimOfOther [.ref (eB E + t), .int p1, .ref (eB E + q2), .int p3, .int p4, .int p5] μ none μ' := by
  refine ct_of (by decide) (Nat.le_of_ble_eq_true rfl) (fun p e s m args below meth c C hr => ?_)
  have C : Cq E p s m args meth c cX1_claimOfOther 12 RX1 := C
  refine gq_lv (lv' := [(0, .ref (eB E + t)), (1, .int p1), (2, .ref (eB E + q2)), (3, .int p3), (4, .int p4), (5, .int p5)]) rfl ?_
  unfold F_X1_claimOfOther at z0
  refine gq_aload_n C dX1_claimOfOther_0 rfl 2 rfl ?_
  refine gq_iload_n C dX1_claimOfOther_1 rfl 3 rfl ?_
  refine gq_iconst (v := 0) C dX1_claimOfOther_2 (by decide) ?_
  obtain ⟨x3, eo2, z1⟩ := bind_ex z0
  refine gq_V (As := [.int p3, .int (0 : Int32)]) (rest := []) C (c_X2_get hN k_q2 eo2) (tb_n0 k_q2 hN) k_q2 (by decide) rfl wk_1_132 wk_1_133 wk_1_134 wk_1_5 wk_1_135 hd_X2_get ⟨(Nat.le_of_ble_eq_true rfl), (Nat.le_of_ble_eq_true rfl)⟩ (Nat.le_of_ble_eq_true rfl) ⟨(Nat.le_of_ble_eq_true rfl), (Nat.le_of_ble_eq_true rfl)⟩ dX1_claimOfOther_3 rfl rfl ?_
  refine gq_istore (lv' := [(6, .int x3), (0, .ref (eB E + t)), (1, .int p1), (2, .ref (eB E + q2)), (3, .int p3), (4, .int p4), (5, .int p5)]) C dX1_claimOfOther_6 (by decide) rfl ?_
  refine gq_aload_n C dX1_claimOfOther_8 rfl 3 rfl ?_
  refine gq_iload_n C dX1_claimOfOther_9 rfl 4 rfl ?_
  refine gq_iconst (v := 1) C dX1_claimOfOther_10 (by decide) ?_
  obtain ⟨x6, eo5, z4⟩ := bind_ex z1
  refine gq_V (As := [.int p3, .int (1 : Int32)]) (rest := []) C (c_X2_get hN k_q2 eo5) (tb_n0 k_q2 hN) k_q2 (by decide) rfl wk_1_132 wk_1_133 wk_1_134 wk_1_5 wk_1_135 hd_X2_get ⟨(Nat.le_of_ble_eq_true rfl), (Nat.le_of_ble_eq_true rfl)⟩ (Nat.le_of_ble_eq_true rfl) ⟨(Nat.le_of_ble_eq_true rfl), (Nat.le_of_ble_eq_true rfl)⟩ dX1_claimOfOther_11 rfl rfl ?_
  refine gq_istore (lv' := [(7, .int x6), (6, .int x3), (0, .ref (eB E + t)), (1, .int p1), (2, .ref (eB E + q2)), (3, .int p3), (4, .int p4), (5, .int p5)]) C dX1_claimOfOther_14 (by decide) rfl ?_
  refine gq_aload_n C dX1_claimOfOther_16 rfl 4 rfl ?_
  refine gq_iload_n C dX1_claimOfOther_17 rfl 5 rfl ?_
  refine gq_iconst (v := 2) C dX1_claimOfOther_18 (by decide) ?_
  obtain ⟨x9, eo8, z7⟩ := bind_ex z4
  refine gq_V (As := [.int p3, .int (2 : Int32)]) (rest := []) C (c_X2_get hN k_q2 eo8) (tb_n0 k_q2 hN) k_q2 (by decide) rfl wk_1_132 wk_1_133 wk_1_134 wk_1_5 wk_1_135 hd_X2_get ⟨(Nat.le_of_ble_eq_true rfl), (Nat.le_of_ble_eq_true rfl)⟩ (Nat.le_of_ble_eq_true rfl) ⟨(Nat.le_of_ble_eq_true rfl), (Nat.le_of_ble_eq_true rfl)⟩ dX1_claimOfOther_19 rfl rfl ?_
  refine gq_istore (lv' := [(8, .int x9), (7, .int x6), (6, .int x3), (0, .ref (eB E + t)), (1, .int p1), (2, .ref (eB E + q2)), (3, .int p3), (4, .int p4), (5, .int p5)]) C dX1_claimOfOther_22 (by decide) rfl ?_
  refine gq_iload C dX1_claimOfOther_24 7 rfl ?_
  refine gq_bipush (v := 100) C dX1_claimOfOther_26 (by decide) ?_
  refine gq_aload_n C dX1_claimOfOther_28 rfl 3 rfl ?_
  refine gq_get1 C (st_n k_t hN 0 (by decide)) k_t 6 (by decide) wk_2_164 rfl dX1_claimOfOther_29 ?_
  refine gq_iload C dX1_claimOfOther_32 2 rfl ?_
  refine gq_iconst (v := 4) C dX1_claimOfOther_34 (by decide) ?_
  obtain ⟨x12, eo11, z10⟩ := bind_ex z7
  refine gq_V (As := [.int x3, .int (4 : Int32)]) (rest := [.int (100 : Int32), .int p4]) C (c_X2_get hN (st_kd k_t 8 (by decide)) eo11) (st_n k_t hN 8 (by decide)) (st_kd k_t 8 (by decide)) (by decide) rfl wk_1_132 wk_1_133 wk_1_134 wk_1_5 wk_1_135 hd_X2_get ⟨(Nat.le_of_ble_eq_true rfl), (Nat.le_of_ble_eq_true rfl)⟩ (Nat.le_of_ble_eq_true rfl) ⟨(Nat.le_of_ble_eq_true rfl), (Nat.le_of_ble_eq_true rfl)⟩ dX1_claimOfOther_35 rfl rfl ?_
  refine gq_isub C dX1_claimOfOther_38 ?_
  obtain ⟨x15, eo14, z13⟩ := bind_ex z10
  refine gq_S (As := [.int p4, .int ((100 : Int32) - x12)]) (rest := []) C (c_X1_percentOf hN  eo14) wk_2_39 wk_2_40 wk_1_4 wk_2_41 hd_X1_percentOf ⟨(Nat.le_of_ble_eq_true rfl), (Nat.le_of_ble_eq_true rfl)⟩ (Nat.le_of_ble_eq_true rfl) ⟨(Nat.le_of_ble_eq_true rfl), (Nat.le_of_ble_eq_true rfl)⟩ dX1_claimOfOther_39 rfl rfl ?_
  refine gq_istore (lv' := [(9, .int x15), (8, .int x9), (7, .int x6), (6, .int x3), (0, .ref (eB E + t)), (1, .int p1), (2, .ref (eB E + q2)), (3, .int p3), (4, .int p4), (5, .int p5)]) C dX1_claimOfOther_42 (by decide) rfl ?_
  refine gq_aload_n C dX1_claimOfOther_44 rfl 4 rfl ?_
  refine gq_iload C dX1_claimOfOther_45 1 rfl ?_
  refine gq_aload_n C dX1_claimOfOther_47 rfl 4 rfl ?_
  refine gq_get1 C (st_n k_t hN 0 (by decide)) k_t 12 (by decide) wk_2_177 rfl dX1_claimOfOther_48 ?_
  refine gq_get2N C (st_n k_t hN 18 (by decide)) (st_kd k_t 18 (by decide)) 2 (by decide) wk_2_141 rfl dX1_claimOfOther_51 ?_
  refine gq_iload C dX1_claimOfOther_54 0 rfl ?_
  obtain ⟨x18, eo17, z16⟩ := bind_ex z13
  refine gq_V (As := [.int x9, .int (μ.1 (t + 18) 2), .int x15]) (rest := []) C (c_X1_leastSpare hN k_t eo17) (st_n k_t hN 0 (by decide)) k_t (by decide) rfl wk_2_42 wk_2_43 wk_2_44 wk_1_4 wk_2_45 hd_X1_leastSpare ⟨(Nat.le_of_ble_eq_true rfl), (Nat.le_of_ble_eq_true rfl)⟩ (Nat.le_of_ble_eq_true rfl) ⟨(Nat.le_of_ble_eq_true rfl), (Nat.le_of_ble_eq_true rfl)⟩ dX1_claimOfOther_56 rfl rfl ?_
  refine gq_istore (lv' := [(10, .int x18), (9, .int x15), (8, .int x9), (7, .int x6), (6, .int x3), (0, .ref (eB E + t)), (1, .int p1), (2, .ref (eB E + q2)), (3, .int p3), (4, .int p4), (5, .int p5)]) C dX1_claimOfOther_59 (by decide) rfl ?_
  refine gq_aload_n C dX1_claimOfOther_61 rfl 5 rfl ?_
  refine gq_aload_n C dX1_claimOfOther_62 rfl 5 rfl ?_
  refine gq_iload_n C dX1_claimOfOther_63 rfl 6 rfl ?_
  refine gq_iload C dX1_claimOfOther_64 4 rfl ?_
  refine gq_iload C dX1_claimOfOther_66 3 rfl ?_
  refine gq_iload C dX1_claimOfOther_68 2 rfl ?_
  obtain ⟨⟨x21, m22⟩, eo20, z19⟩ := bind_ex z16
  dsimp only at z19
  refine gq_V (As := [.int p1, .int x3, .int x6, .int x9]) (rest := [.ref (eB E + t)]) C (c_X1_addClaim hN k_t eo20) (st_n k_t hN 0 (by decide)) k_t (by decide) rfl wk_2_49 wk_2_51 ws_X1_addClaim wk_1_4 wk_2_52 hd_X1_addClaim ⟨(Nat.le_of_ble_eq_true rfl), (Nat.le_of_ble_eq_true rfl)⟩ (Nat.le_of_ble_eq_true rfl) ⟨(Nat.le_of_ble_eq_true rfl), (Nat.le_of_ble_eq_true rfl)⟩ dX1_claimOfOther_70 rfl rfl ?_
  refine gq_iload C dX1_claimOfOther_73 1 rfl ?_
  refine gq_iload C dX1_claimOfOther_75 0 rfl ?_
  obtain ⟨m25, eo24, z23⟩ := bind_ex z19
  refine gq_V (As := [.int x21, .int x15, .int x18]) (rest := []) C (c_X1_divert hN k_t eo24) (st_n k_t hN 0 (by decide)) k_t (by decide) rfl wk_2_53 wk_2_55 ws_X1_divert wk_1_4 wk_2_56 hd_X1_divert ⟨(Nat.le_of_ble_eq_true rfl), (Nat.le_of_ble_eq_true rfl)⟩ (Nat.le_of_ble_eq_true rfl) ⟨(Nat.le_of_ble_eq_true rfl), (Nat.le_of_ble_eq_true rfl)⟩ dX1_claimOfOther_77 rfl rfl ?_
  refine gq_iload C dX1_claimOfOther_80 0 rfl ?_
  refine gq_iload C dX1_claimOfOther_82 10 rfl ?_
  refine gq_imul C dX1_claimOfOther_84 ?_
  refine gq_istore (lv' := [(11, .int (x18 * p5)), (10, .int x18), (9, .int x15), (8, .int x9), (7, .int x6), (6, .int x3), (0, .ref (eB E + t)), (1, .int p1), (2, .ref (eB E + q2)), (3, .int p3), (4, .int p4), (5, .int p5)]) C dX1_claimOfOther_85 (by decide) rfl ?_
  refine gq_aload_n C dX1_claimOfOther_87 rfl 6 rfl ?_
  refine gq_iload C dX1_claimOfOther_88 4 rfl ?_
  refine gq_aload_n C dX1_claimOfOther_90 rfl 6 rfl ?_
  refine gq_get1 C (st_n k_t hN 0 (by decide)) k_t 6 (by decide) wk_2_164 rfl dX1_claimOfOther_91 ?_
  refine gq_iload C dX1_claimOfOther_94 5 rfl ?_
  refine gq_iconst (v := 0) C dX1_claimOfOther_96 (by decide) ?_
  obtain ⟨x28, eo27, z26⟩ := bind_ex z23
  refine gq_V (As := [.int x3, .int (0 : Int32)]) (rest := [.int x6, .ref (eB E + t)]) C (c_X2_get hN (st_kd k_t 8 (by decide)) eo27) (st_n k_t hN 8 (by decide)) (st_kd k_t 8 (by decide)) (by decide) rfl wk_1_132 wk_1_133 wk_1_134 wk_1_5 wk_1_135 hd_X2_get ⟨(Nat.le_of_ble_eq_true rfl), (Nat.le_of_ble_eq_true rfl)⟩ (Nat.le_of_ble_eq_true rfl) ⟨(Nat.le_of_ble_eq_true rfl), (Nat.le_of_ble_eq_true rfl)⟩ dX1_claimOfOther_97 rfl rfl ?_
  refine gq_iload C dX1_claimOfOther_100 0 rfl ?_
  obtain ⟨m31, eo30, z29⟩ := bind_ex z26
  refine gq_V (As := [.int x6, .int x28, .int (x18 * p5)]) (rest := []) C (c_X1_pay hN k_t eo30) (st_n k_t hN 0 (by decide)) k_t (by decide) rfl wk_2_19 wk_2_20 wk_2_21 wk_1_4 wk_2_22 hd_X1_pay ⟨(Nat.le_of_ble_eq_true rfl), (Nat.le_of_ble_eq_true rfl)⟩ (Nat.le_of_ble_eq_true rfl) ⟨(Nat.le_of_ble_eq_true rfl), (Nat.le_of_ble_eq_true rfl)⟩ dX1_claimOfOther_102 rfl rfl ?_
  refine gq_iload C dX1_claimOfOther_105 5 rfl ?_
  rcases ite_ex z29 with ⟨c32, z33⟩ | ⟨c32, z33⟩
  · refine gq_if_lt_t (tgt := 130) C dX1_claimOfOther_107 (by decide) c32 ?_
    cases z33
    exact gq_vret C hr dX1_claimOfOther_130 (Nat.le_of_ble_eq_true rfl) (Nat.le_of_ble_eq_true rfl)
  · refine gq_if_lt_f (tgt := 130) C dX1_claimOfOther_107 (by decide) c32 ?_
    refine gq_iload C dX1_claimOfOther_110 5 rfl ?_
    refine gq_bipush (v := 10) C dX1_claimOfOther_112 (by decide) ?_
    rcases ite_ex z33 with ⟨c34, z35⟩ | ⟨c34, z35⟩
    · refine gq_icmp_ge_t (tgt := 130) C dX1_claimOfOther_114 (by decide) c34 ?_
      cases z35
      exact gq_vret C hr dX1_claimOfOther_130 (Nat.le_of_ble_eq_true rfl) (Nat.le_of_ble_eq_true rfl)
    · refine gq_icmp_ge_f (tgt := 130) C dX1_claimOfOther_114 (by decide) c34 ?_
      refine gq_aload_n C dX1_claimOfOther_117 rfl 6 rfl ?_
      refine gq_get1 C (st_n k_t hN 0 (by decide)) k_t 8 (by decide) wk_2_168 rfl dX1_claimOfOther_118 ?_
      refine gq_iload C dX1_claimOfOther_121 5 rfl ?_
      refine gq_dup2 C dX1_claimOfOther_123 ?_
      obtain ⟨x36, ex36, z37⟩ := bind_ex z35
      refine gq_laloadL C (st_n k_t hN 11 (by decide)) (st_kd k_t 11 (by decide)) ex36 dX1_claimOfOther_124 ?_
      refine gq_iload C dX1_claimOfOther_125 0 rfl ?_
      refine gq_i2l C dX1_claimOfOther_127 ?_
      refine gq_ladd C dX1_claimOfOther_128 ?_
      obtain ⟨m38, em38, z39⟩ := bind_ex z37
      refine gq_lastore C (st_n k_t hN 11 (by decide)) (st_kd k_t 11 (by decide)) em38 dX1_claimOfOther_129 ?_
      cases z39
      exact gq_vret C hr dX1_claimOfOther_130 (Nat.le_of_ble_eq_true rfl) (Nat.le_of_ble_eq_true rfl)
abbrev rm_X1_isExercised : Room := { frames := 1, cells := 0, slots := 0, locals := 22 }
def F_X1_isExercised (t : Nat) (p1 : Int32) (p2 : Int32) (μ : Mm) : Option Int32 :=
  (F_X1_percentOfYear t (p2 / (12 : Int32)) μ).bind fun o2 =>
  (F_X2_get (t + 14) p1 (3 : Int32) μ).bind fun o5 =>
  if o5 ≤ o2 then
  (some (0 : Int32))
  else
  (some (1 : Int32))
set_option maxHeartbeats 4000000 in
set_option maxRecDepth 100000 in
theorem c_X1_isExercised {l : Launch} {E : Ev} (hN : 295 ≤ eN E) {t : Nat} (k_t : kd t = 1) {p1 : Int32} {p2 : Int32} {μ : Mm} {r : Int32} (z0 : F_X1_isExercised t p1 p2 μ = some r) : Ct l E yX1_isExercised (Cond.code yX1_isExercised cX1_isExercised 3 (some .boolean) :: GW) rm_X1_isExercised [.ref (eB E + t), .int p1, .int p2] μ (some (.int r)) μ := by
  refine ct_of (by decide) (Nat.le_of_ble_eq_true rfl) (fun p e s m args below meth c C hr => ?_)
  have C : Cq E p s m args meth c cX1_isExercised 3 RX1 := C
  refine gq_lv (lv' := [(0, .ref (eB E + t)), (1, .int p1), (2, .int p2)]) rfl ?_
  unfold F_X1_isExercised at z0
  refine gq_aload_n C dX1_isExercised_0 rfl 0 rfl ?_
  refine gq_iload_n C dX1_isExercised_1 rfl 2 rfl ?_
  refine gq_bipush (v := 12) C dX1_isExercised_2 (by decide) ?_
  refine gq_idiv C dX1_isExercised_4 (by decide) ?_
  obtain ⟨x3, eo2, z1⟩ := bind_ex z0
  refine gq_V (As := [.int (p2 / (12 : Int32))]) (rest := []) C (c_X1_percentOfYear hN k_t eo2) (st_n k_t hN 0 (by decide)) k_t (by decide) rfl wk_1_140 wk_1_141 wk_1_142 wk_1_4 wk_1_143 hd_X1_percentOfYear ⟨(Nat.le_of_ble_eq_true rfl), (Nat.le_of_ble_eq_true rfl)⟩ (Nat.le_of_ble_eq_true rfl) ⟨(Nat.le_of_ble_eq_true rfl), (Nat.le_of_ble_eq_true rfl)⟩ dX1_isExercised_5 rfl rfl ?_
  refine gq_aload_n C dX1_isExercised_8 rfl 0 rfl ?_
  refine gq_get1 C (st_n k_t hN 0 (by decide)) k_t 10 (by decide) wk_2_172 rfl dX1_isExercised_9 ?_
  refine gq_iload_n C dX1_isExercised_12 rfl 1 rfl ?_
  refine gq_iconst (v := 3) C dX1_isExercised_13 (by decide) ?_
  obtain ⟨x6, eo5, z4⟩ := bind_ex z1
  refine gq_V (As := [.int p1, .int (3 : Int32)]) (rest := [.int x3]) C (c_X2_get hN (st_kd k_t 14 (by decide)) eo5) (st_n k_t hN 14 (by decide)) (st_kd k_t 14 (by decide)) (by decide) rfl wk_1_132 wk_1_133 wk_1_134 wk_1_5 wk_1_135 hd_X2_get ⟨(Nat.le_of_ble_eq_true rfl), (Nat.le_of_ble_eq_true rfl)⟩ (Nat.le_of_ble_eq_true rfl) ⟨(Nat.le_of_ble_eq_true rfl), (Nat.le_of_ble_eq_true rfl)⟩ dX1_isExercised_14 rfl rfl ?_
  rcases ite_ex z4 with ⟨c7, z8⟩ | ⟨c7, z8⟩
  · refine gq_icmp_ge_t (tgt := 24) C dX1_isExercised_17 (by decide) c7 ?_
    refine gq_iconst (v := 0) C dX1_isExercised_24 (by decide) ?_
    cases z8
    exact gq_zret C hr (by decide) dX1_isExercised_25 (Nat.le_of_ble_eq_true rfl) (Nat.le_of_ble_eq_true rfl)
  · refine gq_icmp_ge_f (tgt := 24) C dX1_isExercised_17 (by decide) c7 ?_
    refine gq_iconst (v := 1) C dX1_isExercised_20 (by decide) ?_
    refine gq_goto (tgt := 25) C dX1_isExercised_21 (by decide) ?_
    cases z8
    exact gq_zret C hr (by decide) dX1_isExercised_25 (Nat.le_of_ble_eq_true rfl) (Nat.le_of_ble_eq_true rfl)
abbrev rm_X1_exercisedOptionOf : Room := { frames := 2, cells := 0, slots := 0, locals := 44 }
def F_X1_exercisedOptionOf_2 (t : Nat) (u1 : Int32) (μ : Mm) : Nat → Int32 → Option Int32
  | 0, _ => none
  | n + 1, v2 =>
  if (μ.1 (t + 14) 2) ≤ v2 then
  (some (-1 : Int32))
  else
  ((F_X2_get (t + 14) v2 (0 : Int32) μ).bind fun o4 =>
  if o4 = u1 then
  ((F_X1_isExercised t v2 (μ.1 t 14) μ).bind fun o9 =>
  if o9 = 0 then
  (F_X1_exercisedOptionOf_2 t u1 μ n (v2 + 1))
  else
  (some v2))
  else
  (F_X1_exercisedOptionOf_2 t u1 μ n (v2 + 1)))
def F_X1_exercisedOptionOf (t : Nat) (p1 : Int32) (μ : Mm) : Option Int32 :=
  F_X1_exercisedOptionOf_2 t p1 μ qFuel (0 : Int32)
set_option maxHeartbeats 4000000 in
set_option maxRecDepth 100000 in
theorem l_X1_exercisedOptionOf_2 {l : Launch} {E : Ev} (hN : 295 ≤ eN E) {p : Program} {e : Env} {s : State} {m : MethodId} {args : Array Value} {below : List Frame} {meth : Method} {c : Code} (C : Cq E p s m args meth c cX1_exercisedOptionOf 3 RX1) (hr : meth.sig.returnType = (some .int)) {t : Nat} (k_t : kd t = 1) {u1 : Int32} {μ : Mm} : ∀ (n : Nat) (v2 : Int32) (r : Int32), F_X1_exercisedOptionOf_2 t u1 μ n v2 = some r → Gq E p l e rm_X1_exercisedOptionOf s m args below meth c 0 0 3 (MQ below (qQ E (some (.int r)) μ) args s rm_X1_exercisedOptionOf.cells rm_X1_exercisedOptionOf.slots (eA E)) 2 [(0, .ref (eB E + t)), (1, .int u1), (2, .int v2)] [] μ := by
  intro n
  induction n with
  | zero =>
    intro v2 r z0
    rw [F_X1_exercisedOptionOf_2] at z0
    cases z0
  | succ n ih =>
    intro v2 r z0
    rw [F_X1_exercisedOptionOf_2] at z0
    refine gq_iload_n C dX1_exercisedOptionOf_2 rfl 2 rfl ?_
    refine gq_aload_n C dX1_exercisedOptionOf_3 rfl 0 rfl ?_
    refine gq_get1 C (st_n k_t hN 0 (by decide)) k_t 10 (by decide) wk_2_172 rfl dX1_exercisedOptionOf_4 ?_
    refine gq_get2N C (st_n k_t hN 14 (by decide)) (st_kd k_t 14 (by decide)) 2 (by decide) wk_2_141 rfl dX1_exercisedOptionOf_7 ?_
    rcases ite_ex z0 with ⟨c1, z2⟩ | ⟨c1, z2⟩
    · refine gq_icmp_ge_t (tgt := 46) C dX1_exercisedOptionOf_10 (by decide) c1 ?_
      refine gq_iconst (v := -1) C dX1_exercisedOptionOf_46 (by decide) ?_
      cases z2
      exact gq_iret C hr dX1_exercisedOptionOf_47 (Nat.le_of_ble_eq_true rfl) (Nat.le_of_ble_eq_true rfl)
    · refine gq_icmp_ge_f (tgt := 46) C dX1_exercisedOptionOf_10 (by decide) c1 ?_
      refine gq_aload_n C dX1_exercisedOptionOf_13 rfl 0 rfl ?_
      refine gq_get1 C (st_n k_t hN 0 (by decide)) k_t 10 (by decide) wk_2_172 rfl dX1_exercisedOptionOf_14 ?_
      refine gq_iload_n C dX1_exercisedOptionOf_17 rfl 2 rfl ?_
      refine gq_iconst (v := 0) C dX1_exercisedOptionOf_18 (by decide) ?_
      obtain ⟨x5, eo4, z3⟩ := bind_ex z2
      refine gq_V (As := [.int v2, .int (0 : Int32)]) (rest := []) C (c_X2_get hN (st_kd k_t 14 (by decide)) eo4) (st_n k_t hN 14 (by decide)) (st_kd k_t 14 (by decide)) (by decide) rfl wk_1_132 wk_1_133 wk_1_134 wk_1_5 wk_1_135 hd_X2_get ⟨(Nat.le_of_ble_eq_true rfl), (Nat.le_of_ble_eq_true rfl)⟩ (Nat.le_of_ble_eq_true rfl) ⟨(Nat.le_of_ble_eq_true rfl), (Nat.le_of_ble_eq_true rfl)⟩ dX1_exercisedOptionOf_19 rfl rfl ?_
      refine gq_iload_n C dX1_exercisedOptionOf_22 rfl 1 rfl ?_
      rcases ite_ex z3 with ⟨c6, z7⟩ | ⟨c6, z7⟩
      · refine gq_icmp_ne_f (tgt := 40) C dX1_exercisedOptionOf_23 (by decide) c6 ?_
        refine gq_aload_n C dX1_exercisedOptionOf_26 rfl 0 rfl ?_
        refine gq_iload_n C dX1_exercisedOptionOf_27 rfl 2 rfl ?_
        refine gq_aload_n C dX1_exercisedOptionOf_28 rfl 0 rfl ?_
        refine gq_get1 C (st_n k_t hN 0 (by decide)) k_t 14 (by decide) wk_2_180 rfl dX1_exercisedOptionOf_29 ?_
        obtain ⟨x10, eo9, z8⟩ := bind_ex z7
        refine gq_V (As := [.int v2, .int (μ.1 t 14)]) (rest := []) C (c_X1_isExercised hN k_t eo9) (st_n k_t hN 0 (by decide)) k_t (by decide) rfl wk_2_70 wk_2_71 wk_2_72 wk_1_4 wk_2_73 hd_X1_isExercised ⟨(Nat.le_of_ble_eq_true rfl), (Nat.le_of_ble_eq_true rfl)⟩ (Nat.le_of_ble_eq_true rfl) ⟨(Nat.le_of_ble_eq_true rfl), (Nat.le_of_ble_eq_true rfl)⟩ dX1_exercisedOptionOf_32 rfl rfl ?_
        rcases ite_ex z8 with ⟨c11, z12⟩ | ⟨c11, z12⟩
        · refine gq_if_eq_t (tgt := 40) C dX1_exercisedOptionOf_35 (by decide) c11 ?_
          refine gq_iinc (v := (v2 + 1)) (lv' := [(2, .int (v2 + 1)), (0, .ref (eB E + t)), (1, .int u1)]) (q := 2) C dX1_exercisedOptionOf_40 rfl rfl (by decide) rfl ?_
          refine gq_goto (tgt := 2) C dX1_exercisedOptionOf_43 (by decide) ?_
          refine gq_widen (k' := 0) (n' := 0) (Nat.le_of_ble_eq_true rfl) (Nat.le_of_ble_eq_true rfl) (gq_sub [1, 2, 0] rfl ?_)
          exact ih _ _ z12
        · refine gq_if_eq_f (tgt := 40) C dX1_exercisedOptionOf_35 (by decide) c11 ?_
          refine gq_iload_n C dX1_exercisedOptionOf_38 rfl 2 rfl ?_
          cases z12
          exact gq_iret C hr dX1_exercisedOptionOf_39 (Nat.le_of_ble_eq_true rfl) (Nat.le_of_ble_eq_true rfl)
      · refine gq_icmp_ne_t (tgt := 40) C dX1_exercisedOptionOf_23 (by decide) c6 ?_
        refine gq_iinc (v := (v2 + 1)) (lv' := [(2, .int (v2 + 1)), (0, .ref (eB E + t)), (1, .int u1)]) (q := 2) C dX1_exercisedOptionOf_40 rfl rfl (by decide) rfl ?_
        refine gq_goto (tgt := 2) C dX1_exercisedOptionOf_43 (by decide) ?_
        refine gq_widen (k' := 0) (n' := 0) (Nat.le_of_ble_eq_true rfl) (Nat.le_of_ble_eq_true rfl) (gq_sub [1, 2, 0] rfl ?_)
        exact ih _ _ z7
set_option maxHeartbeats 4000000 in
set_option maxRecDepth 100000 in
theorem c_X1_exercisedOptionOf {l : Launch} {E : Ev} (hN : 295 ≤ eN E) {t : Nat} (k_t : kd t = 1) {p1 : Int32} {μ : Mm} {r : Int32} (z0 : F_X1_exercisedOptionOf t p1 μ = some r) : Ct l E yX1_exercisedOptionOf (Cond.code yX1_exercisedOptionOf cX1_exercisedOptionOf 3 (some .int) :: GW) rm_X1_exercisedOptionOf [.ref (eB E + t), .int p1] μ (some (.int r)) μ := by
  refine ct_of (by decide) (Nat.le_of_ble_eq_true rfl) (fun p e s m args below meth c C hr => ?_)
  have C : Cq E p s m args meth c cX1_exercisedOptionOf 3 RX1 := C
  refine gq_lv (lv' := [(0, .ref (eB E + t)), (1, .int p1)]) rfl ?_
  unfold F_X1_exercisedOptionOf at z0
  refine gq_iconst (v := 0) C dX1_exercisedOptionOf_0 (by decide) ?_
  refine gq_istore_n (lv' := [(2, .int (0 : Int32)), (0, .ref (eB E + t)), (1, .int p1)]) C dX1_exercisedOptionOf_1 rfl (by decide) rfl ?_
  refine gq_widen (k' := 0) (n' := 0) (Nat.le_of_ble_eq_true rfl) (Nat.le_of_ble_eq_true rfl) (gq_sub [1, 2, 0] rfl ?_)
  exact l_X1_exercisedOptionOf_2 hN C hr k_t qFuel _ _ z0
abbrev rm_X1_mostThatLowersBy : Room := { frames := 1, cells := 0, slots := 0, locals := 21 }
def F_X1_mostThatLowersBy_9 (u0 : Int32) (u2 : Int32) (u3 : Int32) (μ : Mm) : Nat → Int32 → Int32 → Int32 → Option Int32
  | 0, _, _, _ => none
  | n + 1, v4, v5, v6 =>
  if (32 : Int32) ≤ v6 then
  (some v4)
  else
  (if v5 ≤ v4 then
  (some v4)
  else
  ((F_X1_percentOf (((v4 + v5) + (1 : Int32)) / (2 : Int32)) u2 μ).bind fun o6 =>
  (F_X1_percentOf ((((v4 + v5) + (1 : Int32)) / (2 : Int32)) - o6) u3 μ).bind fun o9 =>
  (if u0 < ((((v4 + v5) + (1 : Int32)) / (2 : Int32)) - o9) then
  (some (v4, ((((v4 + v5) + (1 : Int32)) / (2 : Int32)) - (1 : Int32))))
  else
  (some ((((v4 + v5) + (1 : Int32)) / (2 : Int32)), v5))).bind fun o17 =>
  F_X1_mostThatLowersBy_9 u0 u2 u3 μ n o17.1 o17.2 (v6 + 1)))
def F_X1_mostThatLowersBy (p1 : Int32) (p2 : Int32) (p3 : Int32) (p4 : Int32) (μ : Mm) : Option Int32 :=
  (F_X1_mostThatLowersBy_9 p1 p3 p4 μ qFuel (0 : Int32) p2 (0 : Int32)).bind fun o19 =>
  some o19
set_option maxHeartbeats 4000000 in
set_option maxRecDepth 100000 in
theorem l_X1_mostThatLowersBy_9 {l : Launch} {E : Ev} (hN : 295 ≤ eN E) {p : Program} {e : Env} {s : State} {m : MethodId} {args : Array Value} {below : List Frame} {meth : Method} {c : Code} (C : Cq E p s m args meth c cX1_mostThatLowersBy 9 RX1) {Q : State → Prop} {u0 : Int32} {u2 : Int32} {u3 : Int32} {μ : Mm} : ∀ (n : Nat) (v4 : Int32) (v5 : Int32) (v6 : Int32) (w4 : Int32), F_X1_mostThatLowersBy_9 u0 u2 u3 μ n v4 v5 v6 = some w4 → Gq E p l e rm_X1_mostThatLowersBy s m args below meth c 0 0 9 Q 77 [(4, .int w4)] [] μ → Gq E p l e rm_X1_mostThatLowersBy s m args below meth c 0 0 9 Q 9 [(0, .int u0), (2, .int u2), (3, .int u3), (4, .int v4), (5, .int v5), (6, .int v6)] [] μ := by
  intro n
  induction n with
  | zero =>
    intro v4 v5 v6 w4 z0 kk
    rw [F_X1_mostThatLowersBy_9] at z0
    cases z0
  | succ n ih =>
    intro v4 v5 v6 w4 z0 kk
    rw [F_X1_mostThatLowersBy_9] at z0
    refine gq_iload C dX1_mostThatLowersBy_9 5 rfl ?_
    refine gq_bipush (v := 32) C dX1_mostThatLowersBy_11 (by decide) ?_
    rcases ite_ex z0 with ⟨c1, z2⟩ | ⟨c1, z2⟩
    · refine gq_icmp_ge_t (tgt := 77) C dX1_mostThatLowersBy_13 (by decide) c1 ?_
      cases z2
      exact gq_widen (Nat.le_of_ble_eq_true rfl) (Nat.le_of_ble_eq_true rfl) (gq_sub [3] rfl kk)
    · refine gq_icmp_ge_f (tgt := 77) C dX1_mostThatLowersBy_13 (by decide) c1 ?_
      refine gq_iload C dX1_mostThatLowersBy_16 3 rfl ?_
      refine gq_iload C dX1_mostThatLowersBy_18 4 rfl ?_
      rcases ite_ex z2 with ⟨c3, z4⟩ | ⟨c3, z4⟩
      · refine gq_icmp_ge_t (tgt := 77) C dX1_mostThatLowersBy_20 (by decide) c3 ?_
        cases z4
        exact gq_widen (Nat.le_of_ble_eq_true rfl) (Nat.le_of_ble_eq_true rfl) (gq_sub [3] rfl kk)
      · refine gq_icmp_ge_f (tgt := 77) C dX1_mostThatLowersBy_20 (by decide) c3 ?_
        refine gq_iload C dX1_mostThatLowersBy_23 3 rfl ?_
        refine gq_iload C dX1_mostThatLowersBy_25 4 rfl ?_
        refine gq_iadd C dX1_mostThatLowersBy_27 ?_
        refine gq_iconst (v := 1) C dX1_mostThatLowersBy_28 (by decide) ?_
        refine gq_iadd C dX1_mostThatLowersBy_29 ?_
        refine gq_iconst (v := 2) C dX1_mostThatLowersBy_30 (by decide) ?_
        refine gq_idiv C dX1_mostThatLowersBy_31 (by decide) ?_
        refine gq_istore (lv' := [(7, .int (((v4 + v5) + (1 : Int32)) / (2 : Int32))), (0, .int u0), (2, .int u2), (3, .int u3), (4, .int v4), (5, .int v5), (6, .int v6)]) C dX1_mostThatLowersBy_32 (by decide) rfl ?_
        refine gq_iload C dX1_mostThatLowersBy_34 0 rfl ?_
        refine gq_iload C dX1_mostThatLowersBy_36 0 rfl ?_
        refine gq_iload_n C dX1_mostThatLowersBy_38 rfl 2 rfl ?_
        obtain ⟨x7, eo6, z5⟩ := bind_ex z4
        refine gq_S (As := [.int (((v4 + v5) + (1 : Int32)) / (2 : Int32)), .int u2]) (rest := [.int (((v4 + v5) + (1 : Int32)) / (2 : Int32))]) C (c_X1_percentOf hN  eo6) wk_2_39 wk_2_40 wk_1_4 wk_2_41 hd_X1_percentOf ⟨(Nat.le_of_ble_eq_true rfl), (Nat.le_of_ble_eq_true rfl)⟩ (Nat.le_of_ble_eq_true rfl) ⟨(Nat.le_of_ble_eq_true rfl), (Nat.le_of_ble_eq_true rfl)⟩ dX1_mostThatLowersBy_39 rfl rfl ?_
        refine gq_isub C dX1_mostThatLowersBy_42 ?_
        refine gq_istore (lv' := [(8, .int ((((v4 + v5) + (1 : Int32)) / (2 : Int32)) - x7)), (7, .int (((v4 + v5) + (1 : Int32)) / (2 : Int32))), (0, .int u0), (2, .int u2), (3, .int u3), (4, .int v4), (5, .int v5), (6, .int v6)]) C dX1_mostThatLowersBy_43 (by decide) rfl ?_
        refine gq_iload C dX1_mostThatLowersBy_45 1 rfl ?_
        refine gq_iload C dX1_mostThatLowersBy_47 0 rfl ?_
        refine gq_iload_n C dX1_mostThatLowersBy_49 rfl 4 rfl ?_
        obtain ⟨x10, eo9, z8⟩ := bind_ex z5
        refine gq_S (As := [.int ((((v4 + v5) + (1 : Int32)) / (2 : Int32)) - x7), .int u3]) (rest := [.int (((v4 + v5) + (1 : Int32)) / (2 : Int32))]) C (c_X1_percentOf hN  eo9) wk_2_39 wk_2_40 wk_1_4 wk_2_41 hd_X1_percentOf ⟨(Nat.le_of_ble_eq_true rfl), (Nat.le_of_ble_eq_true rfl)⟩ (Nat.le_of_ble_eq_true rfl) ⟨(Nat.le_of_ble_eq_true rfl), (Nat.le_of_ble_eq_true rfl)⟩ dX1_mostThatLowersBy_50 rfl rfl ?_
        refine gq_isub C dX1_mostThatLowersBy_53 ?_
        refine gq_iload_n C dX1_mostThatLowersBy_54 rfl 2 rfl ?_
        obtain ⟨⟨x11, x12⟩, z13, z14⟩ := bind_ex z8
        dsimp only at z14
        refine gq_join (k' := 0) (n' := 0) (pc' := 71) (lv' := [(0, .int u0), (2, .int u2), (3, .int u3), (4, .int x11), (5, .int x12), (6, .int v6)]) (st' := []) (μ' := μ) ?_ (fun J71 => ?_)
        · refine gq_iinc (v := (v6 + 1)) (lv' := [(6, .int (v6 + 1)), (0, .int u0), (2, .int u2), (3, .int u3), (4, .int x11), (5, .int x12)]) (q := 5) C dX1_mostThatLowersBy_71 rfl rfl (by decide) rfl ?_
          refine gq_goto (tgt := 9) C dX1_mostThatLowersBy_74 (by decide) ?_
          refine gq_widen (k' := 0) (n' := 0) (Nat.le_of_ble_eq_true rfl) (Nat.le_of_ble_eq_true rfl) (gq_sub [1, 2, 3, 4, 5, 0] rfl ?_)
          exact ih _ _ _ _ z14 kk
        · rcases ite_ex z13 with ⟨c15, z16⟩ | ⟨c15, z16⟩
          · refine gq_icmp_gt_t (tgt := 65) C dX1_mostThatLowersBy_55 (by decide) c15 ?_
            refine gq_iload C dX1_mostThatLowersBy_65 1 rfl ?_
            refine gq_iconst (v := 1) C dX1_mostThatLowersBy_67 (by decide) ?_
            refine gq_isub C dX1_mostThatLowersBy_68 ?_
            refine gq_istore (lv' := [(5, .int ((((v4 + v5) + (1 : Int32)) / (2 : Int32)) - (1 : Int32))), (8, .int ((((v4 + v5) + (1 : Int32)) / (2 : Int32)) - x7)), (7, .int (((v4 + v5) + (1 : Int32)) / (2 : Int32))), (0, .int u0), (2, .int u2), (3, .int u3), (4, .int v4), (6, .int v6)]) C dX1_mostThatLowersBy_69 (by decide) rfl ?_
            cases z16
            exact gq_widen (Nat.le_of_ble_eq_true rfl) (Nat.le_of_ble_eq_true rfl) (gq_sub [3, 4, 5, 6, 0, 7] rfl J71)
          · refine gq_icmp_gt_f (tgt := 65) C dX1_mostThatLowersBy_55 (by decide) c15 ?_
            refine gq_iload C dX1_mostThatLowersBy_58 1 rfl ?_
            refine gq_istore (lv' := [(4, .int (((v4 + v5) + (1 : Int32)) / (2 : Int32))), (8, .int ((((v4 + v5) + (1 : Int32)) / (2 : Int32)) - x7)), (7, .int (((v4 + v5) + (1 : Int32)) / (2 : Int32))), (0, .int u0), (2, .int u2), (3, .int u3), (5, .int v5), (6, .int v6)]) C dX1_mostThatLowersBy_60 (by decide) rfl ?_
            refine gq_goto (tgt := 71) C dX1_mostThatLowersBy_62 (by decide) ?_
            cases z16
            exact gq_widen (Nat.le_of_ble_eq_true rfl) (Nat.le_of_ble_eq_true rfl) (gq_sub [3, 4, 5, 0, 6, 7] rfl J71)
set_option maxHeartbeats 4000000 in
set_option maxRecDepth 100000 in
theorem c_X1_mostThatLowersBy {l : Launch} {E : Ev} (hN : 295 ≤ eN E) {p1 : Int32} {p2 : Int32} {p3 : Int32} {p4 : Int32} {μ : Mm} {r : Int32} (z0 : F_X1_mostThatLowersBy p1 p2 p3 p4 μ = some r) : Ct l E yX1_mostThatLowersBy (Cond.code yX1_mostThatLowersBy cX1_mostThatLowersBy 9 (some .int) :: GW) rm_X1_mostThatLowersBy [.int p1, .int p2, .int p3, .int p4] μ (some (.int r)) μ := by
  refine ct_of (by decide) (Nat.le_of_ble_eq_true rfl) (fun p e s m args below meth c C hr => ?_)
  have C : Cq E p s m args meth c cX1_mostThatLowersBy 9 RX1 := C
  refine gq_lv (lv' := [(0, .int p1), (1, .int p2), (2, .int p3), (3, .int p4)]) rfl ?_
  unfold F_X1_mostThatLowersBy at z0
  refine gq_iconst (v := 0) C dX1_mostThatLowersBy_0 (by decide) ?_
  refine gq_istore (lv' := [(4, .int (0 : Int32)), (0, .int p1), (1, .int p2), (2, .int p3), (3, .int p4)]) C dX1_mostThatLowersBy_1 (by decide) rfl ?_
  refine gq_iload_n C dX1_mostThatLowersBy_3 rfl 2 rfl ?_
  refine gq_istore (lv' := [(5, .int p2), (4, .int (0 : Int32)), (0, .int p1), (1, .int p2), (2, .int p3), (3, .int p4)]) C dX1_mostThatLowersBy_4 (by decide) rfl ?_
  refine gq_iconst (v := 0) C dX1_mostThatLowersBy_6 (by decide) ?_
  refine gq_istore (lv' := [(6, .int (0 : Int32)), (5, .int p2), (4, .int (0 : Int32)), (0, .int p1), (1, .int p2), (2, .int p3), (3, .int p4)]) C dX1_mostThatLowersBy_7 (by decide) rfl ?_
  obtain ⟨x20, eo19, z18⟩ := bind_ex z0
  refine gq_widen (k' := 0) (n' := 0) (Nat.le_of_ble_eq_true rfl) (Nat.le_of_ble_eq_true rfl) (gq_sub [3, 5, 6, 2, 1, 0] rfl ?_)
  refine l_X1_mostThatLowersBy_9 hN C  qFuel _ _ _ _ eo19 ?_
  refine gq_iload C dX1_mostThatLowersBy_77 0 rfl ?_
  cases z18
  exact gq_iret C hr dX1_mostThatLowersBy_79 (Nat.le_of_ble_eq_true rfl) (Nat.le_of_ble_eq_true rfl)
abbrev rm_X1_putInBank : Room := { frames := 1, cells := 0, slots := 0, locals := 23 }
def F_X1_putInBank (t : Nat) (p1 : Int32) (p2 : Int32) (p3 : Int32) (μ : Mm) : Option Mm :=
  (F_X2_put (t + 16) p1 (6 : Int32) p3 μ).bind fun o2 =>
  (F_X2_increase (t + 5) p2 (0 : Int32) p3 o2).bind fun o5 =>
  (some (uI o5 t 16 ((o5.1 t 16) + p3))).bind fun m7 =>
  some m7
set_option maxHeartbeats 4000000 in
set_option maxRecDepth 100000 in
theorem c_X1_putInBank {l : Launch} {E : Ev} (hN : 295 ≤ eN E) {t : Nat} (k_t : kd t = 1) {p1 : Int32} {p2 : Int32} {p3 : Int32} {μ : Mm} {μ' : Mm} (z0 : F_X1_putInBank t p1 p2 p3 μ = some μ') : Ct l E yX1_putInBank (Cond.code yX1_putInBank cX1_putInBank 4 none :: GW) rm_X1_putInBank [.ref (eB E + t), .int p1, .int p2, .int p3] μ none μ' := by
  refine ct_of (by decide) (Nat.le_of_ble_eq_true rfl) (fun p e s m args below meth c C hr => ?_)
  have C : Cq E p s m args meth c cX1_putInBank 4 RX1 := C
  refine gq_lv (lv' := [(0, .ref (eB E + t)), (1, .int p1), (2, .int p2), (3, .int p3)]) rfl ?_
  unfold F_X1_putInBank at z0
  refine gq_aload_n C dX1_putInBank_0 rfl 0 rfl ?_
  refine gq_get1 C (st_n k_t hN 0 (by decide)) k_t 11 (by decide) wk_2_175 rfl dX1_putInBank_1 ?_
  refine gq_iload_n C dX1_putInBank_4 rfl 1 rfl ?_
  refine gq_bipush (v := 6) C dX1_putInBank_5 (by decide) ?_
  refine gq_iload_n C dX1_putInBank_7 rfl 3 rfl ?_
  obtain ⟨m3, eo2, z1⟩ := bind_ex z0
  refine gq_V (As := [.int p1, .int (6 : Int32), .int p3]) (rest := []) C (c_X2_put hN (st_kd k_t 16 (by decide)) eo2) (st_n k_t hN 16 (by decide)) (st_kd k_t 16 (by decide)) (by decide) rfl wk_2_10 wk_2_11 wk_2_12 wk_1_5 wk_2_13 hd_X2_put ⟨(Nat.le_of_ble_eq_true rfl), (Nat.le_of_ble_eq_true rfl)⟩ (Nat.le_of_ble_eq_true rfl) ⟨(Nat.le_of_ble_eq_true rfl), (Nat.le_of_ble_eq_true rfl)⟩ dX1_putInBank_8 rfl rfl ?_
  refine gq_aload_n C dX1_putInBank_11 rfl 0 rfl ?_
  refine gq_get1 C (st_n k_t hN 0 (by decide)) k_t 4 (by decide) wk_2_160 rfl dX1_putInBank_12 ?_
  refine gq_iload_n C dX1_putInBank_15 rfl 2 rfl ?_
  refine gq_iconst (v := 0) C dX1_putInBank_16 (by decide) ?_
  refine gq_iload_n C dX1_putInBank_17 rfl 3 rfl ?_
  obtain ⟨m6, eo5, z4⟩ := bind_ex z1
  refine gq_V (As := [.int p2, .int (0 : Int32), .int p3]) (rest := []) C (c_X2_increase hN (st_kd k_t 5 (by decide)) eo5) (st_n k_t hN 5 (by decide)) (st_kd k_t 5 (by decide)) (by decide) rfl wk_2_57 wk_2_58 wk_2_59 wk_1_5 wk_2_60 hd_X2_increase ⟨(Nat.le_of_ble_eq_true rfl), (Nat.le_of_ble_eq_true rfl)⟩ (Nat.le_of_ble_eq_true rfl) ⟨(Nat.le_of_ble_eq_true rfl), (Nat.le_of_ble_eq_true rfl)⟩ dX1_putInBank_18 rfl rfl ?_
  refine gq_aload_n C dX1_putInBank_21 rfl 0 rfl ?_
  refine gq_dupr C dX1_putInBank_22 ?_
  refine gq_get1 C (st_n k_t hN 0 (by decide)) k_t 16 (by decide) wk_2_185 rfl dX1_putInBank_23 ?_
  refine gq_iload_n C dX1_putInBank_26 rfl 3 rfl ?_
  refine gq_iadd C dX1_putInBank_27 ?_
  obtain ⟨m7, em7, z8⟩ := bind_ex z4
  refine gq_put1_16 C (st_n k_t hN 0 (by decide)) k_t wk_2_185 (Option.some.inj em7).symm dX1_putInBank_28 ?_
  cases z8
  exact gq_vret C hr dX1_putInBank_31 (Nat.le_of_ble_eq_true rfl) (Nat.le_of_ble_eq_true rfl)
abbrev rm_X1_giveBack : Room := { frames := 2, cells := 0, slots := 0, locals := 45 }
def F_X1_giveBack (t : Nat) (p1 : Int32) (p2 : Int32) (p3 : Int32) (μ : Mm) : Option Mm :=
  (F_X2_put (t + 16) p1 (7 : Int32) p3 μ).bind fun o2 =>
  (F_X2_increase (t + 18) p2 (4 : Int32) p3 o2).bind fun o5 =>
  (F_X2_increaseFrom (t + 18) p2 (2 : Int32) p3 o5).bind fun o8 =>
  (F_X2_get (t + 16) p1 (1 : Int32) o8).bind fun o11 =>
  (F_X2_increase (t + 8) o11 (8 : Int32) p3 o8).bind fun o14 =>
  some o14
set_option maxHeartbeats 4000000 in
set_option maxRecDepth 100000 in
theorem c_X1_giveBack {l : Launch} {E : Ev} (hN : 295 ≤ eN E) {t : Nat} (k_t : kd t = 1) {p1 : Int32} {p2 : Int32} {p3 : Int32} {μ : Mm} {μ' : Mm} (z0 : F_X1_giveBack t p1 p2 p3 μ = some μ') : Ct l E yX1_giveBack (Cond.code yX1_giveBack cX1_giveBack 4 none :: GW) rm_X1_giveBack [.ref (eB E + t), .int p1, .int p2, .int p3] μ none μ' := by
  refine ct_of (by decide) (Nat.le_of_ble_eq_true rfl) (fun p e s m args below meth c C hr => ?_)
  have C : Cq E p s m args meth c cX1_giveBack 4 RX1 := C
  refine gq_lv (lv' := [(0, .ref (eB E + t)), (1, .int p1), (2, .int p2), (3, .int p3)]) rfl ?_
  unfold F_X1_giveBack at z0
  refine gq_aload_n C dX1_giveBack_0 rfl 0 rfl ?_
  refine gq_get1 C (st_n k_t hN 0 (by decide)) k_t 11 (by decide) wk_2_175 rfl dX1_giveBack_1 ?_
  refine gq_iload_n C dX1_giveBack_4 rfl 1 rfl ?_
  refine gq_bipush (v := 7) C dX1_giveBack_5 (by decide) ?_
  refine gq_iload_n C dX1_giveBack_7 rfl 3 rfl ?_
  obtain ⟨m3, eo2, z1⟩ := bind_ex z0
  refine gq_V (As := [.int p1, .int (7 : Int32), .int p3]) (rest := []) C (c_X2_put hN (st_kd k_t 16 (by decide)) eo2) (st_n k_t hN 16 (by decide)) (st_kd k_t 16 (by decide)) (by decide) rfl wk_2_10 wk_2_11 wk_2_12 wk_1_5 wk_2_13 hd_X2_put ⟨(Nat.le_of_ble_eq_true rfl), (Nat.le_of_ble_eq_true rfl)⟩ (Nat.le_of_ble_eq_true rfl) ⟨(Nat.le_of_ble_eq_true rfl), (Nat.le_of_ble_eq_true rfl)⟩ dX1_giveBack_8 rfl rfl ?_
  refine gq_aload_n C dX1_giveBack_11 rfl 0 rfl ?_
  refine gq_get1 C (st_n k_t hN 0 (by decide)) k_t 12 (by decide) wk_2_177 rfl dX1_giveBack_12 ?_
  refine gq_iload_n C dX1_giveBack_15 rfl 2 rfl ?_
  refine gq_iconst (v := 4) C dX1_giveBack_16 (by decide) ?_
  refine gq_iload_n C dX1_giveBack_17 rfl 3 rfl ?_
  obtain ⟨m6, eo5, z4⟩ := bind_ex z1
  refine gq_V (As := [.int p2, .int (4 : Int32), .int p3]) (rest := []) C (c_X2_increase hN (st_kd k_t 18 (by decide)) eo5) (st_n k_t hN 18 (by decide)) (st_kd k_t 18 (by decide)) (by decide) rfl wk_2_57 wk_2_58 wk_2_59 wk_1_5 wk_2_60 hd_X2_increase ⟨(Nat.le_of_ble_eq_true rfl), (Nat.le_of_ble_eq_true rfl)⟩ (Nat.le_of_ble_eq_true rfl) ⟨(Nat.le_of_ble_eq_true rfl), (Nat.le_of_ble_eq_true rfl)⟩ dX1_giveBack_18 rfl rfl ?_
  refine gq_aload_n C dX1_giveBack_21 rfl 0 rfl ?_
  refine gq_get1 C (st_n k_t hN 0 (by decide)) k_t 12 (by decide) wk_2_177 rfl dX1_giveBack_22 ?_
  refine gq_iload_n C dX1_giveBack_25 rfl 2 rfl ?_
  refine gq_iconst (v := 2) C dX1_giveBack_26 (by decide) ?_
  refine gq_iload_n C dX1_giveBack_27 rfl 3 rfl ?_
  obtain ⟨m9, eo8, z7⟩ := bind_ex z4
  refine gq_V (As := [.int p2, .int (2 : Int32), .int p3]) (rest := []) C (c_X2_increaseFrom hN (st_kd k_t 18 (by decide)) eo8) (st_n k_t hN 18 (by decide)) (st_kd k_t 18 (by decide)) (by decide) rfl wk_2_61 wk_2_62 wk_2_63 wk_1_5 wk_2_64 hd_X2_increaseFrom ⟨(Nat.le_of_ble_eq_true rfl), (Nat.le_of_ble_eq_true rfl)⟩ (Nat.le_of_ble_eq_true rfl) ⟨(Nat.le_of_ble_eq_true rfl), (Nat.le_of_ble_eq_true rfl)⟩ dX1_giveBack_28 rfl rfl ?_
  refine gq_aload_n C dX1_giveBack_31 rfl 0 rfl ?_
  refine gq_get1 C (st_n k_t hN 0 (by decide)) k_t 6 (by decide) wk_2_164 rfl dX1_giveBack_32 ?_
  refine gq_aload_n C dX1_giveBack_35 rfl 0 rfl ?_
  refine gq_get1 C (st_n k_t hN 0 (by decide)) k_t 11 (by decide) wk_2_175 rfl dX1_giveBack_36 ?_
  refine gq_iload_n C dX1_giveBack_39 rfl 1 rfl ?_
  refine gq_iconst (v := 1) C dX1_giveBack_40 (by decide) ?_
  obtain ⟨x12, eo11, z10⟩ := bind_ex z7
  refine gq_V (As := [.int p1, .int (1 : Int32)]) (rest := [.ref (eB E + (t + 8))]) C (c_X2_get hN (st_kd k_t 16 (by decide)) eo11) (st_n k_t hN 16 (by decide)) (st_kd k_t 16 (by decide)) (by decide) rfl wk_1_132 wk_1_133 wk_1_134 wk_1_5 wk_1_135 hd_X2_get ⟨(Nat.le_of_ble_eq_true rfl), (Nat.le_of_ble_eq_true rfl)⟩ (Nat.le_of_ble_eq_true rfl) ⟨(Nat.le_of_ble_eq_true rfl), (Nat.le_of_ble_eq_true rfl)⟩ dX1_giveBack_41 rfl rfl ?_
  refine gq_bipush (v := 8) C dX1_giveBack_44 (by decide) ?_
  refine gq_iload_n C dX1_giveBack_46 rfl 3 rfl ?_
  obtain ⟨m15, eo14, z13⟩ := bind_ex z10
  refine gq_V (As := [.int x12, .int (8 : Int32), .int p3]) (rest := []) C (c_X2_increase hN (st_kd k_t 8 (by decide)) eo14) (st_n k_t hN 8 (by decide)) (st_kd k_t 8 (by decide)) (by decide) rfl wk_2_57 wk_2_58 wk_2_59 wk_1_5 wk_2_60 hd_X2_increase ⟨(Nat.le_of_ble_eq_true rfl), (Nat.le_of_ble_eq_true rfl)⟩ (Nat.le_of_ble_eq_true rfl) ⟨(Nat.le_of_ble_eq_true rfl), (Nat.le_of_ble_eq_true rfl)⟩ dX1_giveBack_47 rfl rfl ?_
  cases z13
  exact gq_vret C hr dX1_giveBack_50 (Nat.le_of_ble_eq_true rfl) (Nat.le_of_ble_eq_true rfl)
abbrev rm_X1_claimOfOwner : Room := { frames := 3, cells := 0, slots := 0, locals := 69 }
def F_X1_claimOfOwner (t : Nat) (p1 : Int32) (p2 : Int32) (μ : Mm) : Option Mm :=
  (F_X2_get (t + 8) p1 (0 : Int32) μ).bind fun o2 =>
  (F_X2_get (t + 8) p1 (1 : Int32) μ).bind fun o5 =>
  (F_X2_get (t + 8) p1 (6 : Int32) μ).bind fun o8 =>
  (F_X2_get (t + 8) p1 (4 : Int32) μ).bind fun o11 =>
  (F_X2_get (t + 8) p1 (5 : Int32) μ).bind fun o14 =>
  (F_X1_leastSpare t o5 o14 p2 μ).bind fun o17 =>
  (F_X1_leastSpare t o14 (μ.1 (t + 18) 2) o17 μ).bind fun o20 =>
  (F_X1_mostThatLowersBy o20 o17 o8 o11 μ).bind fun o23 =>
  (F_X1_addClaim t (0 : Int32) p1 o2 o5 μ).bind fun o26 =>
  (F_X1_divert t o26.1 p2 o23 o26.2).bind fun o30 =>
  (F_X1_percentOf o23 o8 o30).bind fun o33 =>
  (F_X1_putInBank t o26.1 o2 o33 o30).bind fun o36 =>
  (F_X1_percentOf (o23 - o33) o11 o36).bind fun o39 =>
  (F_X1_giveBack t o26.1 o14 o39 o36).bind fun o42 =>
  some o42
set_option maxHeartbeats 4000000 in
set_option maxRecDepth 100000 in
theorem c_X1_claimOfOwner {l : Launch} {E : Ev} (hN : 295 ≤ eN E) {t : Nat} (k_t : kd t = 1) {p1 : Int32} {p2 : Int32} {μ : Mm} {μ' : Mm} (z0 : F_X1_claimOfOwner t p1 p2 μ = some μ') : Ct l E yX1_claimOfOwner (Cond.code yX1_claimOfOwner cX1_claimOfOwner 13 none :: GW) rm_X1_claimOfOwner [.ref (eB E + t), .int p1, .int p2] μ none μ' := by
  refine ct_of (by decide) (Nat.le_of_ble_eq_true rfl) (fun p e s m args below meth c C hr => ?_)
  have C : Cq E p s m args meth c cX1_claimOfOwner 13 RX1 := C
  refine gq_lv (lv' := [(0, .ref (eB E + t)), (1, .int p1), (2, .int p2)]) rfl ?_
  unfold F_X1_claimOfOwner at z0
  refine gq_aload_n C dX1_claimOfOwner_0 rfl 0 rfl ?_
  refine gq_get1 C (st_n k_t hN 0 (by decide)) k_t 6 (by decide) wk_2_164 rfl dX1_claimOfOwner_1 ?_
  refine gq_iload_n C dX1_claimOfOwner_4 rfl 1 rfl ?_
  refine gq_iconst (v := 0) C dX1_claimOfOwner_5 (by decide) ?_
  obtain ⟨x3, eo2, z1⟩ := bind_ex z0
  refine gq_V (As := [.int p1, .int (0 : Int32)]) (rest := []) C (c_X2_get hN (st_kd k_t 8 (by decide)) eo2) (st_n k_t hN 8 (by decide)) (st_kd k_t 8 (by decide)) (by decide) rfl wk_1_132 wk_1_133 wk_1_134 wk_1_5 wk_1_135 hd_X2_get ⟨(Nat.le_of_ble_eq_true rfl), (Nat.le_of_ble_eq_true rfl)⟩ (Nat.le_of_ble_eq_true rfl) ⟨(Nat.le_of_ble_eq_true rfl), (Nat.le_of_ble_eq_true rfl)⟩ dX1_claimOfOwner_6 rfl rfl ?_
  refine gq_istore_n (lv' := [(3, .int x3), (0, .ref (eB E + t)), (1, .int p1), (2, .int p2)]) C dX1_claimOfOwner_9 rfl (by decide) rfl ?_
  refine gq_aload_n C dX1_claimOfOwner_10 rfl 1 rfl ?_
  refine gq_get1 C (st_n k_t hN 0 (by decide)) k_t 6 (by decide) wk_2_164 rfl dX1_claimOfOwner_11 ?_
  refine gq_iload_n C dX1_claimOfOwner_14 rfl 2 rfl ?_
  refine gq_iconst (v := 1) C dX1_claimOfOwner_15 (by decide) ?_
  obtain ⟨x6, eo5, z4⟩ := bind_ex z1
  refine gq_V (As := [.int p1, .int (1 : Int32)]) (rest := []) C (c_X2_get hN (st_kd k_t 8 (by decide)) eo5) (st_n k_t hN 8 (by decide)) (st_kd k_t 8 (by decide)) (by decide) rfl wk_1_132 wk_1_133 wk_1_134 wk_1_5 wk_1_135 hd_X2_get ⟨(Nat.le_of_ble_eq_true rfl), (Nat.le_of_ble_eq_true rfl)⟩ (Nat.le_of_ble_eq_true rfl) ⟨(Nat.le_of_ble_eq_true rfl), (Nat.le_of_ble_eq_true rfl)⟩ dX1_claimOfOwner_16 rfl rfl ?_
  refine gq_istore (lv' := [(4, .int x6), (3, .int x3), (0, .ref (eB E + t)), (1, .int p1), (2, .int p2)]) C dX1_claimOfOwner_19 (by decide) rfl ?_
  refine gq_aload_n C dX1_claimOfOwner_21 rfl 2 rfl ?_
  refine gq_get1 C (st_n k_t hN 0 (by decide)) k_t 6 (by decide) wk_2_164 rfl dX1_claimOfOwner_22 ?_
  refine gq_iload_n C dX1_claimOfOwner_25 rfl 3 rfl ?_
  refine gq_bipush (v := 6) C dX1_claimOfOwner_26 (by decide) ?_
  obtain ⟨x9, eo8, z7⟩ := bind_ex z4
  refine gq_V (As := [.int p1, .int (6 : Int32)]) (rest := []) C (c_X2_get hN (st_kd k_t 8 (by decide)) eo8) (st_n k_t hN 8 (by decide)) (st_kd k_t 8 (by decide)) (by decide) rfl wk_1_132 wk_1_133 wk_1_134 wk_1_5 wk_1_135 hd_X2_get ⟨(Nat.le_of_ble_eq_true rfl), (Nat.le_of_ble_eq_true rfl)⟩ (Nat.le_of_ble_eq_true rfl) ⟨(Nat.le_of_ble_eq_true rfl), (Nat.le_of_ble_eq_true rfl)⟩ dX1_claimOfOwner_28 rfl rfl ?_
  refine gq_istore (lv' := [(5, .int x9), (4, .int x6), (3, .int x3), (0, .ref (eB E + t)), (1, .int p1), (2, .int p2)]) C dX1_claimOfOwner_31 (by decide) rfl ?_
  refine gq_aload_n C dX1_claimOfOwner_33 rfl 3 rfl ?_
  refine gq_get1 C (st_n k_t hN 0 (by decide)) k_t 6 (by decide) wk_2_164 rfl dX1_claimOfOwner_34 ?_
  refine gq_iload_n C dX1_claimOfOwner_37 rfl 4 rfl ?_
  refine gq_iconst (v := 4) C dX1_claimOfOwner_38 (by decide) ?_
  obtain ⟨x12, eo11, z10⟩ := bind_ex z7
  refine gq_V (As := [.int p1, .int (4 : Int32)]) (rest := []) C (c_X2_get hN (st_kd k_t 8 (by decide)) eo11) (st_n k_t hN 8 (by decide)) (st_kd k_t 8 (by decide)) (by decide) rfl wk_1_132 wk_1_133 wk_1_134 wk_1_5 wk_1_135 hd_X2_get ⟨(Nat.le_of_ble_eq_true rfl), (Nat.le_of_ble_eq_true rfl)⟩ (Nat.le_of_ble_eq_true rfl) ⟨(Nat.le_of_ble_eq_true rfl), (Nat.le_of_ble_eq_true rfl)⟩ dX1_claimOfOwner_39 rfl rfl ?_
  refine gq_istore (lv' := [(6, .int x12), (5, .int x9), (4, .int x6), (3, .int x3), (0, .ref (eB E + t)), (1, .int p1), (2, .int p2)]) C dX1_claimOfOwner_42 (by decide) rfl ?_
  refine gq_aload_n C dX1_claimOfOwner_44 rfl 4 rfl ?_
  refine gq_get1 C (st_n k_t hN 0 (by decide)) k_t 6 (by decide) wk_2_164 rfl dX1_claimOfOwner_45 ?_
  refine gq_iload_n C dX1_claimOfOwner_48 rfl 5 rfl ?_
  refine gq_iconst (v := 5) C dX1_claimOfOwner_49 (by decide) ?_
  obtain ⟨x15, eo14, z13⟩ := bind_ex z10
  refine gq_V (As := [.int p1, .int (5 : Int32)]) (rest := []) C (c_X2_get hN (st_kd k_t 8 (by decide)) eo14) (st_n k_t hN 8 (by decide)) (st_kd k_t 8 (by decide)) (by decide) rfl wk_1_132 wk_1_133 wk_1_134 wk_1_5 wk_1_135 hd_X2_get ⟨(Nat.le_of_ble_eq_true rfl), (Nat.le_of_ble_eq_true rfl)⟩ (Nat.le_of_ble_eq_true rfl) ⟨(Nat.le_of_ble_eq_true rfl), (Nat.le_of_ble_eq_true rfl)⟩ dX1_claimOfOwner_50 rfl rfl ?_
  refine gq_istore (lv' := [(7, .int x15), (6, .int x12), (5, .int x9), (4, .int x6), (3, .int x3), (0, .ref (eB E + t)), (1, .int p1), (2, .int p2)]) C dX1_claimOfOwner_53 (by decide) rfl ?_
  refine gq_aload_n C dX1_claimOfOwner_55 rfl 5 rfl ?_
  refine gq_iload C dX1_claimOfOwner_56 3 rfl ?_
  refine gq_iload C dX1_claimOfOwner_58 0 rfl ?_
  refine gq_iload_n C dX1_claimOfOwner_60 rfl 7 rfl ?_
  obtain ⟨x18, eo17, z16⟩ := bind_ex z13
  refine gq_V (As := [.int x6, .int x15, .int p2]) (rest := []) C (c_X1_leastSpare hN k_t eo17) (st_n k_t hN 0 (by decide)) k_t (by decide) rfl wk_2_42 wk_2_43 wk_2_44 wk_1_4 wk_2_45 hd_X1_leastSpare ⟨(Nat.le_of_ble_eq_true rfl), (Nat.le_of_ble_eq_true rfl)⟩ (Nat.le_of_ble_eq_true rfl) ⟨(Nat.le_of_ble_eq_true rfl), (Nat.le_of_ble_eq_true rfl)⟩ dX1_claimOfOwner_61 rfl rfl ?_
  refine gq_istore (lv' := [(8, .int x18), (7, .int x15), (6, .int x12), (5, .int x9), (4, .int x6), (3, .int x3), (0, .ref (eB E + t)), (1, .int p1), (2, .int p2)]) C dX1_claimOfOwner_64 (by decide) rfl ?_
  refine gq_aload_n C dX1_claimOfOwner_66 rfl 6 rfl ?_
  refine gq_iload C dX1_claimOfOwner_67 1 rfl ?_
  refine gq_aload_n C dX1_claimOfOwner_69 rfl 6 rfl ?_
  refine gq_get1 C (st_n k_t hN 0 (by decide)) k_t 12 (by decide) wk_2_177 rfl dX1_claimOfOwner_70 ?_
  refine gq_get2N C (st_n k_t hN 18 (by decide)) (st_kd k_t 18 (by decide)) 2 (by decide) wk_2_141 rfl dX1_claimOfOwner_73 ?_
  refine gq_iload C dX1_claimOfOwner_76 0 rfl ?_
  obtain ⟨x21, eo20, z19⟩ := bind_ex z16
  refine gq_V (As := [.int x15, .int (μ.1 (t + 18) 2), .int x18]) (rest := []) C (c_X1_leastSpare hN k_t eo20) (st_n k_t hN 0 (by decide)) k_t (by decide) rfl wk_2_42 wk_2_43 wk_2_44 wk_1_4 wk_2_45 hd_X1_leastSpare ⟨(Nat.le_of_ble_eq_true rfl), (Nat.le_of_ble_eq_true rfl)⟩ (Nat.le_of_ble_eq_true rfl) ⟨(Nat.le_of_ble_eq_true rfl), (Nat.le_of_ble_eq_true rfl)⟩ dX1_claimOfOwner_78 rfl rfl ?_
  refine gq_istore (lv' := [(9, .int x21), (8, .int x18), (7, .int x15), (6, .int x12), (5, .int x9), (4, .int x6), (3, .int x3), (0, .ref (eB E + t)), (1, .int p1), (2, .int p2)]) C dX1_claimOfOwner_81 (by decide) rfl ?_
  refine gq_iload C dX1_claimOfOwner_83 0 rfl ?_
  refine gq_iload C dX1_claimOfOwner_85 1 rfl ?_
  refine gq_iload C dX1_claimOfOwner_87 4 rfl ?_
  refine gq_iload C dX1_claimOfOwner_89 3 rfl ?_
  obtain ⟨x24, eo23, z22⟩ := bind_ex z19
  refine gq_S (As := [.int x21, .int x18, .int x9, .int x12]) (rest := []) C (c_X1_mostThatLowersBy hN  eo23) wk_2_78 wk_2_79 wk_1_4 wk_2_80 hd_X1_mostThatLowersBy ⟨(Nat.le_of_ble_eq_true rfl), (Nat.le_of_ble_eq_true rfl)⟩ (Nat.le_of_ble_eq_true rfl) ⟨(Nat.le_of_ble_eq_true rfl), (Nat.le_of_ble_eq_true rfl)⟩ dX1_claimOfOwner_91 rfl rfl ?_
  refine gq_istore (lv' := [(10, .int x24), (9, .int x21), (8, .int x18), (7, .int x15), (6, .int x12), (5, .int x9), (4, .int x6), (3, .int x3), (0, .ref (eB E + t)), (1, .int p1), (2, .int p2)]) C dX1_claimOfOwner_94 (by decide) rfl ?_
  refine gq_aload_n C dX1_claimOfOwner_96 rfl 8 rfl ?_
  refine gq_iconst (v := 0) C dX1_claimOfOwner_97 (by decide) ?_
  refine gq_iload_n C dX1_claimOfOwner_98 rfl 9 rfl ?_
  refine gq_iload_n C dX1_claimOfOwner_99 rfl 7 rfl ?_
  refine gq_iload C dX1_claimOfOwner_100 6 rfl ?_
  obtain ⟨⟨x27, m28⟩, eo26, z25⟩ := bind_ex z22
  dsimp only at z25
  refine gq_V (As := [.int (0 : Int32), .int p1, .int x3, .int x6]) (rest := []) C (c_X1_addClaim hN k_t eo26) (st_n k_t hN 0 (by decide)) k_t (by decide) rfl wk_2_49 wk_2_51 ws_X1_addClaim wk_1_4 wk_2_52 hd_X1_addClaim ⟨(Nat.le_of_ble_eq_true rfl), (Nat.le_of_ble_eq_true rfl)⟩ (Nat.le_of_ble_eq_true rfl) ⟨(Nat.le_of_ble_eq_true rfl), (Nat.le_of_ble_eq_true rfl)⟩ dX1_claimOfOwner_102 rfl rfl ?_
  refine gq_istore (lv' := [(11, .int x27), (10, .int x24), (9, .int x21), (8, .int x18), (7, .int x15), (6, .int x12), (5, .int x9), (4, .int x6), (3, .int x3), (0, .ref (eB E + t)), (1, .int p1), (2, .int p2)]) C dX1_claimOfOwner_105 (by decide) rfl ?_
  refine gq_aload_n C dX1_claimOfOwner_107 rfl 9 rfl ?_
  refine gq_iload C dX1_claimOfOwner_108 0 rfl ?_
  refine gq_iload_n C dX1_claimOfOwner_110 rfl 11 rfl ?_
  refine gq_iload C dX1_claimOfOwner_111 1 rfl ?_
  obtain ⟨m31, eo30, z29⟩ := bind_ex z25
  refine gq_V (As := [.int x27, .int p2, .int x24]) (rest := []) C (c_X1_divert hN k_t eo30) (st_n k_t hN 0 (by decide)) k_t (by decide) rfl wk_2_53 wk_2_55 ws_X1_divert wk_1_4 wk_2_56 hd_X1_divert ⟨(Nat.le_of_ble_eq_true rfl), (Nat.le_of_ble_eq_true rfl)⟩ (Nat.le_of_ble_eq_true rfl) ⟨(Nat.le_of_ble_eq_true rfl), (Nat.le_of_ble_eq_true rfl)⟩ dX1_claimOfOwner_113 rfl rfl ?_
  refine gq_iload C dX1_claimOfOwner_116 1 rfl ?_
  refine gq_iload C dX1_claimOfOwner_118 6 rfl ?_
  obtain ⟨x34, eo33, z32⟩ := bind_ex z29
  refine gq_S (As := [.int x24, .int x9]) (rest := []) C (c_X1_percentOf hN  eo33) wk_2_39 wk_2_40 wk_1_4 wk_2_41 hd_X1_percentOf ⟨(Nat.le_of_ble_eq_true rfl), (Nat.le_of_ble_eq_true rfl)⟩ (Nat.le_of_ble_eq_true rfl) ⟨(Nat.le_of_ble_eq_true rfl), (Nat.le_of_ble_eq_true rfl)⟩ dX1_claimOfOwner_120 rfl rfl ?_
  refine gq_istore (lv' := [(12, .int x34), (11, .int x27), (10, .int x24), (9, .int x21), (8, .int x18), (7, .int x15), (6, .int x12), (5, .int x9), (4, .int x6), (3, .int x3), (0, .ref (eB E + t)), (1, .int p1), (2, .int p2)]) C dX1_claimOfOwner_123 (by decide) rfl ?_
  refine gq_aload_n C dX1_claimOfOwner_125 rfl 10 rfl ?_
  refine gq_iload C dX1_claimOfOwner_126 1 rfl ?_
  refine gq_iload_n C dX1_claimOfOwner_128 rfl 9 rfl ?_
  refine gq_iload C dX1_claimOfOwner_129 0 rfl ?_
  obtain ⟨m37, eo36, z35⟩ := bind_ex z32
  refine gq_V (As := [.int x27, .int x3, .int x34]) (rest := []) C (c_X1_putInBank hN k_t eo36) (st_n k_t hN 0 (by decide)) k_t (by decide) rfl wk_2_81 wk_2_83 ws_X1_putInBank wk_1_4 wk_2_84 hd_X1_putInBank ⟨(Nat.le_of_ble_eq_true rfl), (Nat.le_of_ble_eq_true rfl)⟩ (Nat.le_of_ble_eq_true rfl) ⟨(Nat.le_of_ble_eq_true rfl), (Nat.le_of_ble_eq_true rfl)⟩ dX1_claimOfOwner_131 rfl rfl ?_
  refine gq_aload_n C dX1_claimOfOwner_134 rfl 10 rfl ?_
  refine gq_iload C dX1_claimOfOwner_135 1 rfl ?_
  refine gq_iload C dX1_claimOfOwner_137 5 rfl ?_
  refine gq_iload C dX1_claimOfOwner_139 2 rfl ?_
  refine gq_iload C dX1_claimOfOwner_141 0 rfl ?_
  refine gq_isub C dX1_claimOfOwner_143 ?_
  refine gq_iload C dX1_claimOfOwner_144 6 rfl ?_
  obtain ⟨x40, eo39, z38⟩ := bind_ex z35
  refine gq_S (As := [.int (x24 - x34), .int x12]) (rest := [.int x15, .int x27, .ref (eB E + t)]) C (c_X1_percentOf hN  eo39) wk_2_39 wk_2_40 wk_1_4 wk_2_41 hd_X1_percentOf ⟨(Nat.le_of_ble_eq_true rfl), (Nat.le_of_ble_eq_true rfl)⟩ (Nat.le_of_ble_eq_true rfl) ⟨(Nat.le_of_ble_eq_true rfl), (Nat.le_of_ble_eq_true rfl)⟩ dX1_claimOfOwner_146 rfl rfl ?_
  obtain ⟨m43, eo42, z41⟩ := bind_ex z38
  refine gq_V (As := [.int x27, .int x15, .int x40]) (rest := []) C (c_X1_giveBack hN k_t eo42) (st_n k_t hN 0 (by decide)) k_t (by decide) rfl wk_2_85 wk_2_87 ws_X1_giveBack wk_1_4 wk_2_88 hd_X1_giveBack ⟨(Nat.le_of_ble_eq_true rfl), (Nat.le_of_ble_eq_true rfl)⟩ (Nat.le_of_ble_eq_true rfl) ⟨(Nat.le_of_ble_eq_true rfl), (Nat.le_of_ble_eq_true rfl)⟩ dX1_claimOfOwner_149 rfl rfl ?_
  cases z41
  exact gq_vret C hr dX1_claimOfOwner_152 (Nat.le_of_ble_eq_true rfl) (Nat.le_of_ble_eq_true rfl)
