abbrev rm_X4_remembers : Room := { frames := 3, cells := 0, slots := 0, locals := 66 }
def F_X4_remembers_4 (u1 : Int32) : Nat → Int32 → Mm → Option Mm
  | 0, _, _ => none
  | n + 1, v2, μ =>
  if v2 < (429 : Int32) then
  (some μ)
  else
  ((aI μ 296 (v2 - (4 : Int32))).bind fun x3 =>
  (sI μ 296 v2 x3).bind fun m5 =>
  F_X4_remembers_4 u1 n (v2 + (-1)) m5)
def F_X4_remembers (p1 : Int32) (μ : Mm) : Option Mm :=
  (F_X4_remembers_4 p1 qFuel (520 : Int32) μ).bind fun o8 =>
  (aI o8 296 (5 : Int32)).bind fun x10 =>
  (sI o8 296 (425 : Int32) (x10 - (1 : Int32))).bind fun m12 =>
  (sI m12 296 (426 : Int32) p1).bind fun m14 =>
  (F_X4_outflowNow  m14).bind fun o17 =>
  (sI m14 296 (427 : Int32) o17).bind fun m19 =>
  (F_X4_calledNow  m19).bind fun o22 =>
  (sI m19 296 (428 : Int32) o22).bind fun m24 =>
  (aI m24 296 (424 : Int32)).bind fun x26 =>
  (F_X4_lesser (24 : Int32) (x26 + (1 : Int32)) m24).bind fun o29 =>
  (sI m24 296 (424 : Int32) o29).bind fun m31 =>
  some m31
set_option maxHeartbeats 4000000 in
set_option maxRecDepth 100000 in
theorem l_X4_remembers_4 {l : Launch} {E : Ev} (hN : 311 ≤ eN E) {p : Program} {e : Env} {s : State} {m : MethodId} {args : Array Value} {below : List Frame} {meth : Method} {c : Code} (C : Cq E p s m args meth c cX4_remembers 3 RX4) {Q : State → Prop} {u1 : Int32} : ∀ (n : Nat) (v2 : Int32) (μ : Mm) (μx : Mm), F_X4_remembers_4 u1 n v2 μ = some μx → Gq E p l e rm_X4_remembers s m args below meth c 0 0 3 Q 31 [(0, .ref (eB E + 295)), (1, .int u1)] [] μx → Gq E p l e rm_X4_remembers s m args below meth c 0 0 3 Q 4 [(0, .ref (eB E + 295)), (1, .int u1), (2, .int v2)] [] μ := by
  intro n
  induction n with
  | zero =>
    intro v2 μ μx z0 kk
    rw [F_X4_remembers_4] at z0
    cases z0
  | succ n ih =>
    intro v2 μ μx z0 kk
    rw [F_X4_remembers_4] at z0
    refine gq_iload_n C dX4_remembers_4 rfl 2 rfl ?_
    refine gq_sipush (v := 429) C dX4_remembers_5 (by decide) ?_
    rcases ite_ex z0 with ⟨c1, z2⟩ | ⟨c1, z2⟩
    · refine gq_icmp_lt_t (tgt := 31) C dX4_remembers_8 (by decide) c1 ?_
      cases z2
      exact gq_widen (Nat.le_of_ble_eq_true rfl) (Nat.le_of_ble_eq_true rfl) (gq_sub [0, 1] rfl kk)
    · refine gq_icmp_lt_f (tgt := 31) C dX4_remembers_8 (by decide) c1 ?_
      refine gq_aload_n C dX4_remembers_11 rfl 0 rfl ?_
      refine gq_get5 C (qn_m 295 (by decide) hN) (by decide) 1 (by decide) wk_6_163 rfl dX4_remembers_12 ?_
      refine gq_iload_n C dX4_remembers_15 rfl 2 rfl ?_
      refine gq_aload_n C dX4_remembers_16 rfl 0 rfl ?_
      refine gq_get5 C (qn_m 295 (by decide) hN) (by decide) 1 (by decide) wk_6_163 rfl dX4_remembers_17 ?_
      refine gq_iload_n C dX4_remembers_20 rfl 2 rfl ?_
      refine gq_iconst (v := 4) C dX4_remembers_21 (by decide) ?_
      refine gq_isub C dX4_remembers_22 ?_
      obtain ⟨x3, ex3, z4⟩ := bind_ex z2
      refine gq_ialoadI C (qn_m 296 (by decide) hN) (by decide) ex3 dX4_remembers_23 ?_
      obtain ⟨m5, em5, z6⟩ := bind_ex z4
      refine gq_iastore C (qn_m 296 (by decide) hN) (by decide) em5 dX4_remembers_24 ?_
      refine gq_iinc (v := (v2 + (-1))) (lv' := [(2, .int (v2 + (-1))), (0, .ref (eB E + 295)), (1, .int u1)]) (q := 2) C dX4_remembers_25 rfl rfl (by decide) rfl ?_
      refine gq_goto (tgt := 4) C dX4_remembers_28 (by decide) ?_
      refine gq_widen (k' := 0) (n' := 0) (Nat.le_of_ble_eq_true rfl) (Nat.le_of_ble_eq_true rfl) (gq_sub [1, 2, 0] rfl ?_)
      exact ih _ _ _ z6 kk
set_option maxHeartbeats 4000000 in
set_option maxRecDepth 100000 in
theorem c_X4_remembers {l : Launch} {E : Ev} (hN : 311 ≤ eN E) {p1 : Int32} {μ : Mm} {μ' : Mm} (z0 : F_X4_remembers p1 μ = some μ') : Ct l E yX4_remembers (Cond.code yX4_remembers cX4_remembers 3 none :: GW) rm_X4_remembers [.ref (eB E + 295), .int p1] μ none μ' := by
  refine ct_of (by decide) (Nat.le_of_ble_eq_true rfl) (fun p e s m args below meth c C hr => ?_)
  have C : Cq E p s m args meth c cX4_remembers 3 RX4 := C
  refine gq_lv (lv' := [(0, .ref (eB E + 295)), (1, .int p1)]) rfl ?_
  unfold F_X4_remembers at z0
  refine gq_sipush (v := 520) C dX4_remembers_0 (by decide) ?_
  refine gq_istore_n (lv' := [(2, .int (520 : Int32)), (0, .ref (eB E + 295)), (1, .int p1)]) C dX4_remembers_3 rfl (by decide) rfl ?_
  obtain ⟨m9, eo8, z7⟩ := bind_ex z0
  refine gq_widen (k' := 0) (n' := 0) (Nat.le_of_ble_eq_true rfl) (Nat.le_of_ble_eq_true rfl) (gq_sub [1, 2, 0] rfl ?_)
  refine l_X4_remembers_4 hN C  qFuel _ _ _ eo8 ?_
  refine gq_aload_n C dX4_remembers_31 rfl 0 rfl ?_
  refine gq_get5 C (qn_m 295 (by decide) hN) (by decide) 1 (by decide) wk_6_163 rfl dX4_remembers_32 ?_
  refine gq_sipush (v := 425) C dX4_remembers_35 (by decide) ?_
  refine gq_aload_n C dX4_remembers_38 rfl 0 rfl ?_
  refine gq_get5 C (qn_m 295 (by decide) hN) (by decide) 1 (by decide) wk_6_163 rfl dX4_remembers_39 ?_
  refine gq_iconst (v := 5) C dX4_remembers_42 (by decide) ?_
  obtain ⟨x10, ex10, z11⟩ := bind_ex z7
  refine gq_ialoadI C (qn_m 296 (by decide) hN) (by decide) ex10 dX4_remembers_43 ?_
  refine gq_iconst (v := 1) C dX4_remembers_44 (by decide) ?_
  refine gq_isub C dX4_remembers_45 ?_
  obtain ⟨m12, em12, z13⟩ := bind_ex z11
  refine gq_iastore C (qn_m 296 (by decide) hN) (by decide) em12 dX4_remembers_46 ?_
  refine gq_aload_n C dX4_remembers_47 rfl 0 rfl ?_
  refine gq_get5 C (qn_m 295 (by decide) hN) (by decide) 1 (by decide) wk_6_163 rfl dX4_remembers_48 ?_
  refine gq_sipush (v := 426) C dX4_remembers_51 (by decide) ?_
  refine gq_iload_n C dX4_remembers_54 rfl 1 rfl ?_
  obtain ⟨m14, em14, z15⟩ := bind_ex z13
  refine gq_iastore C (qn_m 296 (by decide) hN) (by decide) em14 dX4_remembers_55 ?_
  refine gq_aload_n C dX4_remembers_56 rfl 0 rfl ?_
  refine gq_get5 C (qn_m 295 (by decide) hN) (by decide) 1 (by decide) wk_6_163 rfl dX4_remembers_57 ?_
  refine gq_sipush (v := 427) C dX4_remembers_60 (by decide) ?_
  refine gq_aload_n C dX4_remembers_63 rfl 0 rfl ?_
  obtain ⟨x18, eo17, z16⟩ := bind_ex z15
  refine gq_V (As := []) (rest := [.int (427 : Int32), .ref (eB E + 296)]) (j := 5) C (c_X4_outflowNow hN  eo17) (qn_m 295 (by decide) hN) (by decide) (by decide) rfl wk_8_19 wk_8_21 ws_X4_outflowNow wk_1_9 wk_8_22 hd_X4_outflowNow ⟨(Nat.le_of_ble_eq_true rfl), (Nat.le_of_ble_eq_true rfl)⟩ (Nat.le_of_ble_eq_true rfl) ⟨(Nat.le_of_ble_eq_true rfl), (Nat.le_of_ble_eq_true rfl)⟩ dX4_remembers_64 rfl rfl ?_
  obtain ⟨m19, em19, z20⟩ := bind_ex z16
  refine gq_iastore C (qn_m 296 (by decide) hN) (by decide) em19 dX4_remembers_67 ?_
  refine gq_aload_n C dX4_remembers_68 rfl 0 rfl ?_
  refine gq_get5 C (qn_m 295 (by decide) hN) (by decide) 1 (by decide) wk_6_163 rfl dX4_remembers_69 ?_
  refine gq_sipush (v := 428) C dX4_remembers_72 (by decide) ?_
  refine gq_aload_n C dX4_remembers_75 rfl 0 rfl ?_
  obtain ⟨x23, eo22, z21⟩ := bind_ex z20
  refine gq_V (As := []) (rest := [.int (428 : Int32), .ref (eB E + 296)]) (j := 5) C (c_X4_calledNow hN  eo22) (qn_m 295 (by decide) hN) (by decide) (by decide) rfl wk_8_124 wk_8_126 ws_X4_calledNow wk_1_9 wk_8_127 hd_X4_calledNow ⟨(Nat.le_of_ble_eq_true rfl), (Nat.le_of_ble_eq_true rfl)⟩ (Nat.le_of_ble_eq_true rfl) ⟨(Nat.le_of_ble_eq_true rfl), (Nat.le_of_ble_eq_true rfl)⟩ dX4_remembers_76 rfl rfl ?_
  obtain ⟨m24, em24, z25⟩ := bind_ex z21
  refine gq_iastore C (qn_m 296 (by decide) hN) (by decide) em24 dX4_remembers_79 ?_
  refine gq_aload_n C dX4_remembers_80 rfl 0 rfl ?_
  refine gq_get5 C (qn_m 295 (by decide) hN) (by decide) 1 (by decide) wk_6_163 rfl dX4_remembers_81 ?_
  refine gq_sipush (v := 424) C dX4_remembers_84 (by decide) ?_
  refine gq_bipush (v := 24) C dX4_remembers_87 (by decide) ?_
  refine gq_aload_n C dX4_remembers_89 rfl 0 rfl ?_
  refine gq_get5 C (qn_m 295 (by decide) hN) (by decide) 1 (by decide) wk_6_163 rfl dX4_remembers_90 ?_
  refine gq_sipush (v := 424) C dX4_remembers_93 (by decide) ?_
  obtain ⟨x26, ex26, z27⟩ := bind_ex z25
  refine gq_ialoadI C (qn_m 296 (by decide) hN) (by decide) ex26 dX4_remembers_96 ?_
  refine gq_iconst (v := 1) C dX4_remembers_97 (by decide) ?_
  refine gq_iadd C dX4_remembers_98 ?_
  obtain ⟨x30, eo29, z28⟩ := bind_ex z27
  refine gq_S (As := [.int (24 : Int32), .int (x26 + (1 : Int32))]) (rest := [.int (424 : Int32), .ref (eB E + 296)]) C (c_X4_lesser hN  eo29) wk_8_109 wk_8_110 wk_1_9 wk_8_111 hd_X4_lesser ⟨(Nat.le_of_ble_eq_true rfl), (Nat.le_of_ble_eq_true rfl)⟩ (Nat.le_of_ble_eq_true rfl) ⟨(Nat.le_of_ble_eq_true rfl), (Nat.le_of_ble_eq_true rfl)⟩ dX4_remembers_99 rfl rfl ?_
  obtain ⟨m31, em31, z32⟩ := bind_ex z28
  refine gq_iastore C (qn_m 296 (by decide) hN) (by decide) em31 dX4_remembers_102 ?_
  cases z32
  exact gq_vret C hr dX4_remembers_103 (Nat.le_of_ble_eq_true rfl) (Nat.le_of_ble_eq_true rfl)
abbrev rm_X4_month : Room := { frames := 4, cells := 0, slots := 0, locals := 106 }
def F_X4_month_14  : Nat → Int32 → Mm → Option Mm
  | 0, _, _ => none
  | n + 1, v1, μ =>
  (aI μ 296 (4 : Int32)).bind fun x6 =>
  if x6 ≤ v1 then
  (some μ)
  else
  ((aI μ 296 (5 : Int32)).bind fun x10 =>
  if (x10 - x10 / (12 : Int32) * (12 : Int32)) = 0 then
  ((F_X4_optionOf v1 (1 : Int32) μ).bind fun o15 =>
  (F_X4_optionOf v1 (0 : Int32) μ).bind fun o18 =>
  (F_X4_rightOf o18 (0 : Int32) μ).bind fun o21 =>
  (F_X4_optionOf v1 (4 : Int32) μ).bind fun o24 =>
  (F_X4_pays o15 o21 (Int32.toInt64 o24) μ).bind fun o27 =>
  F_X4_month_14 n (v1 + 1) o27)
  else
  (some μ))
def F_X4_month_72  : Nat → Int32 → Mm → Option Mm
  | 0, _, _ => none
  | n + 1, v1, μ =>
  (aI μ 296 (2 : Int32)).bind fun x32 =>
  if x32 ≤ v1 then
  (some μ)
  else
  ((F_X4_seniorAt v1 μ).bind fun o37 =>
  (F_X4_claimsOf o37 μ).bind fun o40 =>
  F_X4_month_72 n (v1 + 1) o40)
def F_X4_month_99  : Nat → Int32 → Mm → Option Mm
  | 0, _, _ => none
  | n + 1, v1, μ =>
  (aI μ 296 (2 : Int32)).bind fun x45 =>
  if x45 ≤ v1 then
  (some μ)
  else
  ((F_X4_rightAt v1 (9 : Int32) μ).bind fun o50 =>
  (aI μ 296 o50).bind fun x52 =>
  (aI μ 308 v1).bind fun x54 =>
  (if x54 = 0 then
  (some (0 : Int32))
  else
  (some (1 : Int32))).bind fun o61 =>
  (sI μ 296 o50 (x52 + o61)).bind fun m62 =>
  F_X4_month_99 n (v1 + 1) m62)
def F_X4_month_151  (μ : Mm) : Nat → Int32 → Int32 → Option Int32
  | 0, _, _ => none
  | n + 1, v1, v2 =>
  (aI μ 296 (56 : Int32)).bind fun x70 =>
  if x70 ≤ v2 then
  (some v1)
  else
  ((F_X4_claimOf v2 (5 : Int32) μ).bind fun o75 =>
  F_X4_month_151 μ n (v1 + o75) (v2 + 1))
def F_X4_month  (μ : Mm) : Option (Int32 × Mm) :=
  (F_X4_laysFlows  μ).bind fun o2 =>
  (sI o2 296 (56 : Int32) (0 : Int32)).bind fun m4 =>
  (F_X4_month_14 qFuel (0 : Int32) m4).bind fun o30 =>
  (F_X4_month_72 qFuel (0 : Int32) o30).bind fun o43 =>
  (F_X4_month_99 qFuel (0 : Int32) o43).bind fun o65 =>
  (F_X4_endsMonth  o65).bind fun o68 =>
  (F_X4_month_151 o68 qFuel (0 : Int32) (0 : Int32)).bind fun o78 =>
  (F_X4_remembers o78 o68).bind fun o81 =>
  some (o78, o81)
set_option maxHeartbeats 4000000 in
set_option maxRecDepth 100000 in
theorem l_X4_month_14 {l : Launch} {E : Ev} (hN : 311 ≤ eN E) {p : Program} {e : Env} {s : State} {m : MethodId} {args : Array Value} {below : List Frame} {meth : Method} {c : Code} (C : Cq E p s m args meth c cX4_month 3 RX4) {Q : State → Prop} : ∀ (n : Nat) (v1 : Int32) (μ : Mm) (μx : Mm), F_X4_month_14 n v1 μ = some μx → Gq E p l e rm_X4_month s m args below meth c 0 0 3 Q 70 [(0, .ref (eB E + 295))] [] μx → Gq E p l e rm_X4_month s m args below meth c 0 0 3 Q 14 [(0, .ref (eB E + 295)), (1, .int v1)] [] μ := by
  intro n
  induction n with
  | zero =>
    intro v1 μ μx z0 kk
    rw [F_X4_month_14] at z0
    cases z0
  | succ n ih =>
    intro v1 μ μx z0 kk
    rw [F_X4_month_14] at z0
    refine gq_iload_n C dX4_month_14 rfl 1 rfl ?_
    refine gq_aload_n C dX4_month_15 rfl 0 rfl ?_
    refine gq_get5 C (qn_m 295 (by decide) hN) (by decide) 1 (by decide) wk_6_163 rfl dX4_month_16 ?_
    refine gq_iconst (v := 4) C dX4_month_19 (by decide) ?_
    obtain ⟨x6, ex6, z7⟩ := bind_ex z0
    refine gq_ialoadI C (qn_m 296 (by decide) hN) (by decide) ex6 dX4_month_20 ?_
    rcases ite_ex z7 with ⟨c8, z9⟩ | ⟨c8, z9⟩
    · refine gq_icmp_ge_t (tgt := 70) C dX4_month_21 (by decide) c8 ?_
      cases z9
      exact gq_widen (Nat.le_of_ble_eq_true rfl) (Nat.le_of_ble_eq_true rfl) (gq_sub [0] rfl kk)
    · refine gq_icmp_ge_f (tgt := 70) C dX4_month_21 (by decide) c8 ?_
      refine gq_aload_n C dX4_month_24 rfl 0 rfl ?_
      refine gq_get5 C (qn_m 295 (by decide) hN) (by decide) 1 (by decide) wk_6_163 rfl dX4_month_25 ?_
      refine gq_iconst (v := 5) C dX4_month_28 (by decide) ?_
      obtain ⟨x10, ex10, z11⟩ := bind_ex z9
      refine gq_ialoadI C (qn_m 296 (by decide) hN) (by decide) ex10 dX4_month_29 ?_
      refine gq_bipush (v := 12) C dX4_month_30 (by decide) ?_
      refine gq_irem C dX4_month_32 (by decide) ?_
      rcases ite_ex z11 with ⟨c12, z13⟩ | ⟨c12, z13⟩
      · refine gq_if_ne_f (tgt := 70) C dX4_month_33 (by decide) c12 ?_
        refine gq_aload_n C dX4_month_36 rfl 0 rfl ?_
        refine gq_aload_n C dX4_month_37 rfl 0 rfl ?_
        refine gq_iload_n C dX4_month_38 rfl 1 rfl ?_
        refine gq_iconst (v := 1) C dX4_month_39 (by decide) ?_
        obtain ⟨x16, eo15, z14⟩ := bind_ex z13
        refine gq_V (As := [.int v1, .int (1 : Int32)]) (rest := [.ref (eB E + 295)]) (j := 5) C (c_X4_optionOf hN  eo15) (qn_m 295 (by decide) hN) (by decide) (by decide) rfl wk_7_207 wk_7_209 ws_X4_optionOf wk_1_9 wk_7_210 hd_X4_optionOf ⟨(Nat.le_of_ble_eq_true rfl), (Nat.le_of_ble_eq_true rfl)⟩ (Nat.le_of_ble_eq_true rfl) ⟨(Nat.le_of_ble_eq_true rfl), (Nat.le_of_ble_eq_true rfl)⟩ dX4_month_40 rfl rfl ?_
        refine gq_aload_n C dX4_month_43 rfl 0 rfl ?_
        refine gq_aload_n C dX4_month_44 rfl 0 rfl ?_
        refine gq_iload_n C dX4_month_45 rfl 1 rfl ?_
        refine gq_iconst (v := 0) C dX4_month_46 (by decide) ?_
        obtain ⟨x19, eo18, z17⟩ := bind_ex z14
        refine gq_V (As := [.int v1, .int (0 : Int32)]) (rest := [.ref (eB E + 295), .int x16, .ref (eB E + 295)]) (j := 5) C (c_X4_optionOf hN  eo18) (qn_m 295 (by decide) hN) (by decide) (by decide) rfl wk_7_207 wk_7_209 ws_X4_optionOf wk_1_9 wk_7_210 hd_X4_optionOf ⟨(Nat.le_of_ble_eq_true rfl), (Nat.le_of_ble_eq_true rfl)⟩ (Nat.le_of_ble_eq_true rfl) ⟨(Nat.le_of_ble_eq_true rfl), (Nat.le_of_ble_eq_true rfl)⟩ dX4_month_47 rfl rfl ?_
        refine gq_iconst (v := 0) C dX4_month_50 (by decide) ?_
        obtain ⟨x22, eo21, z20⟩ := bind_ex z17
        refine gq_V (As := [.int x19, .int (0 : Int32)]) (rest := [.int x16, .ref (eB E + 295)]) (j := 5) C (c_X4_rightOf hN  eo21) (qn_m 295 (by decide) hN) (by decide) (by decide) rfl wk_7_179 wk_7_181 ws_X4_rightOf wk_1_9 wk_7_182 hd_X4_rightOf ⟨(Nat.le_of_ble_eq_true rfl), (Nat.le_of_ble_eq_true rfl)⟩ (Nat.le_of_ble_eq_true rfl) ⟨(Nat.le_of_ble_eq_true rfl), (Nat.le_of_ble_eq_true rfl)⟩ dX4_month_51 rfl rfl ?_
        refine gq_aload_n C dX4_month_54 rfl 0 rfl ?_
        refine gq_iload_n C dX4_month_55 rfl 1 rfl ?_
        refine gq_iconst (v := 4) C dX4_month_56 (by decide) ?_
        obtain ⟨x25, eo24, z23⟩ := bind_ex z20
        refine gq_V (As := [.int v1, .int (4 : Int32)]) (rest := [.int x22, .int x16, .ref (eB E + 295)]) (j := 5) C (c_X4_optionOf hN  eo24) (qn_m 295 (by decide) hN) (by decide) (by decide) rfl wk_7_207 wk_7_209 ws_X4_optionOf wk_1_9 wk_7_210 hd_X4_optionOf ⟨(Nat.le_of_ble_eq_true rfl), (Nat.le_of_ble_eq_true rfl)⟩ (Nat.le_of_ble_eq_true rfl) ⟨(Nat.le_of_ble_eq_true rfl), (Nat.le_of_ble_eq_true rfl)⟩ dX4_month_57 rfl rfl ?_
        refine gq_i2l C dX4_month_60 ?_
        obtain ⟨m28, eo27, z26⟩ := bind_ex z23
        refine gq_V (As := [.int x16, .int x22, .long (Int32.toInt64 x25)]) (rest := []) (j := 5) C (c_X4_pays hN  eo27) (qn_m 295 (by decide) hN) (by decide) (by decide) rfl wk_8_83 wk_8_85 ws_X4_pays wk_1_9 wk_8_86 hd_X4_pays ⟨(Nat.le_of_ble_eq_true rfl), (Nat.le_of_ble_eq_true rfl)⟩ (Nat.le_of_ble_eq_true rfl) ⟨(Nat.le_of_ble_eq_true rfl), (Nat.le_of_ble_eq_true rfl)⟩ dX4_month_61 rfl rfl ?_
        refine gq_iinc (v := (v1 + 1)) (lv' := [(1, .int (v1 + 1)), (0, .ref (eB E + 295))]) (q := 1) C dX4_month_64 rfl rfl (by decide) rfl ?_
        refine gq_goto (tgt := 14) C dX4_month_67 (by decide) ?_
        refine gq_widen (k' := 0) (n' := 0) (Nat.le_of_ble_eq_true rfl) (Nat.le_of_ble_eq_true rfl) (gq_sub [1, 0] rfl ?_)
        exact ih _ _ _ z26 kk
      · refine gq_if_ne_t (tgt := 70) C dX4_month_33 (by decide) c12 ?_
        cases z13
        exact gq_widen (Nat.le_of_ble_eq_true rfl) (Nat.le_of_ble_eq_true rfl) (gq_sub [0] rfl kk)
set_option maxHeartbeats 4000000 in
set_option maxRecDepth 100000 in
theorem l_X4_month_72 {l : Launch} {E : Ev} (hN : 311 ≤ eN E) {p : Program} {e : Env} {s : State} {m : MethodId} {args : Array Value} {below : List Frame} {meth : Method} {c : Code} (C : Cq E p s m args meth c cX4_month 3 RX4) {Q : State → Prop} : ∀ (n : Nat) (v1 : Int32) (μ : Mm) (μx : Mm), F_X4_month_72 n v1 μ = some μx → Gq E p l e rm_X4_month s m args below meth c 0 0 3 Q 97 [(0, .ref (eB E + 295))] [] μx → Gq E p l e rm_X4_month s m args below meth c 0 0 3 Q 72 [(0, .ref (eB E + 295)), (1, .int v1)] [] μ := by
  intro n
  induction n with
  | zero =>
    intro v1 μ μx z0 kk
    rw [F_X4_month_72] at z0
    cases z0
  | succ n ih =>
    intro v1 μ μx z0 kk
    rw [F_X4_month_72] at z0
    refine gq_iload_n C dX4_month_72 rfl 1 rfl ?_
    refine gq_aload_n C dX4_month_73 rfl 0 rfl ?_
    refine gq_get5 C (qn_m 295 (by decide) hN) (by decide) 1 (by decide) wk_6_163 rfl dX4_month_74 ?_
    refine gq_iconst (v := 2) C dX4_month_77 (by decide) ?_
    obtain ⟨x32, ex32, z33⟩ := bind_ex z0
    refine gq_ialoadI C (qn_m 296 (by decide) hN) (by decide) ex32 dX4_month_78 ?_
    rcases ite_ex z33 with ⟨c34, z35⟩ | ⟨c34, z35⟩
    · refine gq_icmp_ge_t (tgt := 97) C dX4_month_79 (by decide) c34 ?_
      cases z35
      exact gq_widen (Nat.le_of_ble_eq_true rfl) (Nat.le_of_ble_eq_true rfl) (gq_sub [0] rfl kk)
    · refine gq_icmp_ge_f (tgt := 97) C dX4_month_79 (by decide) c34 ?_
      refine gq_aload_n C dX4_month_82 rfl 0 rfl ?_
      refine gq_aload_n C dX4_month_83 rfl 0 rfl ?_
      refine gq_iload_n C dX4_month_84 rfl 1 rfl ?_
      obtain ⟨x38, eo37, z36⟩ := bind_ex z35
      refine gq_V (As := [.int v1]) (rest := [.ref (eB E + 295)]) (j := 5) C (c_X4_seniorAt hN  eo37) (qn_m 295 (by decide) hN) (by decide) (by decide) rfl wk_7_187 wk_7_189 ws_X4_seniorAt wk_1_9 wk_7_190 hd_X4_seniorAt ⟨(Nat.le_of_ble_eq_true rfl), (Nat.le_of_ble_eq_true rfl)⟩ (Nat.le_of_ble_eq_true rfl) ⟨(Nat.le_of_ble_eq_true rfl), (Nat.le_of_ble_eq_true rfl)⟩ dX4_month_85 rfl rfl ?_
      obtain ⟨m41, eo40, z39⟩ := bind_ex z36
      refine gq_V (As := [.int x38]) (rest := []) (j := 5) C (c_X4_claimsOf hN  eo40) (qn_m 295 (by decide) hN) (by decide) (by decide) rfl wk_8_87 wk_8_89 ws_X4_claimsOf wk_1_9 wk_8_90 hd_X4_claimsOf ⟨(Nat.le_of_ble_eq_true rfl), (Nat.le_of_ble_eq_true rfl)⟩ (Nat.le_of_ble_eq_true rfl) ⟨(Nat.le_of_ble_eq_true rfl), (Nat.le_of_ble_eq_true rfl)⟩ dX4_month_88 rfl rfl ?_
      refine gq_iinc (v := (v1 + 1)) (lv' := [(1, .int (v1 + 1)), (0, .ref (eB E + 295))]) (q := 1) C dX4_month_91 rfl rfl (by decide) rfl ?_
      refine gq_goto (tgt := 72) C dX4_month_94 (by decide) ?_
      refine gq_widen (k' := 0) (n' := 0) (Nat.le_of_ble_eq_true rfl) (Nat.le_of_ble_eq_true rfl) (gq_sub [1, 0] rfl ?_)
      exact ih _ _ _ z39 kk
set_option maxHeartbeats 4000000 in
set_option maxRecDepth 100000 in
theorem l_X4_month_99 {l : Launch} {E : Ev} (hN : 311 ≤ eN E) {p : Program} {e : Env} {s : State} {m : MethodId} {args : Array Value} {below : List Frame} {meth : Method} {c : Code} (C : Cq E p s m args meth c cX4_month 3 RX4) {Q : State → Prop} : ∀ (n : Nat) (v1 : Int32) (μ : Mm) (μx : Mm), F_X4_month_99 n v1 μ = some μx → Gq E p l e rm_X4_month s m args below meth c 0 0 3 Q 143 [(0, .ref (eB E + 295))] [] μx → Gq E p l e rm_X4_month s m args below meth c 0 0 3 Q 99 [(0, .ref (eB E + 295)), (1, .int v1)] [] μ := by
  intro n
  induction n with
  | zero =>
    intro v1 μ μx z0 kk
    rw [F_X4_month_99] at z0
    cases z0
  | succ n ih =>
    intro v1 μ μx z0 kk
    rw [F_X4_month_99] at z0
    refine gq_iload_n C dX4_month_99 rfl 1 rfl ?_
    refine gq_aload_n C dX4_month_100 rfl 0 rfl ?_
    refine gq_get5 C (qn_m 295 (by decide) hN) (by decide) 1 (by decide) wk_6_163 rfl dX4_month_101 ?_
    refine gq_iconst (v := 2) C dX4_month_104 (by decide) ?_
    obtain ⟨x45, ex45, z46⟩ := bind_ex z0
    refine gq_ialoadI C (qn_m 296 (by decide) hN) (by decide) ex45 dX4_month_105 ?_
    rcases ite_ex z46 with ⟨c47, z48⟩ | ⟨c47, z48⟩
    · refine gq_icmp_ge_t (tgt := 143) C dX4_month_106 (by decide) c47 ?_
      cases z48
      exact gq_widen (Nat.le_of_ble_eq_true rfl) (Nat.le_of_ble_eq_true rfl) (gq_sub [0] rfl kk)
    · refine gq_icmp_ge_f (tgt := 143) C dX4_month_106 (by decide) c47 ?_
      refine gq_aload_n C dX4_month_109 rfl 0 rfl ?_
      refine gq_get5 C (qn_m 295 (by decide) hN) (by decide) 1 (by decide) wk_6_163 rfl dX4_month_110 ?_
      refine gq_iload_n C dX4_month_113 rfl 1 rfl ?_
      refine gq_bipush (v := 9) C dX4_month_114 (by decide) ?_
      obtain ⟨x51, eo50, z49⟩ := bind_ex z48
      refine gq_S (As := [.int v1, .int (9 : Int32)]) (rest := [.ref (eB E + 296)]) C (c_X4_rightAt hN  eo50) wk_7_88 wk_7_89 wk_1_9 wk_7_90 hd_X4_rightAt ⟨(Nat.le_of_ble_eq_true rfl), (Nat.le_of_ble_eq_true rfl)⟩ (Nat.le_of_ble_eq_true rfl) ⟨(Nat.le_of_ble_eq_true rfl), (Nat.le_of_ble_eq_true rfl)⟩ dX4_month_116 rfl rfl ?_
      refine gq_dup2 C dX4_month_119 ?_
      obtain ⟨x52, ex52, z53⟩ := bind_ex z49
      refine gq_ialoadI C (qn_m 296 (by decide) hN) (by decide) ex52 dX4_month_120 ?_
      refine gq_aload_n C dX4_month_121 rfl 0 rfl ?_
      refine gq_get5 C (qn_m 295 (by decide) hN) (by decide) 21 (by decide) wk_6_183 rfl dX4_month_122 ?_
      refine gq_iload_n C dX4_month_125 rfl 1 rfl ?_
      obtain ⟨x54, ex54, z55⟩ := bind_ex z53
      refine gq_baloadZ C (qn_m 308 (by decide) hN) (by decide) ex54 dX4_month_126 ?_
      obtain ⟨x56, z57, z58⟩ := bind_ex z55
      refine gq_join (k' := 0) (n' := 0) (pc' := 135) (lv' := [(0, .ref (eB E + 295)), (1, .int v1)]) (st' := [.int x56, .int x52, .int x51, .ref (eB E + 296)]) (μ' := μ) ?_ (fun J135 => ?_)
      · refine gq_iadd C dX4_month_135 ?_
        obtain ⟨m62, em62, z63⟩ := bind_ex z58
        refine gq_iastore C (qn_m 296 (by decide) hN) (by decide) em62 dX4_month_136 ?_
        refine gq_iinc (v := (v1 + 1)) (lv' := [(1, .int (v1 + 1)), (0, .ref (eB E + 295))]) (q := 1) C dX4_month_137 rfl rfl (by decide) rfl ?_
        refine gq_goto (tgt := 99) C dX4_month_140 (by decide) ?_
        refine gq_widen (k' := 0) (n' := 0) (Nat.le_of_ble_eq_true rfl) (Nat.le_of_ble_eq_true rfl) (gq_sub [1, 0] rfl ?_)
        exact ih _ _ _ z63 kk
      · rcases ite_ex z57 with ⟨c59, z60⟩ | ⟨c59, z60⟩
        · refine gq_if_eq_t (tgt := 134) C dX4_month_127 (by decide) c59 ?_
          refine gq_iconst (v := 0) C dX4_month_134 (by decide) ?_
          cases z60
          exact gq_widen (Nat.le_of_ble_eq_true rfl) (Nat.le_of_ble_eq_true rfl) (gq_sub [0, 1] rfl J135)
        · refine gq_if_eq_f (tgt := 134) C dX4_month_127 (by decide) c59 ?_
          refine gq_iconst (v := 1) C dX4_month_130 (by decide) ?_
          refine gq_goto (tgt := 135) C dX4_month_131 (by decide) ?_
          cases z60
          exact gq_widen (Nat.le_of_ble_eq_true rfl) (Nat.le_of_ble_eq_true rfl) (gq_sub [0, 1] rfl J135)
set_option maxHeartbeats 4000000 in
set_option maxRecDepth 100000 in
theorem l_X4_month_151 {l : Launch} {E : Ev} (hN : 311 ≤ eN E) {p : Program} {e : Env} {s : State} {m : MethodId} {args : Array Value} {below : List Frame} {meth : Method} {c : Code} (C : Cq E p s m args meth c cX4_month 3 RX4) {Q : State → Prop} {μ : Mm} : ∀ (n : Nat) (v1 : Int32) (v2 : Int32) (w1 : Int32), F_X4_month_151 μ n v1 v2 = some w1 → Gq E p l e rm_X4_month s m args below meth c 0 0 3 Q 177 [(0, .ref (eB E + 295)), (1, .int w1)] [] μ → Gq E p l e rm_X4_month s m args below meth c 0 0 3 Q 151 [(0, .ref (eB E + 295)), (1, .int v1), (2, .int v2)] [] μ := by
  intro n
  induction n with
  | zero =>
    intro v1 v2 w1 z0 kk
    rw [F_X4_month_151] at z0
    cases z0
  | succ n ih =>
    intro v1 v2 w1 z0 kk
    rw [F_X4_month_151] at z0
    refine gq_iload_n C dX4_month_151 rfl 2 rfl ?_
    refine gq_aload_n C dX4_month_152 rfl 0 rfl ?_
    refine gq_get5 C (qn_m 295 (by decide) hN) (by decide) 1 (by decide) wk_6_163 rfl dX4_month_153 ?_
    refine gq_bipush (v := 56) C dX4_month_156 (by decide) ?_
    obtain ⟨x70, ex70, z71⟩ := bind_ex z0
    refine gq_ialoadI C (qn_m 296 (by decide) hN) (by decide) ex70 dX4_month_158 ?_
    rcases ite_ex z71 with ⟨c72, z73⟩ | ⟨c72, z73⟩
    · refine gq_icmp_ge_t (tgt := 177) C dX4_month_159 (by decide) c72 ?_
      cases z73
      exact gq_widen (Nat.le_of_ble_eq_true rfl) (Nat.le_of_ble_eq_true rfl) (gq_sub [0, 1] rfl kk)
    · refine gq_icmp_ge_f (tgt := 177) C dX4_month_159 (by decide) c72 ?_
      refine gq_iload_n C dX4_month_162 rfl 1 rfl ?_
      refine gq_aload_n C dX4_month_163 rfl 0 rfl ?_
      refine gq_iload_n C dX4_month_164 rfl 2 rfl ?_
      refine gq_iconst (v := 5) C dX4_month_165 (by decide) ?_
      obtain ⟨x76, eo75, z74⟩ := bind_ex z73
      refine gq_V (As := [.int v2, .int (5 : Int32)]) (rest := [.int v1]) (j := 5) C (c_X4_claimOf hN  eo75) (qn_m 295 (by decide) hN) (by decide) (by decide) rfl wk_7_223 wk_7_225 ws_X4_claimOf wk_1_9 wk_7_226 hd_X4_claimOf ⟨(Nat.le_of_ble_eq_true rfl), (Nat.le_of_ble_eq_true rfl)⟩ (Nat.le_of_ble_eq_true rfl) ⟨(Nat.le_of_ble_eq_true rfl), (Nat.le_of_ble_eq_true rfl)⟩ dX4_month_166 rfl rfl ?_
      refine gq_iadd C dX4_month_169 ?_
      refine gq_istore_n (lv' := [(1, .int (v1 + x76)), (0, .ref (eB E + 295)), (2, .int v2)]) C dX4_month_170 rfl (by decide) rfl ?_
      refine gq_iinc (v := (v2 + 1)) (lv' := [(2, .int (v2 + 1)), (1, .int (v1 + x76)), (0, .ref (eB E + 295))]) (q := 2) C dX4_month_171 rfl rfl (by decide) rfl ?_
      refine gq_goto (tgt := 151) C dX4_month_174 (by decide) ?_
      refine gq_widen (k' := 0) (n' := 0) (Nat.le_of_ble_eq_true rfl) (Nat.le_of_ble_eq_true rfl) (gq_sub [2, 1, 0] rfl ?_)
      exact ih _ _ _ z74 kk
set_option maxHeartbeats 4000000 in
set_option maxRecDepth 100000 in
theorem c_X4_month {l : Launch} {E : Ev} (hN : 311 ≤ eN E) {μ : Mm} {r : Int32} {μ' : Mm} (z0 : F_X4_month  μ = some (r, μ')) : Ct l E yX4_month (Cond.code yX4_month cX4_month 3 (some .int) :: GW) rm_X4_month [.ref (eB E + 295)] μ (some (.int r)) μ' := by
  refine ct_of (by decide) (Nat.le_of_ble_eq_true rfl) (fun p e s m args below meth c C hr => ?_)
  have C : Cq E p s m args meth c cX4_month 3 RX4 := C
  refine gq_lv (lv' := [(0, .ref (eB E + 295))]) rfl ?_
  unfold F_X4_month at z0
  refine gq_aload_n C dX4_month_0 rfl 0 rfl ?_
  obtain ⟨m3, eo2, z1⟩ := bind_ex z0
  refine gq_V (As := []) (rest := []) (j := 5) C (c_X4_laysFlows hN  eo2) (qn_m 295 (by decide) hN) (by decide) (by decide) rfl wk_8_79 wk_8_81 ws_X4_laysFlows wk_1_9 wk_8_82 hd_X4_laysFlows ⟨(Nat.le_of_ble_eq_true rfl), (Nat.le_of_ble_eq_true rfl)⟩ (Nat.le_of_ble_eq_true rfl) ⟨(Nat.le_of_ble_eq_true rfl), (Nat.le_of_ble_eq_true rfl)⟩ dX4_month_1 rfl rfl ?_
  refine gq_aload_n C dX4_month_4 rfl 0 rfl ?_
  refine gq_get5 C (qn_m 295 (by decide) hN) (by decide) 1 (by decide) wk_6_163 rfl dX4_month_5 ?_
  refine gq_bipush (v := 56) C dX4_month_8 (by decide) ?_
  refine gq_iconst (v := 0) C dX4_month_10 (by decide) ?_
  obtain ⟨m4, em4, z5⟩ := bind_ex z1
  refine gq_iastore C (qn_m 296 (by decide) hN) (by decide) em4 dX4_month_11 ?_
  refine gq_iconst (v := 0) C dX4_month_12 (by decide) ?_
  refine gq_istore_n (lv' := [(1, .int (0 : Int32)), (0, .ref (eB E + 295))]) C dX4_month_13 rfl (by decide) rfl ?_
  obtain ⟨m31, eo30, z29⟩ := bind_ex z5
  refine gq_widen (k' := 0) (n' := 0) (Nat.le_of_ble_eq_true rfl) (Nat.le_of_ble_eq_true rfl) (gq_sub [1, 0] rfl ?_)
  refine l_X4_month_14 hN C  qFuel _ _ _ eo30 ?_
  refine gq_iconst (v := 0) C dX4_month_70 (by decide) ?_
  refine gq_istore_n (lv' := [(1, .int (0 : Int32)), (0, .ref (eB E + 295))]) C dX4_month_71 rfl (by decide) rfl ?_
  obtain ⟨m44, eo43, z42⟩ := bind_ex z29
  refine gq_widen (k' := 0) (n' := 0) (Nat.le_of_ble_eq_true rfl) (Nat.le_of_ble_eq_true rfl) (gq_sub [1, 0] rfl ?_)
  refine l_X4_month_72 hN C  qFuel _ _ _ eo43 ?_
  refine gq_iconst (v := 0) C dX4_month_97 (by decide) ?_
  refine gq_istore_n (lv' := [(1, .int (0 : Int32)), (0, .ref (eB E + 295))]) C dX4_month_98 rfl (by decide) rfl ?_
  obtain ⟨m66, eo65, z64⟩ := bind_ex z42
  refine gq_widen (k' := 0) (n' := 0) (Nat.le_of_ble_eq_true rfl) (Nat.le_of_ble_eq_true rfl) (gq_sub [1, 0] rfl ?_)
  refine l_X4_month_99 hN C  qFuel _ _ _ eo65 ?_
  refine gq_aload_n C dX4_month_143 rfl 0 rfl ?_
  obtain ⟨m69, eo68, z67⟩ := bind_ex z64
  refine gq_V (As := []) (rest := []) (j := 5) C (c_X4_endsMonth hN  eo68) (qn_m 295 (by decide) hN) (by decide) (by decide) rfl wk_8_116 wk_8_118 ws_X4_endsMonth wk_1_9 wk_8_119 hd_X4_endsMonth ⟨(Nat.le_of_ble_eq_true rfl), (Nat.le_of_ble_eq_true rfl)⟩ (Nat.le_of_ble_eq_true rfl) ⟨(Nat.le_of_ble_eq_true rfl), (Nat.le_of_ble_eq_true rfl)⟩ dX4_month_144 rfl rfl ?_
  refine gq_iconst (v := 0) C dX4_month_147 (by decide) ?_
  refine gq_istore_n (lv' := [(1, .int (0 : Int32)), (0, .ref (eB E + 295))]) C dX4_month_148 rfl (by decide) rfl ?_
  refine gq_iconst (v := 0) C dX4_month_149 (by decide) ?_
  refine gq_istore_n (lv' := [(2, .int (0 : Int32)), (1, .int (0 : Int32)), (0, .ref (eB E + 295))]) C dX4_month_150 rfl (by decide) rfl ?_
  obtain ⟨x79, eo78, z77⟩ := bind_ex z67
  refine gq_widen (k' := 0) (n' := 0) (Nat.le_of_ble_eq_true rfl) (Nat.le_of_ble_eq_true rfl) (gq_sub [2, 1, 0] rfl ?_)
  refine l_X4_month_151 hN C  qFuel _ _ _ eo78 ?_
  refine gq_aload_n C dX4_month_177 rfl 0 rfl ?_
  refine gq_iload_n C dX4_month_178 rfl 1 rfl ?_
  obtain ⟨m82, eo81, z80⟩ := bind_ex z77
  refine gq_V (As := [.int x79]) (rest := []) (j := 5) C (c_X4_remembers hN  eo81) (qn_m 295 (by decide) hN) (by decide) (by decide) rfl wk_8_120 wk_8_122 ws_X4_remembers wk_1_9 wk_8_123 hd_X4_remembers ⟨(Nat.le_of_ble_eq_true rfl), (Nat.le_of_ble_eq_true rfl)⟩ (Nat.le_of_ble_eq_true rfl) ⟨(Nat.le_of_ble_eq_true rfl), (Nat.le_of_ble_eq_true rfl)⟩ dX4_month_179 rfl rfl ?_
  refine gq_iload_n C dX4_month_182 rfl 1 rfl ?_
  cases z80
  exact gq_iret C hr dX4_month_183 (Nat.le_of_ble_eq_true rfl) (Nat.le_of_ble_eq_true rfl)
abbrev rm_X4_claims : Room := { frames := 0, cells := 0, slots := 0, locals := 0 }
def F_X4_claims  (μ : Mm) : Option (Int32 × Mm) :=
  (some (uI μ 295 0 (0 : Int32))).bind fun m1 =>
  (aI m1 296 (56 : Int32)).bind fun x3 =>
  some (x3, m1)
set_option maxHeartbeats 4000000 in
set_option maxRecDepth 100000 in
theorem c_X4_claims {l : Launch} {E : Ev} (hN : 311 ≤ eN E) {μ : Mm} {r : Int32} {μ' : Mm} (z0 : F_X4_claims  μ = some (r, μ')) : Ct l E yX4_claims (Cond.code yX4_claims cX4_claims 1 (some .int) :: GW) rm_X4_claims [.ref (eB E + 295)] μ (some (.int r)) μ' := by
  refine ct_of (by decide) (Nat.le_of_ble_eq_true rfl) (fun p e s m args below meth c C hr => ?_)
  have C : Cq E p s m args meth c cX4_claims 1 RX4 := C
  refine gq_lv (lv' := [(0, .ref (eB E + 295))]) rfl ?_
  unfold F_X4_claims at z0
  refine gq_aload_n C dX4_claims_0 rfl 0 rfl ?_
  refine gq_iconst (v := 0) C dX4_claims_1 (by decide) ?_
  obtain ⟨m1, em1, z2⟩ := bind_ex z0
  refine gq_put5_0 C (qn_m 295 (by decide) hN) (by decide) wk_6_162 (Option.some.inj em1).symm dX4_claims_2 ?_
  refine gq_aload_n C dX4_claims_5 rfl 0 rfl ?_
  refine gq_get5 C (qn_m 295 (by decide) hN) (by decide) 1 (by decide) wk_6_163 rfl dX4_claims_6 ?_
  refine gq_bipush (v := 56) C dX4_claims_9 (by decide) ?_
  obtain ⟨x3, ex3, z4⟩ := bind_ex z2
  refine gq_ialoadI C (qn_m 296 (by decide) hN) (by decide) ex3 dX4_claims_11 ?_
  cases z4
  exact gq_iret C hr dX4_claims_12 (Nat.le_of_ble_eq_true rfl) (Nat.le_of_ble_eq_true rfl)
abbrev rm_X4_claim : Room := { frames := 1, cells := 0, slots := 0, locals := 22 }
def F_X4_claim (p1 : Int32) (p2 : Int32) (μ : Mm) : Option (Int32 × Mm) :=
  (aI μ 296 (56 : Int32)).bind fun x1 =>
  (F_X4_inRange p1 (0 : Int32) (x1 - (1 : Int32)) μ).bind fun o4 =>
  (if o4 = 0 then
  (some (1 : Int32))
  else
  ((F_X4_inRange p2 (0 : Int32) (7 : Int32) μ).bind fun o12 =>
  if o12 = 0 then
  (some (2 : Int32))
  else
  (some (0 : Int32)))).bind fun o16 =>
  (some (uI μ 295 0 o16)).bind fun m17 =>
  if (m17.1 295 0) ≤ 0 then
  ((F_X4_claimOf p1 p2 m17).bind fun o22 =>
  some (o22, m17))
  else
  (some ((0 : Int32), m17))
set_option maxHeartbeats 4000000 in
set_option maxRecDepth 100000 in
theorem c_X4_claim {l : Launch} {E : Ev} (hN : 311 ≤ eN E) {p1 : Int32} {p2 : Int32} {μ : Mm} {r : Int32} {μ' : Mm} (z0 : F_X4_claim p1 p2 μ = some (r, μ')) : Ct l E yX4_claim (Cond.code yX4_claim cX4_claim 3 (some .int) :: GW) rm_X4_claim [.ref (eB E + 295), .int p1, .int p2] μ (some (.int r)) μ' := by
  refine ct_of (by decide) (Nat.le_of_ble_eq_true rfl) (fun p e s m args below meth c C hr => ?_)
  have C : Cq E p s m args meth c cX4_claim 3 RX4 := C
  refine gq_lv (lv' := [(0, .ref (eB E + 295)), (1, .int p1), (2, .int p2)]) rfl ?_
  unfold F_X4_claim at z0
  refine gq_aload_n C dX4_claim_0 rfl 0 rfl ?_
  refine gq_iload_n C dX4_claim_1 rfl 1 rfl ?_
  refine gq_iconst (v := 0) C dX4_claim_2 (by decide) ?_
  refine gq_aload_n C dX4_claim_3 rfl 0 rfl ?_
  refine gq_get5 C (qn_m 295 (by decide) hN) (by decide) 1 (by decide) wk_6_163 rfl dX4_claim_4 ?_
  refine gq_bipush (v := 56) C dX4_claim_7 (by decide) ?_
  obtain ⟨x1, ex1, z2⟩ := bind_ex z0
  refine gq_ialoadI C (qn_m 296 (by decide) hN) (by decide) ex1 dX4_claim_9 ?_
  refine gq_iconst (v := 1) C dX4_claim_10 (by decide) ?_
  refine gq_isub C dX4_claim_11 ?_
  obtain ⟨x5, eo4, z3⟩ := bind_ex z2
  refine gq_S (As := [.int p1, .int (0 : Int32), .int (x1 - (1 : Int32))]) (rest := [.ref (eB E + 295)]) C (c_X4_inRange hN  eo4) wk_7_50 wk_7_51 wk_1_9 wk_7_52 hd_X4_inRange ⟨(Nat.le_of_ble_eq_true rfl), (Nat.le_of_ble_eq_true rfl)⟩ (Nat.le_of_ble_eq_true rfl) ⟨(Nat.le_of_ble_eq_true rfl), (Nat.le_of_ble_eq_true rfl)⟩ dX4_claim_12 rfl rfl ?_
  obtain ⟨x6, z7, z8⟩ := bind_ex z3
  refine gq_join (k' := 0) (n' := 0) (pc' := 37) (lv' := [(0, .ref (eB E + 295)), (1, .int p1), (2, .int p2)]) (st' := [.int x6, .ref (eB E + 295)]) (μ' := μ) ?_ (fun J37 => ?_)
  · obtain ⟨m17, em17, z18⟩ := bind_ex z8
    refine gq_put5_0 C (qn_m 295 (by decide) hN) (by decide) wk_6_162 (Option.some.inj em17).symm dX4_claim_37 ?_
    refine gq_aload_n C dX4_claim_40 rfl 0 rfl ?_
    refine gq_get5 C (qn_m 295 (by decide) hN) (by decide) 0 (by decide) wk_6_162 rfl dX4_claim_41 ?_
    rcases ite_ex z18 with ⟨c19, z20⟩ | ⟨c19, z20⟩
    · refine gq_if_le_t (tgt := 51) C dX4_claim_44 (by decide) c19 ?_
      refine gq_aload_n C dX4_claim_51 rfl 0 rfl ?_
      refine gq_iload_n C dX4_claim_52 rfl 1 rfl ?_
      refine gq_iload_n C dX4_claim_53 rfl 2 rfl ?_
      obtain ⟨x23, eo22, z21⟩ := bind_ex z20
      refine gq_V (As := [.int p1, .int p2]) (rest := []) (j := 5) C (c_X4_claimOf hN  eo22) (qn_m 295 (by decide) hN) (by decide) (by decide) rfl wk_7_223 wk_7_225 ws_X4_claimOf wk_1_9 wk_7_226 hd_X4_claimOf ⟨(Nat.le_of_ble_eq_true rfl), (Nat.le_of_ble_eq_true rfl)⟩ (Nat.le_of_ble_eq_true rfl) ⟨(Nat.le_of_ble_eq_true rfl), (Nat.le_of_ble_eq_true rfl)⟩ dX4_claim_54 rfl rfl ?_
      cases z21
      exact gq_iret C hr dX4_claim_57 (Nat.le_of_ble_eq_true rfl) (Nat.le_of_ble_eq_true rfl)
    · refine gq_if_le_f (tgt := 51) C dX4_claim_44 (by decide) c19 ?_
      refine gq_iconst (v := 0) C dX4_claim_47 (by decide) ?_
      refine gq_goto (tgt := 57) C dX4_claim_48 (by decide) ?_
      cases z20
      exact gq_iret C hr dX4_claim_57 (Nat.le_of_ble_eq_true rfl) (Nat.le_of_ble_eq_true rfl)
  · rcases ite_ex z7 with ⟨c9, z10⟩ | ⟨c9, z10⟩
    · refine gq_if_ne_f (tgt := 22) C dX4_claim_15 (by decide) c9 ?_
      refine gq_iconst (v := 1) C dX4_claim_18 (by decide) ?_
      refine gq_goto (tgt := 37) C dX4_claim_19 (by decide) ?_
      cases z10
      exact gq_widen (Nat.le_of_ble_eq_true rfl) (Nat.le_of_ble_eq_true rfl) (gq_sub [0, 1, 2] rfl J37)
    · refine gq_if_ne_t (tgt := 22) C dX4_claim_15 (by decide) c9 ?_
      refine gq_iload_n C dX4_claim_22 rfl 2 rfl ?_
      refine gq_iconst (v := 0) C dX4_claim_23 (by decide) ?_
      refine gq_bipush (v := 7) C dX4_claim_24 (by decide) ?_
      obtain ⟨x13, eo12, z11⟩ := bind_ex z10
      refine gq_S (As := [.int p2, .int (0 : Int32), .int (7 : Int32)]) (rest := [.ref (eB E + 295)]) C (c_X4_inRange hN  eo12) wk_7_50 wk_7_51 wk_1_9 wk_7_52 hd_X4_inRange ⟨(Nat.le_of_ble_eq_true rfl), (Nat.le_of_ble_eq_true rfl)⟩ (Nat.le_of_ble_eq_true rfl) ⟨(Nat.le_of_ble_eq_true rfl), (Nat.le_of_ble_eq_true rfl)⟩ dX4_claim_26 rfl rfl ?_
      rcases ite_ex z11 with ⟨c14, z15⟩ | ⟨c14, z15⟩
      · refine gq_if_ne_f (tgt := 36) C dX4_claim_29 (by decide) c14 ?_
        refine gq_iconst (v := 2) C dX4_claim_32 (by decide) ?_
        refine gq_goto (tgt := 37) C dX4_claim_33 (by decide) ?_
        cases z15
        exact gq_widen (Nat.le_of_ble_eq_true rfl) (Nat.le_of_ble_eq_true rfl) (gq_sub [0, 1, 2] rfl J37)
      · refine gq_if_ne_t (tgt := 36) C dX4_claim_29 (by decide) c14 ?_
        refine gq_iconst (v := 0) C dX4_claim_36 (by decide) ?_
        cases z15
        exact gq_widen (Nat.le_of_ble_eq_true rfl) (Nat.le_of_ble_eq_true rfl) (gq_sub [0, 1, 2] rfl J37)
abbrev rm_X4_gauge : Room := { frames := 2, cells := 0, slots := 0, locals := 43 }
def F_X4_gauge (p1 : Int32) (p2 : Int32) (μ : Mm) : Option (Int32 × Mm) :=
  (F_X4_isReach p1 μ).bind fun o2 =>
  (if o2 = 0 then
  (some (1 : Int32))
  else
  ((F_X4_inRange p2 (0 : Int32) (4 : Int32) μ).bind fun o10 =>
  if o10 = 0 then
  (some (2 : Int32))
  else
  (some (0 : Int32)))).bind fun o14 =>
  (some (uI μ 295 0 o14)).bind fun m15 =>
  if (m15.1 295 0) ≤ 0 then
  ((F_X4_gaugeOf p1 p2 m15).bind fun o20 =>
  some (o20, m15))
  else
  (some ((0 : Int32), m15))
set_option maxHeartbeats 4000000 in
set_option maxRecDepth 100000 in
theorem c_X4_gauge {l : Launch} {E : Ev} (hN : 311 ≤ eN E) {p1 : Int32} {p2 : Int32} {μ : Mm} {r : Int32} {μ' : Mm} (z0 : F_X4_gauge p1 p2 μ = some (r, μ')) : Ct l E yX4_gauge (Cond.code yX4_gauge cX4_gauge 3 (some .int) :: GW) rm_X4_gauge [.ref (eB E + 295), .int p1, .int p2] μ (some (.int r)) μ' := by
  refine ct_of (by decide) (Nat.le_of_ble_eq_true rfl) (fun p e s m args below meth c C hr => ?_)
  have C : Cq E p s m args meth c cX4_gauge 3 RX4 := C
  refine gq_lv (lv' := [(0, .ref (eB E + 295)), (1, .int p1), (2, .int p2)]) rfl ?_
  unfold F_X4_gauge at z0
  refine gq_aload_n C dX4_gauge_0 rfl 0 rfl ?_
  refine gq_aload_n C dX4_gauge_1 rfl 0 rfl ?_
  refine gq_iload_n C dX4_gauge_2 rfl 1 rfl ?_
  obtain ⟨x3, eo2, z1⟩ := bind_ex z0
  refine gq_V (As := [.int p1]) (rest := [.ref (eB E + 295)]) (j := 5) C (c_X4_isReach hN  eo2) (qn_m 295 (by decide) hN) (by decide) (by decide) rfl wk_7_147 wk_7_149 ws_X4_isReach wk_1_9 wk_7_150 hd_X4_isReach ⟨(Nat.le_of_ble_eq_true rfl), (Nat.le_of_ble_eq_true rfl)⟩ (Nat.le_of_ble_eq_true rfl) ⟨(Nat.le_of_ble_eq_true rfl), (Nat.le_of_ble_eq_true rfl)⟩ dX4_gauge_3 rfl rfl ?_
  obtain ⟨x4, z5, z6⟩ := bind_ex z1
  refine gq_join (k' := 0) (n' := 0) (pc' := 27) (lv' := [(0, .ref (eB E + 295)), (1, .int p1), (2, .int p2)]) (st' := [.int x4, .ref (eB E + 295)]) (μ' := μ) ?_ (fun J27 => ?_)
  · obtain ⟨m15, em15, z16⟩ := bind_ex z6
    refine gq_put5_0 C (qn_m 295 (by decide) hN) (by decide) wk_6_162 (Option.some.inj em15).symm dX4_gauge_27 ?_
    refine gq_aload_n C dX4_gauge_30 rfl 0 rfl ?_
    refine gq_get5 C (qn_m 295 (by decide) hN) (by decide) 0 (by decide) wk_6_162 rfl dX4_gauge_31 ?_
    rcases ite_ex z16 with ⟨c17, z18⟩ | ⟨c17, z18⟩
    · refine gq_if_le_t (tgt := 41) C dX4_gauge_34 (by decide) c17 ?_
      refine gq_aload_n C dX4_gauge_41 rfl 0 rfl ?_
      refine gq_iload_n C dX4_gauge_42 rfl 1 rfl ?_
      refine gq_iload_n C dX4_gauge_43 rfl 2 rfl ?_
      obtain ⟨x21, eo20, z19⟩ := bind_ex z18
      refine gq_V (As := [.int p1, .int p2]) (rest := []) (j := 5) C (c_X4_gaugeOf hN  eo20) (qn_m 295 (by decide) hN) (by decide) (by decide) rfl wk_7_231 wk_7_233 ws_X4_gaugeOf wk_1_9 wk_7_234 hd_X4_gaugeOf ⟨(Nat.le_of_ble_eq_true rfl), (Nat.le_of_ble_eq_true rfl)⟩ (Nat.le_of_ble_eq_true rfl) ⟨(Nat.le_of_ble_eq_true rfl), (Nat.le_of_ble_eq_true rfl)⟩ dX4_gauge_44 rfl rfl ?_
      cases z19
      exact gq_iret C hr dX4_gauge_47 (Nat.le_of_ble_eq_true rfl) (Nat.le_of_ble_eq_true rfl)
    · refine gq_if_le_f (tgt := 41) C dX4_gauge_34 (by decide) c17 ?_
      refine gq_iconst (v := 0) C dX4_gauge_37 (by decide) ?_
      refine gq_goto (tgt := 47) C dX4_gauge_38 (by decide) ?_
      cases z18
      exact gq_iret C hr dX4_gauge_47 (Nat.le_of_ble_eq_true rfl) (Nat.le_of_ble_eq_true rfl)
  · rcases ite_ex z5 with ⟨c7, z8⟩ | ⟨c7, z8⟩
    · refine gq_if_ne_f (tgt := 13) C dX4_gauge_6 (by decide) c7 ?_
      refine gq_iconst (v := 1) C dX4_gauge_9 (by decide) ?_
      refine gq_goto (tgt := 27) C dX4_gauge_10 (by decide) ?_
      cases z8
      exact gq_widen (Nat.le_of_ble_eq_true rfl) (Nat.le_of_ble_eq_true rfl) (gq_sub [0, 1, 2] rfl J27)
    · refine gq_if_ne_t (tgt := 13) C dX4_gauge_6 (by decide) c7 ?_
      refine gq_iload_n C dX4_gauge_13 rfl 2 rfl ?_
      refine gq_iconst (v := 0) C dX4_gauge_14 (by decide) ?_
      refine gq_iconst (v := 4) C dX4_gauge_15 (by decide) ?_
      obtain ⟨x11, eo10, z9⟩ := bind_ex z8
      refine gq_S (As := [.int p2, .int (0 : Int32), .int (4 : Int32)]) (rest := [.ref (eB E + 295)]) C (c_X4_inRange hN  eo10) wk_7_50 wk_7_51 wk_1_9 wk_7_52 hd_X4_inRange ⟨(Nat.le_of_ble_eq_true rfl), (Nat.le_of_ble_eq_true rfl)⟩ (Nat.le_of_ble_eq_true rfl) ⟨(Nat.le_of_ble_eq_true rfl), (Nat.le_of_ble_eq_true rfl)⟩ dX4_gauge_16 rfl rfl ?_
      rcases ite_ex z9 with ⟨c12, z13⟩ | ⟨c12, z13⟩
      · refine gq_if_ne_f (tgt := 26) C dX4_gauge_19 (by decide) c12 ?_
        refine gq_iconst (v := 2) C dX4_gauge_22 (by decide) ?_
        refine gq_goto (tgt := 27) C dX4_gauge_23 (by decide) ?_
        cases z13
        exact gq_widen (Nat.le_of_ble_eq_true rfl) (Nat.le_of_ble_eq_true rfl) (gq_sub [0, 1, 2] rfl J27)
      · refine gq_if_ne_t (tgt := 26) C dX4_gauge_19 (by decide) c12 ?_
        refine gq_iconst (v := 0) C dX4_gauge_26 (by decide) ?_
        cases z13
        exact gq_widen (Nat.le_of_ble_eq_true rfl) (Nat.le_of_ble_eq_true rfl) (gq_sub [0, 1, 2] rfl J27)
abbrev rm_X4_call : Room := { frames := 0, cells := 0, slots := 0, locals := 0 }
def F_X4_call  (μ : Mm) : Option (Int32 × Mm) :=
  (some (uI μ 295 0 (0 : Int32))).bind fun m1 =>
  (aI m1 296 (424 : Int32)).bind fun x3 =>
  if x3 = 0 then
  (some ((-1 : Int32), m1))
  else
  ((aI m1 296 (428 : Int32)).bind fun x7 =>
  some (x7, m1))
set_option maxHeartbeats 4000000 in
set_option maxRecDepth 100000 in
theorem c_X4_call {l : Launch} {E : Ev} (hN : 311 ≤ eN E) {μ : Mm} {r : Int32} {μ' : Mm} (z0 : F_X4_call  μ = some (r, μ')) : Ct l E yX4_call (Cond.code yX4_call cX4_call 1 (some .int) :: GW) rm_X4_call [.ref (eB E + 295)] μ (some (.int r)) μ' := by
  refine ct_of (by decide) (Nat.le_of_ble_eq_true rfl) (fun p e s m args below meth c C hr => ?_)
  have C : Cq E p s m args meth c cX4_call 1 RX4 := C
  refine gq_lv (lv' := [(0, .ref (eB E + 295))]) rfl ?_
  unfold F_X4_call at z0
  refine gq_aload_n C dX4_call_0 rfl 0 rfl ?_
  refine gq_iconst (v := 0) C dX4_call_1 (by decide) ?_
  obtain ⟨m1, em1, z2⟩ := bind_ex z0
  refine gq_put5_0 C (qn_m 295 (by decide) hN) (by decide) wk_6_162 (Option.some.inj em1).symm dX4_call_2 ?_
  refine gq_aload_n C dX4_call_5 rfl 0 rfl ?_
  refine gq_get5 C (qn_m 295 (by decide) hN) (by decide) 1 (by decide) wk_6_163 rfl dX4_call_6 ?_
  refine gq_sipush (v := 424) C dX4_call_9 (by decide) ?_
  obtain ⟨x3, ex3, z4⟩ := bind_ex z2
  refine gq_ialoadI C (qn_m 296 (by decide) hN) (by decide) ex3 dX4_call_12 ?_
  rcases ite_ex z4 with ⟨c5, z6⟩ | ⟨c5, z6⟩
  · refine gq_if_ne_f (tgt := 20) C dX4_call_13 (by decide) c5 ?_
    refine gq_iconst (v := -1) C dX4_call_16 (by decide) ?_
    refine gq_goto (tgt := 28) C dX4_call_17 (by decide) ?_
    cases z6
    exact gq_iret C hr dX4_call_28 (Nat.le_of_ble_eq_true rfl) (Nat.le_of_ble_eq_true rfl)
  · refine gq_if_ne_t (tgt := 20) C dX4_call_13 (by decide) c5 ?_
    refine gq_aload_n C dX4_call_20 rfl 0 rfl ?_
    refine gq_get5 C (qn_m 295 (by decide) hN) (by decide) 1 (by decide) wk_6_163 rfl dX4_call_21 ?_
    refine gq_sipush (v := 428) C dX4_call_24 (by decide) ?_
    obtain ⟨x7, ex7, z8⟩ := bind_ex z6
    refine gq_ialoadI C (qn_m 296 (by decide) hN) (by decide) ex7 dX4_call_27 ?_
    cases z8
    exact gq_iret C hr dX4_call_28 (Nat.le_of_ble_eq_true rfl) (Nat.le_of_ble_eq_true rfl)
abbrev rm_X4_history : Room := { frames := 1, cells := 0, slots := 0, locals := 22 }
def F_X4_history (p1 : Int32) (p2 : Int32) (μ : Mm) : Option (Int32 × Mm) :=
  (F_X4_inRange p2 (0 : Int32) (3 : Int32) μ).bind fun o2 =>
  (if o2 = 0 then
  (some (1 : Int32))
  else
  (some (0 : Int32))).bind fun o9 =>
  (some (uI μ 295 0 o9)).bind fun m10 =>
  if (m10.1 295 0) ≤ 0 then
  ((aI m10 296 (424 : Int32)).bind fun x14 =>
  (F_X4_inRange p1 (0 : Int32) (x14 - (1 : Int32)) m10).bind fun o17 =>
  if o17 = 0 then
  (some ((-1 : Int32), m10))
  else
  ((aI m10 296 (((425 : Int32) + ((4 : Int32) * p1)) + p2)).bind fun x21 =>
  some (x21, m10)))
  else
  (some ((0 : Int32), m10))
set_option maxHeartbeats 4000000 in
set_option maxRecDepth 100000 in
theorem c_X4_history {l : Launch} {E : Ev} (hN : 311 ≤ eN E) {p1 : Int32} {p2 : Int32} {μ : Mm} {r : Int32} {μ' : Mm} (z0 : F_X4_history p1 p2 μ = some (r, μ')) : Ct l E yX4_history (Cond.code yX4_history cX4_history 3 (some .int) :: GW) rm_X4_history [.ref (eB E + 295), .int p1, .int p2] μ (some (.int r)) μ' := by
  refine ct_of (by decide) (Nat.le_of_ble_eq_true rfl) (fun p e s m args below meth c C hr => ?_)
  have C : Cq E p s m args meth c cX4_history 3 RX4 := C
  refine gq_lv (lv' := [(0, .ref (eB E + 295)), (1, .int p1), (2, .int p2)]) rfl ?_
  unfold F_X4_history at z0
  refine gq_aload_n C dX4_history_0 rfl 0 rfl ?_
  refine gq_iload_n C dX4_history_1 rfl 2 rfl ?_
  refine gq_iconst (v := 0) C dX4_history_2 (by decide) ?_
  refine gq_iconst (v := 3) C dX4_history_3 (by decide) ?_
  obtain ⟨x3, eo2, z1⟩ := bind_ex z0
  refine gq_S (As := [.int p2, .int (0 : Int32), .int (3 : Int32)]) (rest := [.ref (eB E + 295)]) C (c_X4_inRange hN  eo2) wk_7_50 wk_7_51 wk_1_9 wk_7_52 hd_X4_inRange ⟨(Nat.le_of_ble_eq_true rfl), (Nat.le_of_ble_eq_true rfl)⟩ (Nat.le_of_ble_eq_true rfl) ⟨(Nat.le_of_ble_eq_true rfl), (Nat.le_of_ble_eq_true rfl)⟩ dX4_history_4 rfl rfl ?_
  obtain ⟨x4, z5, z6⟩ := bind_ex z1
  refine gq_join (k' := 0) (n' := 0) (pc' := 15) (lv' := [(0, .ref (eB E + 295)), (1, .int p1), (2, .int p2)]) (st' := [.int x4, .ref (eB E + 295)]) (μ' := μ) ?_ (fun J15 => ?_)
  · obtain ⟨m10, em10, z11⟩ := bind_ex z6
    refine gq_put5_0 C (qn_m 295 (by decide) hN) (by decide) wk_6_162 (Option.some.inj em10).symm dX4_history_15 ?_
    refine gq_aload_n C dX4_history_18 rfl 0 rfl ?_
    refine gq_get5 C (qn_m 295 (by decide) hN) (by decide) 0 (by decide) wk_6_162 rfl dX4_history_19 ?_
    rcases ite_ex z11 with ⟨c12, z13⟩ | ⟨c12, z13⟩
    · refine gq_if_le_t (tgt := 29) C dX4_history_22 (by decide) c12 ?_
      refine gq_iload_n C dX4_history_29 rfl 1 rfl ?_
      refine gq_iconst (v := 0) C dX4_history_30 (by decide) ?_
      refine gq_aload_n C dX4_history_31 rfl 0 rfl ?_
      refine gq_get5 C (qn_m 295 (by decide) hN) (by decide) 1 (by decide) wk_6_163 rfl dX4_history_32 ?_
      refine gq_sipush (v := 424) C dX4_history_35 (by decide) ?_
      obtain ⟨x14, ex14, z15⟩ := bind_ex z13
      refine gq_ialoadI C (qn_m 296 (by decide) hN) (by decide) ex14 dX4_history_38 ?_
      refine gq_iconst (v := 1) C dX4_history_39 (by decide) ?_
      refine gq_isub C dX4_history_40 ?_
      obtain ⟨x18, eo17, z16⟩ := bind_ex z15
      refine gq_S (As := [.int p1, .int (0 : Int32), .int (x14 - (1 : Int32))]) (rest := []) C (c_X4_inRange hN  eo17) wk_7_50 wk_7_51 wk_1_9 wk_7_52 hd_X4_inRange ⟨(Nat.le_of_ble_eq_true rfl), (Nat.le_of_ble_eq_true rfl)⟩ (Nat.le_of_ble_eq_true rfl) ⟨(Nat.le_of_ble_eq_true rfl), (Nat.le_of_ble_eq_true rfl)⟩ dX4_history_41 rfl rfl ?_
      rcases ite_ex z16 with ⟨c19, z20⟩ | ⟨c19, z20⟩
      · refine gq_if_eq_t (tgt := 64) C dX4_history_44 (by decide) c19 ?_
        refine gq_iconst (v := -1) C dX4_history_64 (by decide) ?_
        cases z20
        exact gq_iret C hr dX4_history_65 (Nat.le_of_ble_eq_true rfl) (Nat.le_of_ble_eq_true rfl)
      · refine gq_if_eq_f (tgt := 64) C dX4_history_44 (by decide) c19 ?_
        refine gq_aload_n C dX4_history_47 rfl 0 rfl ?_
        refine gq_get5 C (qn_m 295 (by decide) hN) (by decide) 1 (by decide) wk_6_163 rfl dX4_history_48 ?_
        refine gq_sipush (v := 425) C dX4_history_51 (by decide) ?_
        refine gq_iconst (v := 4) C dX4_history_54 (by decide) ?_
        refine gq_iload_n C dX4_history_55 rfl 1 rfl ?_
        refine gq_imul C dX4_history_56 ?_
        refine gq_iadd C dX4_history_57 ?_
        refine gq_iload_n C dX4_history_58 rfl 2 rfl ?_
        refine gq_iadd C dX4_history_59 ?_
        obtain ⟨x21, ex21, z22⟩ := bind_ex z20
        refine gq_ialoadI C (qn_m 296 (by decide) hN) (by decide) ex21 dX4_history_60 ?_
        refine gq_goto (tgt := 65) C dX4_history_61 (by decide) ?_
        cases z22
        exact gq_iret C hr dX4_history_65 (Nat.le_of_ble_eq_true rfl) (Nat.le_of_ble_eq_true rfl)
    · refine gq_if_le_f (tgt := 29) C dX4_history_22 (by decide) c12 ?_
      refine gq_iconst (v := 0) C dX4_history_25 (by decide) ?_
      refine gq_goto (tgt := 65) C dX4_history_26 (by decide) ?_
      cases z13
      exact gq_iret C hr dX4_history_65 (Nat.le_of_ble_eq_true rfl) (Nat.le_of_ble_eq_true rfl)
  · rcases ite_ex z5 with ⟨c7, z8⟩ | ⟨c7, z8⟩
    · refine gq_if_eq_t (tgt := 14) C dX4_history_7 (by decide) c7 ?_
      refine gq_iconst (v := 1) C dX4_history_14 (by decide) ?_
      cases z8
      exact gq_widen (Nat.le_of_ble_eq_true rfl) (Nat.le_of_ble_eq_true rfl) (gq_sub [0, 1, 2] rfl J15)
    · refine gq_if_eq_f (tgt := 14) C dX4_history_7 (by decide) c7 ?_
      refine gq_iconst (v := 0) C dX4_history_10 (by decide) ?_
      refine gq_goto (tgt := 15) C dX4_history_11 (by decide) ?_
      cases z8
      exact gq_widen (Nat.le_of_ble_eq_true rfl) (Nat.le_of_ble_eq_true rfl) (gq_sub [0, 1, 2] rfl J15)
abbrev rm_X4_meanGot : Room := { frames := 0, cells := 0, slots := 0, locals := 0 }
def F_X4_meanGot_9  (μ : Mm) : Nat → Int32 → Int32 → Option Int32
  | 0, _, _ => none
  | n + 1, v1, v2 =>
  (aI μ 296 (424 : Int32)).bind fun x3 =>
  if x3 ≤ v2 then
  (some v1)
  else
  ((aI μ 296 (((425 : Int32) + ((4 : Int32) * v2)) + (1 : Int32))).bind fun x7 =>
  F_X4_meanGot_9 μ n (v1 + x7) (v2 + 1))
def F_X4_meanGot  (μ : Mm) : Option (UInt64 × Mm) :=
  (some (uI μ 295 0 (0 : Int32))).bind fun m1 =>
  (F_X4_meanGot_9 m1 qFuel (0 : Int32) (0 : Int32)).bind fun o10 =>
  (aI m1 296 (424 : Int32)).bind fun x12 =>
  if x12 = 0 then
  (some (qd0, m1))
  else
  ((aI m1 296 (424 : Int32)).bind fun x16 =>
  (ddv (FP.i2d o10) (FP.i2d x16)).bind fun x18 => some (x18, m1))
set_option maxHeartbeats 4000000 in
set_option maxRecDepth 100000 in
theorem l_X4_meanGot_9 {l : Launch} {E : Ev} (hN : 311 ≤ eN E) {p : Program} {e : Env} {s : State} {m : MethodId} {args : Array Value} {below : List Frame} {meth : Method} {c : Code} (C : Cq E p s m args meth c cX4_meanGot 3 RX4) {Q : State → Prop} {μ : Mm} : ∀ (n : Nat) (v1 : Int32) (v2 : Int32) (w1 : Int32), F_X4_meanGot_9 μ n v1 v2 = some w1 → Gq E p l e rm_X4_meanGot s m args below meth c 0 0 3 Q 44 [(0, .ref (eB E + 295)), (1, .int w1)] [] μ → Gq E p l e rm_X4_meanGot s m args below meth c 0 0 3 Q 9 [(0, .ref (eB E + 295)), (1, .int v1), (2, .int v2)] [] μ := by
  intro n
  induction n with
  | zero =>
    intro v1 v2 w1 z0 kk
    rw [F_X4_meanGot_9] at z0
    cases z0
  | succ n ih =>
    intro v1 v2 w1 z0 kk
    rw [F_X4_meanGot_9] at z0
    refine gq_iload_n C dX4_meanGot_9 rfl 2 rfl ?_
    refine gq_aload_n C dX4_meanGot_10 rfl 0 rfl ?_
    refine gq_get5 C (qn_m 295 (by decide) hN) (by decide) 1 (by decide) wk_6_163 rfl dX4_meanGot_11 ?_
    refine gq_sipush (v := 424) C dX4_meanGot_14 (by decide) ?_
    obtain ⟨x3, ex3, z4⟩ := bind_ex z0
    refine gq_ialoadI C (qn_m 296 (by decide) hN) (by decide) ex3 dX4_meanGot_17 ?_
    rcases ite_ex z4 with ⟨c5, z6⟩ | ⟨c5, z6⟩
    · refine gq_icmp_ge_t (tgt := 44) C dX4_meanGot_18 (by decide) c5 ?_
      cases z6
      exact gq_widen (Nat.le_of_ble_eq_true rfl) (Nat.le_of_ble_eq_true rfl) (gq_sub [0, 1] rfl kk)
    · refine gq_icmp_ge_f (tgt := 44) C dX4_meanGot_18 (by decide) c5 ?_
      refine gq_iload_n C dX4_meanGot_21 rfl 1 rfl ?_
      refine gq_aload_n C dX4_meanGot_22 rfl 0 rfl ?_
      refine gq_get5 C (qn_m 295 (by decide) hN) (by decide) 1 (by decide) wk_6_163 rfl dX4_meanGot_23 ?_
      refine gq_sipush (v := 425) C dX4_meanGot_26 (by decide) ?_
      refine gq_iconst (v := 4) C dX4_meanGot_29 (by decide) ?_
      refine gq_iload_n C dX4_meanGot_30 rfl 2 rfl ?_
      refine gq_imul C dX4_meanGot_31 ?_
      refine gq_iadd C dX4_meanGot_32 ?_
      refine gq_iconst (v := 1) C dX4_meanGot_33 (by decide) ?_
      refine gq_iadd C dX4_meanGot_34 ?_
      obtain ⟨x7, ex7, z8⟩ := bind_ex z6
      refine gq_ialoadI C (qn_m 296 (by decide) hN) (by decide) ex7 dX4_meanGot_35 ?_
      refine gq_iadd C dX4_meanGot_36 ?_
      refine gq_istore_n (lv' := [(1, .int (v1 + x7)), (0, .ref (eB E + 295)), (2, .int v2)]) C dX4_meanGot_37 rfl (by decide) rfl ?_
      refine gq_iinc (v := (v2 + 1)) (lv' := [(2, .int (v2 + 1)), (1, .int (v1 + x7)), (0, .ref (eB E + 295))]) (q := 2) C dX4_meanGot_38 rfl rfl (by decide) rfl ?_
      refine gq_goto (tgt := 9) C dX4_meanGot_41 (by decide) ?_
      refine gq_widen (k' := 0) (n' := 0) (Nat.le_of_ble_eq_true rfl) (Nat.le_of_ble_eq_true rfl) (gq_sub [2, 1, 0] rfl ?_)
      exact ih _ _ _ z8 kk
set_option maxHeartbeats 4000000 in
set_option maxRecDepth 100000 in
theorem c_X4_meanGot {l : Launch} {E : Ev} (hN : 311 ≤ eN E) {μ : Mm} {r : UInt64} {μ' : Mm} (z0 : F_X4_meanGot  μ = some (r, μ')) : Ct l E yX4_meanGot (Cond.code yX4_meanGot cX4_meanGot 3 (some .double) :: GW) rm_X4_meanGot [.ref (eB E + 295)] μ (some (.double r)) μ' := by
  refine ct_of (by decide) (Nat.le_of_ble_eq_true rfl) (fun p e s m args below meth c C hr => ?_)
  have C : Cq E p s m args meth c cX4_meanGot 3 RX4 := C
  refine gq_lv (lv' := [(0, .ref (eB E + 295))]) rfl ?_
  unfold F_X4_meanGot at z0
  refine gq_aload_n C dX4_meanGot_0 rfl 0 rfl ?_
  refine gq_iconst (v := 0) C dX4_meanGot_1 (by decide) ?_
  obtain ⟨m1, em1, z2⟩ := bind_ex z0
  refine gq_put5_0 C (qn_m 295 (by decide) hN) (by decide) wk_6_162 (Option.some.inj em1).symm dX4_meanGot_2 ?_
  refine gq_iconst (v := 0) C dX4_meanGot_5 (by decide) ?_
  refine gq_istore_n (lv' := [(1, .int (0 : Int32)), (0, .ref (eB E + 295))]) C dX4_meanGot_6 rfl (by decide) rfl ?_
  refine gq_iconst (v := 0) C dX4_meanGot_7 (by decide) ?_
  refine gq_istore_n (lv' := [(2, .int (0 : Int32)), (1, .int (0 : Int32)), (0, .ref (eB E + 295))]) C dX4_meanGot_8 rfl (by decide) rfl ?_
  obtain ⟨x11, eo10, z9⟩ := bind_ex z2
  refine gq_widen (k' := 0) (n' := 0) (Nat.le_of_ble_eq_true rfl) (Nat.le_of_ble_eq_true rfl) (gq_sub [2, 1, 0] rfl ?_)
  refine l_X4_meanGot_9 hN C  qFuel _ _ _ eo10 ?_
  refine gq_aload_n C dX4_meanGot_44 rfl 0 rfl ?_
  refine gq_get5 C (qn_m 295 (by decide) hN) (by decide) 1 (by decide) wk_6_163 rfl dX4_meanGot_45 ?_
  refine gq_sipush (v := 424) C dX4_meanGot_48 (by decide) ?_
  obtain ⟨x12, ex12, z13⟩ := bind_ex z9
  refine gq_ialoadI C (qn_m 296 (by decide) hN) (by decide) ex12 dX4_meanGot_51 ?_
  rcases ite_ex z13 with ⟨c14, z15⟩ | ⟨c14, z15⟩
  · refine gq_if_ne_f (tgt := 59) C dX4_meanGot_52 (by decide) c14 ?_
    refine gq_dconst0 C dX4_meanGot_55 ?_
    refine gq_goto (tgt := 71) C dX4_meanGot_56 (by decide) ?_
    cases z15
    exact gq_dret C hr dX4_meanGot_71 (Nat.le_of_ble_eq_true rfl) (Nat.le_of_ble_eq_true rfl)
  · refine gq_if_ne_t (tgt := 59) C dX4_meanGot_52 (by decide) c14 ?_
    refine gq_iload_n C dX4_meanGot_59 rfl 1 rfl ?_
    refine gq_i2d C dX4_meanGot_60 ?_
    refine gq_aload_n C dX4_meanGot_61 rfl 0 rfl ?_
    refine gq_get5 C (qn_m 295 (by decide) hN) (by decide) 1 (by decide) wk_6_163 rfl dX4_meanGot_62 ?_
    refine gq_sipush (v := 424) C dX4_meanGot_65 (by decide) ?_
    obtain ⟨x16, ex16, z17⟩ := bind_ex z15
    refine gq_ialoadI C (qn_m 296 (by decide) hN) (by decide) ex16 dX4_meanGot_68 ?_
    refine gq_i2d C dX4_meanGot_69 ?_
    obtain ⟨x18, ex18, z19⟩ := bind_ex z17
    obtain ⟨nx18, qx18⟩ := ifs_some ex18
    refine gq_ddivE C dX4_meanGot_70 nx18 qx18 ?_
    cases z19
    exact gq_dret C hr dX4_meanGot_71 (Nat.le_of_ble_eq_true rfl) (Nat.le_of_ble_eq_true rfl)
abbrev rm_X4_dryGauges : Room := { frames := 1, cells := 0, slots := 0, locals := 22 }
def F_X4_dryGauges_9  (μ : Mm) : Nat → Int32 → Int32 → Option Int32
  | 0, _, _ => none
  | n + 1, v1, v2 =>
  (aI μ 296 (0 : Int32)).bind fun x3 =>
  if x3 ≤ v2 then
  (some v1)
  else
  ((aI μ 296 (57 : Int32)).bind fun x7 =>
  (if x7 = (1 : Int32) then
  ((F_X4_gaugeOf v2 (2 : Int32) μ).bind fun o15 =>
  (aI μ 296 ((14 : Int32) + v2)).bind fun x17 =>
  if x17 ≤ o15 then
  (some (0 : Int32))
  else
  (some ((1 : Int32) <<< (v2 &&& 31))))
  else
  (some (0 : Int32))).bind fun o21 =>
  F_X4_dryGauges_9 μ n (v1 ||| o21) (v2 + 1))
def F_X4_dryGauges  (μ : Mm) : Option (Int32 × Mm) :=
  (some (uI μ 295 0 (0 : Int32))).bind fun m1 =>
  (F_X4_dryGauges_9 m1 qFuel (0 : Int32) (0 : Int32)).bind fun o23 =>
  some (o23, m1)
set_option maxHeartbeats 4000000 in
set_option maxRecDepth 100000 in
theorem l_X4_dryGauges_9 {l : Launch} {E : Ev} (hN : 311 ≤ eN E) {p : Program} {e : Env} {s : State} {m : MethodId} {args : Array Value} {below : List Frame} {meth : Method} {c : Code} (C : Cq E p s m args meth c cX4_dryGauges 3 RX4) {Q : State → Prop} {μ : Mm} : ∀ (n : Nat) (v1 : Int32) (v2 : Int32) (w1 : Int32), F_X4_dryGauges_9 μ n v1 v2 = some w1 → Gq E p l e rm_X4_dryGauges s m args below meth c 0 0 3 Q 64 [(1, .int w1)] [] μ → Gq E p l e rm_X4_dryGauges s m args below meth c 0 0 3 Q 9 [(0, .ref (eB E + 295)), (1, .int v1), (2, .int v2)] [] μ := by
  intro n
  induction n with
  | zero =>
    intro v1 v2 w1 z0 kk
    rw [F_X4_dryGauges_9] at z0
    cases z0
  | succ n ih =>
    intro v1 v2 w1 z0 kk
    rw [F_X4_dryGauges_9] at z0
    refine gq_iload_n C dX4_dryGauges_9 rfl 2 rfl ?_
    refine gq_aload_n C dX4_dryGauges_10 rfl 0 rfl ?_
    refine gq_get5 C (qn_m 295 (by decide) hN) (by decide) 1 (by decide) wk_6_163 rfl dX4_dryGauges_11 ?_
    refine gq_iconst (v := 0) C dX4_dryGauges_14 (by decide) ?_
    obtain ⟨x3, ex3, z4⟩ := bind_ex z0
    refine gq_ialoadI C (qn_m 296 (by decide) hN) (by decide) ex3 dX4_dryGauges_15 ?_
    rcases ite_ex z4 with ⟨c5, z6⟩ | ⟨c5, z6⟩
    · refine gq_icmp_ge_t (tgt := 64) C dX4_dryGauges_16 (by decide) c5 ?_
      cases z6
      exact gq_widen (Nat.le_of_ble_eq_true rfl) (Nat.le_of_ble_eq_true rfl) (gq_sub [1] rfl kk)
    · refine gq_icmp_ge_f (tgt := 64) C dX4_dryGauges_16 (by decide) c5 ?_
      refine gq_iload_n C dX4_dryGauges_19 rfl 1 rfl ?_
      refine gq_aload_n C dX4_dryGauges_20 rfl 0 rfl ?_
      refine gq_get5 C (qn_m 295 (by decide) hN) (by decide) 1 (by decide) wk_6_163 rfl dX4_dryGauges_21 ?_
      refine gq_bipush (v := 57) C dX4_dryGauges_24 (by decide) ?_
      obtain ⟨x7, ex7, z8⟩ := bind_ex z6
      refine gq_ialoadI C (qn_m 296 (by decide) hN) (by decide) ex7 dX4_dryGauges_26 ?_
      refine gq_iconst (v := 1) C dX4_dryGauges_27 (by decide) ?_
      obtain ⟨x9, z10, z11⟩ := bind_ex z8
      refine gq_join (k' := 0) (n' := 0) (pc' := 56) (lv' := [(0, .ref (eB E + 295)), (2, .int v2)]) (st' := [.int x9, .int v1]) (μ' := μ) ?_ (fun J56 => ?_)
      · refine gq_ior C dX4_dryGauges_56 ?_
        refine gq_istore_n (lv' := [(1, .int (v1 ||| x9)), (0, .ref (eB E + 295)), (2, .int v2)]) C dX4_dryGauges_57 rfl (by decide) rfl ?_
        refine gq_iinc (v := (v2 + 1)) (lv' := [(2, .int (v2 + 1)), (1, .int (v1 ||| x9)), (0, .ref (eB E + 295))]) (q := 2) C dX4_dryGauges_58 rfl rfl (by decide) rfl ?_
        refine gq_goto (tgt := 9) C dX4_dryGauges_61 (by decide) ?_
        refine gq_widen (k' := 0) (n' := 0) (Nat.le_of_ble_eq_true rfl) (Nat.le_of_ble_eq_true rfl) (gq_sub [2, 1, 0] rfl ?_)
        exact ih _ _ _ z11 kk
      · rcases ite_ex z10 with ⟨c12, z13⟩ | ⟨c12, z13⟩
        · refine gq_icmp_ne_f (tgt := 55) C dX4_dryGauges_28 (by decide) c12 ?_
          refine gq_aload_n C dX4_dryGauges_31 rfl 0 rfl ?_
          refine gq_iload_n C dX4_dryGauges_32 rfl 2 rfl ?_
          refine gq_iconst (v := 2) C dX4_dryGauges_33 (by decide) ?_
          obtain ⟨x16, eo15, z14⟩ := bind_ex z13
          refine gq_V (As := [.int v2, .int (2 : Int32)]) (rest := [.int v1]) (j := 5) C (c_X4_gaugeOf hN  eo15) (qn_m 295 (by decide) hN) (by decide) (by decide) rfl wk_7_231 wk_7_233 ws_X4_gaugeOf wk_1_9 wk_7_234 hd_X4_gaugeOf ⟨(Nat.le_of_ble_eq_true rfl), (Nat.le_of_ble_eq_true rfl)⟩ (Nat.le_of_ble_eq_true rfl) ⟨(Nat.le_of_ble_eq_true rfl), (Nat.le_of_ble_eq_true rfl)⟩ dX4_dryGauges_34 rfl rfl ?_
          refine gq_aload_n C dX4_dryGauges_37 rfl 0 rfl ?_
          refine gq_get5 C (qn_m 295 (by decide) hN) (by decide) 1 (by decide) wk_6_163 rfl dX4_dryGauges_38 ?_
          refine gq_bipush (v := 14) C dX4_dryGauges_41 (by decide) ?_
          refine gq_iload_n C dX4_dryGauges_43 rfl 2 rfl ?_
          refine gq_iadd C dX4_dryGauges_44 ?_
          obtain ⟨x17, ex17, z18⟩ := bind_ex z14
          refine gq_ialoadI C (qn_m 296 (by decide) hN) (by decide) ex17 dX4_dryGauges_45 ?_
          rcases ite_ex z18 with ⟨c19, z20⟩ | ⟨c19, z20⟩
          · refine gq_icmp_ge_t (tgt := 55) C dX4_dryGauges_46 (by decide) c19 ?_
            refine gq_iconst (v := 0) C dX4_dryGauges_55 (by decide) ?_
            cases z20
            exact gq_widen (Nat.le_of_ble_eq_true rfl) (Nat.le_of_ble_eq_true rfl) (gq_sub [0, 2] rfl J56)
          · refine gq_icmp_ge_f (tgt := 55) C dX4_dryGauges_46 (by decide) c19 ?_
            refine gq_iconst (v := 1) C dX4_dryGauges_49 (by decide) ?_
            refine gq_iload_n C dX4_dryGauges_50 rfl 2 rfl ?_
            refine gq_ishl C dX4_dryGauges_51 ?_
            refine gq_goto (tgt := 56) C dX4_dryGauges_52 (by decide) ?_
            cases z20
            exact gq_widen (Nat.le_of_ble_eq_true rfl) (Nat.le_of_ble_eq_true rfl) (gq_sub [0, 2] rfl J56)
        · refine gq_icmp_ne_t (tgt := 55) C dX4_dryGauges_28 (by decide) c12 ?_
          refine gq_iconst (v := 0) C dX4_dryGauges_55 (by decide) ?_
          cases z13
          exact gq_widen (Nat.le_of_ble_eq_true rfl) (Nat.le_of_ble_eq_true rfl) (gq_sub [0, 2] rfl J56)
set_option maxHeartbeats 4000000 in
set_option maxRecDepth 100000 in
theorem c_X4_dryGauges {l : Launch} {E : Ev} (hN : 311 ≤ eN E) {μ : Mm} {r : Int32} {μ' : Mm} (z0 : F_X4_dryGauges  μ = some (r, μ')) : Ct l E yX4_dryGauges (Cond.code yX4_dryGauges cX4_dryGauges 3 (some .int) :: GW) rm_X4_dryGauges [.ref (eB E + 295)] μ (some (.int r)) μ' := by
  refine ct_of (by decide) (Nat.le_of_ble_eq_true rfl) (fun p e s m args below meth c C hr => ?_)
  have C : Cq E p s m args meth c cX4_dryGauges 3 RX4 := C
  refine gq_lv (lv' := [(0, .ref (eB E + 295))]) rfl ?_
  unfold F_X4_dryGauges at z0
  refine gq_aload_n C dX4_dryGauges_0 rfl 0 rfl ?_
  refine gq_iconst (v := 0) C dX4_dryGauges_1 (by decide) ?_
  obtain ⟨m1, em1, z2⟩ := bind_ex z0
  refine gq_put5_0 C (qn_m 295 (by decide) hN) (by decide) wk_6_162 (Option.some.inj em1).symm dX4_dryGauges_2 ?_
  refine gq_iconst (v := 0) C dX4_dryGauges_5 (by decide) ?_
  refine gq_istore_n (lv' := [(1, .int (0 : Int32)), (0, .ref (eB E + 295))]) C dX4_dryGauges_6 rfl (by decide) rfl ?_
  refine gq_iconst (v := 0) C dX4_dryGauges_7 (by decide) ?_
  refine gq_istore_n (lv' := [(2, .int (0 : Int32)), (1, .int (0 : Int32)), (0, .ref (eB E + 295))]) C dX4_dryGauges_8 rfl (by decide) rfl ?_
  obtain ⟨x24, eo23, z22⟩ := bind_ex z2
  refine gq_widen (k' := 0) (n' := 0) (Nat.le_of_ble_eq_true rfl) (Nat.le_of_ble_eq_true rfl) (gq_sub [2, 1, 0] rfl ?_)
  refine l_X4_dryGauges_9 hN C  qFuel _ _ _ eo23 ?_
  refine gq_iload_n C dX4_dryGauges_64 rfl 0 rfl ?_
  cases z22
  exact gq_iret C hr dX4_dryGauges_65 (Nat.le_of_ble_eq_true rfl) (Nat.le_of_ble_eq_true rfl)
abbrev rm_X4_served : Room := { frames := 1, cells := 0, slots := 0, locals := 22 }
def F_X4_served_11  (μ : Mm) : Nat → Int32 → Int32 → Int32 → Option (Int32 × Int32)
  | 0, _, _, _ => none
  | n + 1, v1, v2, v3 =>
  (aI μ 296 (56 : Int32)).bind fun x3 =>
  if x3 ≤ v3 then
  (some (v1, v2))
  else
  ((F_X4_claimOf v3 (4 : Int32) μ).bind fun o8 =>
  (F_X4_claimOf v3 (5 : Int32) μ).bind fun o11 =>
  F_X4_served_11 μ n (v1 + o8) (v2 + o11) (v3 + 1))
def F_X4_served  (μ : Mm) : Option (UInt64 × Mm) :=
  (some (uI μ 295 0 (0 : Int32))).bind fun m1 =>
  (F_X4_served_11 m1 qFuel (0 : Int32) (0 : Int32) (0 : Int32)).bind fun o14 =>
  if o14.1 = 0 then
  (some (qd1, m1))
  else
  ((ddv (FP.i2d o14.2) (FP.i2d o14.1)).bind fun x19 => some (x19, m1))
set_option maxHeartbeats 4000000 in
set_option maxRecDepth 100000 in
theorem l_X4_served_11 {l : Launch} {E : Ev} (hN : 311 ≤ eN E) {p : Program} {e : Env} {s : State} {m : MethodId} {args : Array Value} {below : List Frame} {meth : Method} {c : Code} (C : Cq E p s m args meth c cX4_served 4 RX4) {Q : State → Prop} {μ : Mm} : ∀ (n : Nat) (v1 : Int32) (v2 : Int32) (v3 : Int32) (w1 : Int32) (w2 : Int32), F_X4_served_11 μ n v1 v2 v3 = some (w1, w2) → Gq E p l e rm_X4_served s m args below meth c 0 0 4 Q 46 [(1, .int w1), (2, .int w2)] [] μ → Gq E p l e rm_X4_served s m args below meth c 0 0 4 Q 11 [(0, .ref (eB E + 295)), (1, .int v1), (2, .int v2), (3, .int v3)] [] μ := by
  intro n
  induction n with
  | zero =>
    intro v1 v2 v3 w1 w2 z0 kk
    rw [F_X4_served_11] at z0
    cases z0
  | succ n ih =>
    intro v1 v2 v3 w1 w2 z0 kk
    rw [F_X4_served_11] at z0
    refine gq_iload_n C dX4_served_11 rfl 3 rfl ?_
    refine gq_aload_n C dX4_served_12 rfl 0 rfl ?_
    refine gq_get5 C (qn_m 295 (by decide) hN) (by decide) 1 (by decide) wk_6_163 rfl dX4_served_13 ?_
    refine gq_bipush (v := 56) C dX4_served_16 (by decide) ?_
    obtain ⟨x3, ex3, z4⟩ := bind_ex z0
    refine gq_ialoadI C (qn_m 296 (by decide) hN) (by decide) ex3 dX4_served_18 ?_
    rcases ite_ex z4 with ⟨c5, z6⟩ | ⟨c5, z6⟩
    · refine gq_icmp_ge_t (tgt := 46) C dX4_served_19 (by decide) c5 ?_
      cases z6
      exact gq_widen (Nat.le_of_ble_eq_true rfl) (Nat.le_of_ble_eq_true rfl) (gq_sub [1, 2] rfl kk)
    · refine gq_icmp_ge_f (tgt := 46) C dX4_served_19 (by decide) c5 ?_
      refine gq_iload_n C dX4_served_22 rfl 1 rfl ?_
      refine gq_aload_n C dX4_served_23 rfl 0 rfl ?_
      refine gq_iload_n C dX4_served_24 rfl 3 rfl ?_
      refine gq_iconst (v := 4) C dX4_served_25 (by decide) ?_
      obtain ⟨x9, eo8, z7⟩ := bind_ex z6
      refine gq_V (As := [.int v3, .int (4 : Int32)]) (rest := [.int v1]) (j := 5) C (c_X4_claimOf hN  eo8) (qn_m 295 (by decide) hN) (by decide) (by decide) rfl wk_7_223 wk_7_225 ws_X4_claimOf wk_1_9 wk_7_226 hd_X4_claimOf ⟨(Nat.le_of_ble_eq_true rfl), (Nat.le_of_ble_eq_true rfl)⟩ (Nat.le_of_ble_eq_true rfl) ⟨(Nat.le_of_ble_eq_true rfl), (Nat.le_of_ble_eq_true rfl)⟩ dX4_served_26 rfl rfl ?_
      refine gq_iadd C dX4_served_29 ?_
      refine gq_istore_n (lv' := [(1, .int (v1 + x9)), (0, .ref (eB E + 295)), (2, .int v2), (3, .int v3)]) C dX4_served_30 rfl (by decide) rfl ?_
      refine gq_iload_n C dX4_served_31 rfl 2 rfl ?_
      refine gq_aload_n C dX4_served_32 rfl 1 rfl ?_
      refine gq_iload_n C dX4_served_33 rfl 3 rfl ?_
      refine gq_iconst (v := 5) C dX4_served_34 (by decide) ?_
      obtain ⟨x12, eo11, z10⟩ := bind_ex z7
      refine gq_V (As := [.int v3, .int (5 : Int32)]) (rest := [.int v2]) (j := 5) C (c_X4_claimOf hN  eo11) (qn_m 295 (by decide) hN) (by decide) (by decide) rfl wk_7_223 wk_7_225 ws_X4_claimOf wk_1_9 wk_7_226 hd_X4_claimOf ⟨(Nat.le_of_ble_eq_true rfl), (Nat.le_of_ble_eq_true rfl)⟩ (Nat.le_of_ble_eq_true rfl) ⟨(Nat.le_of_ble_eq_true rfl), (Nat.le_of_ble_eq_true rfl)⟩ dX4_served_35 rfl rfl ?_
      refine gq_iadd C dX4_served_38 ?_
      refine gq_istore_n (lv' := [(2, .int (v2 + x12)), (1, .int (v1 + x9)), (0, .ref (eB E + 295)), (3, .int v3)]) C dX4_served_39 rfl (by decide) rfl ?_
      refine gq_iinc (v := (v3 + 1)) (lv' := [(3, .int (v3 + 1)), (2, .int (v2 + x12)), (1, .int (v1 + x9)), (0, .ref (eB E + 295))]) (q := 3) C dX4_served_40 rfl rfl (by decide) rfl ?_
      refine gq_goto (tgt := 11) C dX4_served_43 (by decide) ?_
      refine gq_widen (k' := 0) (n' := 0) (Nat.le_of_ble_eq_true rfl) (Nat.le_of_ble_eq_true rfl) (gq_sub [3, 2, 1, 0] rfl ?_)
      exact ih _ _ _ _ _ z10 kk
set_option maxHeartbeats 4000000 in
set_option maxRecDepth 100000 in
theorem c_X4_served {l : Launch} {E : Ev} (hN : 311 ≤ eN E) {μ : Mm} {r : UInt64} {μ' : Mm} (z0 : F_X4_served  μ = some (r, μ')) : Ct l E yX4_served (Cond.code yX4_served cX4_served 4 (some .double) :: GW) rm_X4_served [.ref (eB E + 295)] μ (some (.double r)) μ' := by
  refine ct_of (by decide) (Nat.le_of_ble_eq_true rfl) (fun p e s m args below meth c C hr => ?_)
  have C : Cq E p s m args meth c cX4_served 4 RX4 := C
  refine gq_lv (lv' := [(0, .ref (eB E + 295))]) rfl ?_
  unfold F_X4_served at z0
  refine gq_aload_n C dX4_served_0 rfl 0 rfl ?_
  refine gq_iconst (v := 0) C dX4_served_1 (by decide) ?_
  obtain ⟨m1, em1, z2⟩ := bind_ex z0
  refine gq_put5_0 C (qn_m 295 (by decide) hN) (by decide) wk_6_162 (Option.some.inj em1).symm dX4_served_2 ?_
  refine gq_iconst (v := 0) C dX4_served_5 (by decide) ?_
  refine gq_istore_n (lv' := [(1, .int (0 : Int32)), (0, .ref (eB E + 295))]) C dX4_served_6 rfl (by decide) rfl ?_
  refine gq_iconst (v := 0) C dX4_served_7 (by decide) ?_
  refine gq_istore_n (lv' := [(2, .int (0 : Int32)), (1, .int (0 : Int32)), (0, .ref (eB E + 295))]) C dX4_served_8 rfl (by decide) rfl ?_
  refine gq_iconst (v := 0) C dX4_served_9 (by decide) ?_
  refine gq_istore_n (lv' := [(3, .int (0 : Int32)), (2, .int (0 : Int32)), (1, .int (0 : Int32)), (0, .ref (eB E + 295))]) C dX4_served_10 rfl (by decide) rfl ?_
  obtain ⟨⟨x15, x16⟩, eo14, z13⟩ := bind_ex z2
  dsimp only at z13
  refine gq_widen (k' := 0) (n' := 0) (Nat.le_of_ble_eq_true rfl) (Nat.le_of_ble_eq_true rfl) (gq_sub [3, 2, 1, 0] rfl ?_)
  refine l_X4_served_11 hN C  qFuel _ _ _ _ _ eo14 ?_
  refine gq_iload_n C dX4_served_46 rfl 0 rfl ?_
  rcases ite_ex z13 with ⟨c17, z18⟩ | ⟨c17, z18⟩
  · refine gq_if_ne_f (tgt := 54) C dX4_served_47 (by decide) c17 ?_
    refine gq_dconst1 C dX4_served_50 ?_
    refine gq_goto (tgt := 59) C dX4_served_51 (by decide) ?_
    cases z18
    exact gq_dret C hr dX4_served_59 (Nat.le_of_ble_eq_true rfl) (Nat.le_of_ble_eq_true rfl)
  · refine gq_if_ne_t (tgt := 54) C dX4_served_47 (by decide) c17 ?_
    refine gq_iload_n C dX4_served_54 rfl 1 rfl ?_
    refine gq_i2d C dX4_served_55 ?_
    refine gq_iload_n C dX4_served_56 rfl 0 rfl ?_
    refine gq_i2d C dX4_served_57 ?_
    obtain ⟨x19, ex19, z20⟩ := bind_ex z18
    obtain ⟨nx19, qx19⟩ := ifs_some ex19
    refine gq_ddivE C dX4_served_58 nx19 qx19 ?_
    cases z20
    exact gq_dret C hr dX4_served_59 (Nat.le_of_ble_eq_true rfl) (Nat.le_of_ble_eq_true rfl)
abbrev rm_X4_outflow : Room := { frames := 2, cells := 0, slots := 0, locals := 42 }
def F_X4_outflow  (μ : Mm) : Option (Int32 × Mm) :=
  (some (uI μ 295 0 (0 : Int32))).bind fun m1 =>
  (F_X4_outflowNow  m1).bind fun o4 =>
  some (o4, m1)
set_option maxHeartbeats 4000000 in
set_option maxRecDepth 100000 in
theorem c_X4_outflow {l : Launch} {E : Ev} (hN : 311 ≤ eN E) {μ : Mm} {r : Int32} {μ' : Mm} (z0 : F_X4_outflow  μ = some (r, μ')) : Ct l E yX4_outflow (Cond.code yX4_outflow cX4_outflow 1 (some .int) :: GW) rm_X4_outflow [.ref (eB E + 295)] μ (some (.int r)) μ' := by
  refine ct_of (by decide) (Nat.le_of_ble_eq_true rfl) (fun p e s m args below meth c C hr => ?_)
  have C : Cq E p s m args meth c cX4_outflow 1 RX4 := C
  refine gq_lv (lv' := [(0, .ref (eB E + 295))]) rfl ?_
  unfold F_X4_outflow at z0
  refine gq_aload_n C dX4_outflow_0 rfl 0 rfl ?_
  refine gq_iconst (v := 0) C dX4_outflow_1 (by decide) ?_
  obtain ⟨m1, em1, z2⟩ := bind_ex z0
  refine gq_put5_0 C (qn_m 295 (by decide) hN) (by decide) wk_6_162 (Option.some.inj em1).symm dX4_outflow_2 ?_
  refine gq_aload_n C dX4_outflow_5 rfl 0 rfl ?_
  obtain ⟨x5, eo4, z3⟩ := bind_ex z2
  refine gq_V (As := []) (rest := []) (j := 5) C (c_X4_outflowNow hN  eo4) (qn_m 295 (by decide) hN) (by decide) (by decide) rfl wk_8_19 wk_8_21 ws_X4_outflowNow wk_1_9 wk_8_22 hd_X4_outflowNow ⟨(Nat.le_of_ble_eq_true rfl), (Nat.le_of_ble_eq_true rfl)⟩ (Nat.le_of_ble_eq_true rfl) ⟨(Nat.le_of_ble_eq_true rfl), (Nat.le_of_ble_eq_true rfl)⟩ dX4_outflow_6 rfl rfl ?_
  cases z3
  exact gq_iret C hr dX4_outflow_9 (Nat.le_of_ble_eq_true rfl) (Nat.le_of_ble_eq_true rfl)
abbrev rm_X4_isBalanced : Room := { frames := 1, cells := 0, slots := 0, locals := 22 }
def F_X4_isBalanced_9  (μ : Mm) : Nat → Int32 → Int32 → Option (Int32 × Mm)
  | 0, _, _ => none
  | n + 1, v1, v2 =>
  (aI μ 296 (0 : Int32)).bind fun x3 =>
  if x3 ≤ v2 then
  (some ((1 : Int32), μ))
  else
  ((F_X4_gaugeOf v2 (0 : Int32) μ).bind fun o8 =>
  (F_X4_gaugeOf v2 (3 : Int32) μ).bind fun o11 =>
  (F_X4_gaugeOf v2 (4 : Int32) μ).bind fun o14 =>
  (F_X4_gaugeOf v2 (2 : Int32) μ).bind fun o17 =>
  if o17 = (v1 + ((o8 - o11) + o14)) then
  (F_X4_isBalanced_9 μ n (v1 + ((o8 - o11) + o14)) (v2 + 1))
  else
  (some ((0 : Int32), μ)))
def F_X4_isBalanced  (μ : Mm) : Option (Int32 × Mm) :=
  (some (uI μ 295 0 (0 : Int32))).bind fun m1 =>
  F_X4_isBalanced_9 m1 qFuel (0 : Int32) (0 : Int32)
set_option maxHeartbeats 4000000 in
set_option maxRecDepth 100000 in
theorem l_X4_isBalanced_9 {l : Launch} {E : Ev} (hN : 311 ≤ eN E) {p : Program} {e : Env} {s : State} {m : MethodId} {args : Array Value} {below : List Frame} {meth : Method} {c : Code} (C : Cq E p s m args meth c cX4_isBalanced 3 RX4) (hr : meth.sig.returnType = (some .boolean)) {μ : Mm} : ∀ (n : Nat) (v1 : Int32) (v2 : Int32) (r : Int32) (μ' : Mm), F_X4_isBalanced_9 μ n v1 v2 = some (r, μ') → Gq E p l e rm_X4_isBalanced s m args below meth c 0 0 3 (MQ below (qQ E (some (.int r)) μ') args s rm_X4_isBalanced.cells rm_X4_isBalanced.slots (eA E)) 9 [(0, .ref (eB E + 295)), (1, .int v1), (2, .int v2)] [] μ := by
  intro n
  induction n with
  | zero =>
    intro v1 v2 r μ' z0
    rw [F_X4_isBalanced_9] at z0
    cases z0
  | succ n ih =>
    intro v1 v2 r μ' z0
    rw [F_X4_isBalanced_9] at z0
    refine gq_iload_n C dX4_isBalanced_9 rfl 2 rfl ?_
    refine gq_aload_n C dX4_isBalanced_10 rfl 0 rfl ?_
    refine gq_get5 C (qn_m 295 (by decide) hN) (by decide) 1 (by decide) wk_6_163 rfl dX4_isBalanced_11 ?_
    refine gq_iconst (v := 0) C dX4_isBalanced_14 (by decide) ?_
    obtain ⟨x3, ex3, z4⟩ := bind_ex z0
    refine gq_ialoadI C (qn_m 296 (by decide) hN) (by decide) ex3 dX4_isBalanced_15 ?_
    rcases ite_ex z4 with ⟨c5, z6⟩ | ⟨c5, z6⟩
    · refine gq_icmp_ge_t (tgt := 60) C dX4_isBalanced_16 (by decide) c5 ?_
      refine gq_iconst (v := 1) C dX4_isBalanced_60 (by decide) ?_
      cases z6
      exact gq_zret C hr (by decide) dX4_isBalanced_61 (Nat.le_of_ble_eq_true rfl) (Nat.le_of_ble_eq_true rfl)
    · refine gq_icmp_ge_f (tgt := 60) C dX4_isBalanced_16 (by decide) c5 ?_
      refine gq_iload_n C dX4_isBalanced_19 rfl 1 rfl ?_
      refine gq_aload_n C dX4_isBalanced_20 rfl 0 rfl ?_
      refine gq_iload_n C dX4_isBalanced_21 rfl 2 rfl ?_
      refine gq_iconst (v := 0) C dX4_isBalanced_22 (by decide) ?_
      obtain ⟨x9, eo8, z7⟩ := bind_ex z6
      refine gq_V (As := [.int v2, .int (0 : Int32)]) (rest := [.int v1]) (j := 5) C (c_X4_gaugeOf hN  eo8) (qn_m 295 (by decide) hN) (by decide) (by decide) rfl wk_7_231 wk_7_233 ws_X4_gaugeOf wk_1_9 wk_7_234 hd_X4_gaugeOf ⟨(Nat.le_of_ble_eq_true rfl), (Nat.le_of_ble_eq_true rfl)⟩ (Nat.le_of_ble_eq_true rfl) ⟨(Nat.le_of_ble_eq_true rfl), (Nat.le_of_ble_eq_true rfl)⟩ dX4_isBalanced_23 rfl rfl ?_
      refine gq_aload_n C dX4_isBalanced_26 rfl 0 rfl ?_
      refine gq_iload_n C dX4_isBalanced_27 rfl 2 rfl ?_
      refine gq_iconst (v := 3) C dX4_isBalanced_28 (by decide) ?_
      obtain ⟨x12, eo11, z10⟩ := bind_ex z7
      refine gq_V (As := [.int v2, .int (3 : Int32)]) (rest := [.int x9, .int v1]) (j := 5) C (c_X4_gaugeOf hN  eo11) (qn_m 295 (by decide) hN) (by decide) (by decide) rfl wk_7_231 wk_7_233 ws_X4_gaugeOf wk_1_9 wk_7_234 hd_X4_gaugeOf ⟨(Nat.le_of_ble_eq_true rfl), (Nat.le_of_ble_eq_true rfl)⟩ (Nat.le_of_ble_eq_true rfl) ⟨(Nat.le_of_ble_eq_true rfl), (Nat.le_of_ble_eq_true rfl)⟩ dX4_isBalanced_29 rfl rfl ?_
      refine gq_isub C dX4_isBalanced_32 ?_
      refine gq_aload_n C dX4_isBalanced_33 rfl 0 rfl ?_
      refine gq_iload_n C dX4_isBalanced_34 rfl 2 rfl ?_
      refine gq_iconst (v := 4) C dX4_isBalanced_35 (by decide) ?_
      obtain ⟨x15, eo14, z13⟩ := bind_ex z10
      refine gq_V (As := [.int v2, .int (4 : Int32)]) (rest := [.int (x9 - x12), .int v1]) (j := 5) C (c_X4_gaugeOf hN  eo14) (qn_m 295 (by decide) hN) (by decide) (by decide) rfl wk_7_231 wk_7_233 ws_X4_gaugeOf wk_1_9 wk_7_234 hd_X4_gaugeOf ⟨(Nat.le_of_ble_eq_true rfl), (Nat.le_of_ble_eq_true rfl)⟩ (Nat.le_of_ble_eq_true rfl) ⟨(Nat.le_of_ble_eq_true rfl), (Nat.le_of_ble_eq_true rfl)⟩ dX4_isBalanced_36 rfl rfl ?_
      refine gq_iadd C dX4_isBalanced_39 ?_
      refine gq_iadd C dX4_isBalanced_40 ?_
      refine gq_istore_n (lv' := [(1, .int (v1 + ((x9 - x12) + x15))), (0, .ref (eB E + 295)), (2, .int v2)]) C dX4_isBalanced_41 rfl (by decide) rfl ?_
      refine gq_aload_n C dX4_isBalanced_42 rfl 1 rfl ?_
      refine gq_iload_n C dX4_isBalanced_43 rfl 2 rfl ?_
      refine gq_iconst (v := 2) C dX4_isBalanced_44 (by decide) ?_
      obtain ⟨x18, eo17, z16⟩ := bind_ex z13
      refine gq_V (As := [.int v2, .int (2 : Int32)]) (rest := []) (j := 5) C (c_X4_gaugeOf hN  eo17) (qn_m 295 (by decide) hN) (by decide) (by decide) rfl wk_7_231 wk_7_233 ws_X4_gaugeOf wk_1_9 wk_7_234 hd_X4_gaugeOf ⟨(Nat.le_of_ble_eq_true rfl), (Nat.le_of_ble_eq_true rfl)⟩ (Nat.le_of_ble_eq_true rfl) ⟨(Nat.le_of_ble_eq_true rfl), (Nat.le_of_ble_eq_true rfl)⟩ dX4_isBalanced_45 rfl rfl ?_
      refine gq_iload_n C dX4_isBalanced_48 rfl 0 rfl ?_
      rcases ite_ex z16 with ⟨c19, z20⟩ | ⟨c19, z20⟩
      · refine gq_icmp_eq_t (tgt := 54) C dX4_isBalanced_49 (by decide) c19 ?_
        refine gq_iinc (v := (v2 + 1)) (lv' := [(2, .int (v2 + 1)), (1, .int (v1 + ((x9 - x12) + x15))), (0, .ref (eB E + 295))]) (q := 2) C dX4_isBalanced_54 rfl rfl (by decide) rfl ?_
        refine gq_goto (tgt := 9) C dX4_isBalanced_57 (by decide) ?_
        refine gq_widen (k' := 0) (n' := 0) (Nat.le_of_ble_eq_true rfl) (Nat.le_of_ble_eq_true rfl) (gq_sub [2, 1, 0] rfl ?_)
        exact ih _ _ _ _ z20
      · refine gq_icmp_eq_f (tgt := 54) C dX4_isBalanced_49 (by decide) c19 ?_
        refine gq_iconst (v := 0) C dX4_isBalanced_52 (by decide) ?_
        cases z20
        exact gq_zret C hr (by decide) dX4_isBalanced_53 (Nat.le_of_ble_eq_true rfl) (Nat.le_of_ble_eq_true rfl)
set_option maxHeartbeats 4000000 in
set_option maxRecDepth 100000 in
theorem c_X4_isBalanced {l : Launch} {E : Ev} (hN : 311 ≤ eN E) {μ : Mm} {r : Int32} {μ' : Mm} (z0 : F_X4_isBalanced  μ = some (r, μ')) : Ct l E yX4_isBalanced (Cond.code yX4_isBalanced cX4_isBalanced 3 (some .boolean) :: GW) rm_X4_isBalanced [.ref (eB E + 295)] μ (some (.int r)) μ' := by
  refine ct_of (by decide) (Nat.le_of_ble_eq_true rfl) (fun p e s m args below meth c C hr => ?_)
  have C : Cq E p s m args meth c cX4_isBalanced 3 RX4 := C
  refine gq_lv (lv' := [(0, .ref (eB E + 295))]) rfl ?_
  unfold F_X4_isBalanced at z0
  refine gq_aload_n C dX4_isBalanced_0 rfl 0 rfl ?_
  refine gq_iconst (v := 0) C dX4_isBalanced_1 (by decide) ?_
  obtain ⟨m1, em1, z2⟩ := bind_ex z0
  refine gq_put5_0 C (qn_m 295 (by decide) hN) (by decide) wk_6_162 (Option.some.inj em1).symm dX4_isBalanced_2 ?_
  refine gq_iconst (v := 0) C dX4_isBalanced_5 (by decide) ?_
  refine gq_istore_n (lv' := [(1, .int (0 : Int32)), (0, .ref (eB E + 295))]) C dX4_isBalanced_6 rfl (by decide) rfl ?_
  refine gq_iconst (v := 0) C dX4_isBalanced_7 (by decide) ?_
  refine gq_istore_n (lv' := [(2, .int (0 : Int32)), (1, .int (0 : Int32)), (0, .ref (eB E + 295))]) C dX4_isBalanced_8 rfl (by decide) rfl ?_
  refine gq_widen (k' := 0) (n' := 0) (Nat.le_of_ble_eq_true rfl) (Nat.le_of_ble_eq_true rfl) (gq_sub [2, 1, 0] rfl ?_)
  exact l_X4_isBalanced_9 hN C hr  qFuel _ _ _ _ z2
abbrev rm_X4_got : Room := { frames := 2, cells := 0, slots := 0, locals := 43 }
def F_X4_got (p1 : Int32) (μ : Mm) : Option (Int32 × Mm) :=
  (F_X4_isAccount p1 μ).bind fun o2 =>
  (if o2 = 0 then
  (some (1 : Int32))
  else
  (some (0 : Int32))).bind fun o9 =>
  (some (uI μ 295 0 o9)).bind fun m10 =>
  if (m10.1 295 0) ≤ 0 then
  ((aI m10 296 ((31 : Int32) + p1)).bind fun x14 =>
  some (x14, m10))
  else
  (some ((0 : Int32), m10))
set_option maxHeartbeats 4000000 in
set_option maxRecDepth 100000 in
theorem c_X4_got {l : Launch} {E : Ev} (hN : 311 ≤ eN E) {p1 : Int32} {μ : Mm} {r : Int32} {μ' : Mm} (z0 : F_X4_got p1 μ = some (r, μ')) : Ct l E yX4_got (Cond.code yX4_got cX4_got 2 (some .int) :: GW) rm_X4_got [.ref (eB E + 295), .int p1] μ (some (.int r)) μ' := by
  refine ct_of (by decide) (Nat.le_of_ble_eq_true rfl) (fun p e s m args below meth c C hr => ?_)
  have C : Cq E p s m args meth c cX4_got 2 RX4 := C
  refine gq_lv (lv' := [(0, .ref (eB E + 295)), (1, .int p1)]) rfl ?_
  unfold F_X4_got at z0
  refine gq_aload_n C dX4_got_0 rfl 0 rfl ?_
  refine gq_aload_n C dX4_got_1 rfl 0 rfl ?_
  refine gq_iload_n C dX4_got_2 rfl 1 rfl ?_
  obtain ⟨x3, eo2, z1⟩ := bind_ex z0
  refine gq_V (As := [.int p1]) (rest := [.ref (eB E + 295)]) (j := 5) C (c_X4_isAccount hN  eo2) (qn_m 295 (by decide) hN) (by decide) (by decide) rfl wk_7_163 wk_7_165 ws_X4_isAccount wk_1_9 wk_7_166 hd_X4_isAccount ⟨(Nat.le_of_ble_eq_true rfl), (Nat.le_of_ble_eq_true rfl)⟩ (Nat.le_of_ble_eq_true rfl) ⟨(Nat.le_of_ble_eq_true rfl), (Nat.le_of_ble_eq_true rfl)⟩ dX4_got_3 rfl rfl ?_
  obtain ⟨x4, z5, z6⟩ := bind_ex z1
  refine gq_join (k' := 0) (n' := 0) (pc' := 14) (lv' := [(0, .ref (eB E + 295)), (1, .int p1)]) (st' := [.int x4, .ref (eB E + 295)]) (μ' := μ) ?_ (fun J14 => ?_)
  · obtain ⟨m10, em10, z11⟩ := bind_ex z6
    refine gq_put5_0 C (qn_m 295 (by decide) hN) (by decide) wk_6_162 (Option.some.inj em10).symm dX4_got_14 ?_
    refine gq_aload_n C dX4_got_17 rfl 0 rfl ?_
    refine gq_get5 C (qn_m 295 (by decide) hN) (by decide) 0 (by decide) wk_6_162 rfl dX4_got_18 ?_
    rcases ite_ex z11 with ⟨c12, z13⟩ | ⟨c12, z13⟩
    · refine gq_if_le_t (tgt := 28) C dX4_got_21 (by decide) c12 ?_
      refine gq_aload_n C dX4_got_28 rfl 0 rfl ?_
      refine gq_get5 C (qn_m 295 (by decide) hN) (by decide) 1 (by decide) wk_6_163 rfl dX4_got_29 ?_
      refine gq_bipush (v := 31) C dX4_got_32 (by decide) ?_
      refine gq_iload_n C dX4_got_34 rfl 1 rfl ?_
      refine gq_iadd C dX4_got_35 ?_
      obtain ⟨x14, ex14, z15⟩ := bind_ex z13
      refine gq_ialoadI C (qn_m 296 (by decide) hN) (by decide) ex14 dX4_got_36 ?_
      cases z15
      exact gq_iret C hr dX4_got_37 (Nat.le_of_ble_eq_true rfl) (Nat.le_of_ble_eq_true rfl)
    · refine gq_if_le_f (tgt := 28) C dX4_got_21 (by decide) c12 ?_
      refine gq_iconst (v := 0) C dX4_got_24 (by decide) ?_
      refine gq_goto (tgt := 37) C dX4_got_25 (by decide) ?_
      cases z13
      exact gq_iret C hr dX4_got_37 (Nat.le_of_ble_eq_true rfl) (Nat.le_of_ble_eq_true rfl)
  · rcases ite_ex z5 with ⟨c7, z8⟩ | ⟨c7, z8⟩
    · refine gq_if_eq_t (tgt := 13) C dX4_got_6 (by decide) c7 ?_
      refine gq_iconst (v := 1) C dX4_got_13 (by decide) ?_
      cases z8
      exact gq_widen (Nat.le_of_ble_eq_true rfl) (Nat.le_of_ble_eq_true rfl) (gq_sub [0, 1] rfl J14)
    · refine gq_if_eq_f (tgt := 13) C dX4_got_6 (by decide) c7 ?_
      refine gq_iconst (v := 0) C dX4_got_9 (by decide) ?_
      refine gq_goto (tgt := 14) C dX4_got_10 (by decide) ?_
      cases z8
      exact gq_widen (Nat.le_of_ble_eq_true rfl) (Nat.le_of_ble_eq_true rfl) (gq_sub [0, 1] rfl J14)
abbrev rm_X4_earned : Room := { frames := 2, cells := 0, slots := 0, locals := 43 }
def F_X4_earned (p1 : Int32) (μ : Mm) : Option (Int64 × Mm) :=
  (F_X4_isRight p1 μ).bind fun o2 =>
  (if o2 = 0 then
  (some (1 : Int32))
  else
  (some (0 : Int32))).bind fun o9 =>
  (some (uI μ 295 0 o9)).bind fun m10 =>
  if (m10.1 295 0) ≤ 0 then
  ((aL m10 300 ((5 : Int32) + p1)).bind fun x14 =>
  some (x14, m10))
  else
  (some ((0 : Int64), m10))
set_option maxHeartbeats 4000000 in
set_option maxRecDepth 100000 in
theorem c_X4_earned {l : Launch} {E : Ev} (hN : 311 ≤ eN E) {p1 : Int32} {μ : Mm} {r : Int64} {μ' : Mm} (z0 : F_X4_earned p1 μ = some (r, μ')) : Ct l E yX4_earned (Cond.code yX4_earned cX4_earned 2 (some .long) :: GW) rm_X4_earned [.ref (eB E + 295), .int p1] μ (some (.long r)) μ' := by
  refine ct_of (by decide) (Nat.le_of_ble_eq_true rfl) (fun p e s m args below meth c C hr => ?_)
  have C : Cq E p s m args meth c cX4_earned 2 RX4 := C
  refine gq_lv (lv' := [(0, .ref (eB E + 295)), (1, .int p1)]) rfl ?_
  unfold F_X4_earned at z0
  refine gq_aload_n C dX4_earned_0 rfl 0 rfl ?_
  refine gq_aload_n C dX4_earned_1 rfl 0 rfl ?_
  refine gq_iload_n C dX4_earned_2 rfl 1 rfl ?_
  obtain ⟨x3, eo2, z1⟩ := bind_ex z0
  refine gq_V (As := [.int p1]) (rest := [.ref (eB E + 295)]) (j := 5) C (c_X4_isRight hN  eo2) (qn_m 295 (by decide) hN) (by decide) (by decide) rfl wk_7_175 wk_7_177 ws_X4_isRight wk_1_9 wk_7_178 hd_X4_isRight ⟨(Nat.le_of_ble_eq_true rfl), (Nat.le_of_ble_eq_true rfl)⟩ (Nat.le_of_ble_eq_true rfl) ⟨(Nat.le_of_ble_eq_true rfl), (Nat.le_of_ble_eq_true rfl)⟩ dX4_earned_3 rfl rfl ?_
  obtain ⟨x4, z5, z6⟩ := bind_ex z1
  refine gq_join (k' := 0) (n' := 0) (pc' := 14) (lv' := [(0, .ref (eB E + 295)), (1, .int p1)]) (st' := [.int x4, .ref (eB E + 295)]) (μ' := μ) ?_ (fun J14 => ?_)
  · obtain ⟨m10, em10, z11⟩ := bind_ex z6
    refine gq_put5_0 C (qn_m 295 (by decide) hN) (by decide) wk_6_162 (Option.some.inj em10).symm dX4_earned_14 ?_
    refine gq_aload_n C dX4_earned_17 rfl 0 rfl ?_
    refine gq_get5 C (qn_m 295 (by decide) hN) (by decide) 0 (by decide) wk_6_162 rfl dX4_earned_18 ?_
    rcases ite_ex z11 with ⟨c12, z13⟩ | ⟨c12, z13⟩
    · refine gq_if_le_t (tgt := 28) C dX4_earned_21 (by decide) c12 ?_
      refine gq_aload_n C dX4_earned_28 rfl 0 rfl ?_
      refine gq_get5 C (qn_m 295 (by decide) hN) (by decide) 5 (by decide) wk_6_167 rfl dX4_earned_29 ?_
      refine gq_iconst (v := 5) C dX4_earned_32 (by decide) ?_
      refine gq_iload_n C dX4_earned_33 rfl 1 rfl ?_
      refine gq_iadd C dX4_earned_34 ?_
      obtain ⟨x14, ex14, z15⟩ := bind_ex z13
      refine gq_laloadL C (qn_m 300 (by decide) hN) (by decide) ex14 dX4_earned_35 ?_
      cases z15
      exact gq_lret C hr dX4_earned_36 (Nat.le_of_ble_eq_true rfl) (Nat.le_of_ble_eq_true rfl)
    · refine gq_if_le_f (tgt := 28) C dX4_earned_21 (by decide) c12 ?_
      refine gq_lconst (v := 0) C dX4_earned_24 (by decide) ?_
      refine gq_goto (tgt := 36) C dX4_earned_25 (by decide) ?_
      cases z13
      exact gq_lret C hr dX4_earned_36 (Nat.le_of_ble_eq_true rfl) (Nat.le_of_ble_eq_true rfl)
  · rcases ite_ex z5 with ⟨c7, z8⟩ | ⟨c7, z8⟩
    · refine gq_if_eq_t (tgt := 13) C dX4_earned_6 (by decide) c7 ?_
      refine gq_iconst (v := 1) C dX4_earned_13 (by decide) ?_
      cases z8
      exact gq_widen (Nat.le_of_ble_eq_true rfl) (Nat.le_of_ble_eq_true rfl) (gq_sub [0, 1] rfl J14)
    · refine gq_if_eq_f (tgt := 13) C dX4_earned_6 (by decide) c7 ?_
      refine gq_iconst (v := 0) C dX4_earned_9 (by decide) ?_
      refine gq_goto (tgt := 14) C dX4_earned_10 (by decide) ?_
      cases z8
      exact gq_widen (Nat.le_of_ble_eq_true rfl) (Nat.le_of_ble_eq_true rfl) (gq_sub [0, 1] rfl J14)
abbrev rm_X4_bankedInAll : Room := { frames := 0, cells := 0, slots := 0, locals := 0 }
def F_X4_bankedInAll  (μ : Mm) : Option (Int32 × Mm) :=
  (some (uI μ 295 0 (0 : Int32))).bind fun m1 =>
  (aI m1 296 (53 : Int32)).bind fun x3 =>
  some (x3, m1)
set_option maxHeartbeats 4000000 in
set_option maxRecDepth 100000 in
theorem c_X4_bankedInAll {l : Launch} {E : Ev} (hN : 311 ≤ eN E) {μ : Mm} {r : Int32} {μ' : Mm} (z0 : F_X4_bankedInAll  μ = some (r, μ')) : Ct l E yX4_bankedInAll (Cond.code yX4_bankedInAll cX4_bankedInAll 1 (some .int) :: GW) rm_X4_bankedInAll [.ref (eB E + 295)] μ (some (.int r)) μ' := by
  refine ct_of (by decide) (Nat.le_of_ble_eq_true rfl) (fun p e s m args below meth c C hr => ?_)
  have C : Cq E p s m args meth c cX4_bankedInAll 1 RX4 := C
  refine gq_lv (lv' := [(0, .ref (eB E + 295))]) rfl ?_
  unfold F_X4_bankedInAll at z0
  refine gq_aload_n C dX4_bankedInAll_0 rfl 0 rfl ?_
  refine gq_iconst (v := 0) C dX4_bankedInAll_1 (by decide) ?_
  obtain ⟨m1, em1, z2⟩ := bind_ex z0
  refine gq_put5_0 C (qn_m 295 (by decide) hN) (by decide) wk_6_162 (Option.some.inj em1).symm dX4_bankedInAll_2 ?_
  refine gq_aload_n C dX4_bankedInAll_5 rfl 0 rfl ?_
  refine gq_get5 C (qn_m 295 (by decide) hN) (by decide) 1 (by decide) wk_6_163 rfl dX4_bankedInAll_6 ?_
  refine gq_bipush (v := 53) C dX4_bankedInAll_9 (by decide) ?_
  obtain ⟨x3, ex3, z4⟩ := bind_ex z2
  refine gq_ialoadI C (qn_m 296 (by decide) hN) (by decide) ex3 dX4_bankedInAll_11 ?_
  cases z4
  exact gq_iret C hr dX4_bankedInAll_12 (Nat.le_of_ble_eq_true rfl) (Nat.le_of_ble_eq_true rfl)
abbrev rm_X4_lostInAll : Room := { frames := 0, cells := 0, slots := 0, locals := 0 }
def F_X4_lostInAll  (μ : Mm) : Option (Int32 × Mm) :=
  (some (uI μ 295 0 (0 : Int32))).bind fun m1 =>
  (aI m1 296 (54 : Int32)).bind fun x3 =>
  some (x3, m1)
set_option maxHeartbeats 4000000 in
set_option maxRecDepth 100000 in
theorem c_X4_lostInAll {l : Launch} {E : Ev} (hN : 311 ≤ eN E) {μ : Mm} {r : Int32} {μ' : Mm} (z0 : F_X4_lostInAll  μ = some (r, μ')) : Ct l E yX4_lostInAll (Cond.code yX4_lostInAll cX4_lostInAll 1 (some .int) :: GW) rm_X4_lostInAll [.ref (eB E + 295)] μ (some (.int r)) μ' := by
  refine ct_of (by decide) (Nat.le_of_ble_eq_true rfl) (fun p e s m args below meth c C hr => ?_)
  have C : Cq E p s m args meth c cX4_lostInAll 1 RX4 := C
  refine gq_lv (lv' := [(0, .ref (eB E + 295))]) rfl ?_
  unfold F_X4_lostInAll at z0
  refine gq_aload_n C dX4_lostInAll_0 rfl 0 rfl ?_
  refine gq_iconst (v := 0) C dX4_lostInAll_1 (by decide) ?_
  obtain ⟨m1, em1, z2⟩ := bind_ex z0
  refine gq_put5_0 C (qn_m 295 (by decide) hN) (by decide) wk_6_162 (Option.some.inj em1).symm dX4_lostInAll_2 ?_
  refine gq_aload_n C dX4_lostInAll_5 rfl 0 rfl ?_
  refine gq_get5 C (qn_m 295 (by decide) hN) (by decide) 1 (by decide) wk_6_163 rfl dX4_lostInAll_6 ?_
  refine gq_bipush (v := 54) C dX4_lostInAll_9 (by decide) ?_
  obtain ⟨x3, ex3, z4⟩ := bind_ex z2
  refine gq_ialoadI C (qn_m 296 (by decide) hN) (by decide) ex3 dX4_lostInAll_11 ?_
  cases z4
  exact gq_iret C hr dX4_lostInAll_12 (Nat.le_of_ble_eq_true rfl) (Nat.le_of_ble_eq_true rfl)
abbrev rm_X4_releasedInAll : Room := { frames := 0, cells := 0, slots := 0, locals := 0 }
def F_X4_releasedInAll  (μ : Mm) : Option (Int32 × Mm) :=
  (some (uI μ 295 0 (0 : Int32))).bind fun m1 =>
  (aI m1 296 (55 : Int32)).bind fun x3 =>
  some (x3, m1)
set_option maxHeartbeats 4000000 in
set_option maxRecDepth 100000 in
theorem c_X4_releasedInAll {l : Launch} {E : Ev} (hN : 311 ≤ eN E) {μ : Mm} {r : Int32} {μ' : Mm} (z0 : F_X4_releasedInAll  μ = some (r, μ')) : Ct l E yX4_releasedInAll (Cond.code yX4_releasedInAll cX4_releasedInAll 1 (some .int) :: GW) rm_X4_releasedInAll [.ref (eB E + 295)] μ (some (.int r)) μ' := by
  refine ct_of (by decide) (Nat.le_of_ble_eq_true rfl) (fun p e s m args below meth c C hr => ?_)
  have C : Cq E p s m args meth c cX4_releasedInAll 1 RX4 := C
  refine gq_lv (lv' := [(0, .ref (eB E + 295))]) rfl ?_
  unfold F_X4_releasedInAll at z0
  refine gq_aload_n C dX4_releasedInAll_0 rfl 0 rfl ?_
  refine gq_iconst (v := 0) C dX4_releasedInAll_1 (by decide) ?_
  obtain ⟨m1, em1, z2⟩ := bind_ex z0
  refine gq_put5_0 C (qn_m 295 (by decide) hN) (by decide) wk_6_162 (Option.some.inj em1).symm dX4_releasedInAll_2 ?_
  refine gq_aload_n C dX4_releasedInAll_5 rfl 0 rfl ?_
  refine gq_get5 C (qn_m 295 (by decide) hN) (by decide) 1 (by decide) wk_6_163 rfl dX4_releasedInAll_6 ?_
  refine gq_bipush (v := 55) C dX4_releasedInAll_9 (by decide) ?_
  obtain ⟨x3, ex3, z4⟩ := bind_ex z2
  refine gq_ialoadI C (qn_m 296 (by decide) hN) (by decide) ex3 dX4_releasedInAll_11 ?_
  cases z4
  exact gq_iret C hr dX4_releasedInAll_12 (Nat.le_of_ble_eq_true rfl) (Nat.le_of_ble_eq_true rfl)
abbrev rm_X4_areAccountsRight : Room := { frames := 0, cells := 0, slots := 0, locals := 0 }
def F_X4_areAccountsRight_12  (μ : Mm) : Nat → Int32 → Int64 → Int32 → Option (Int32 × Int64)
  | 0, _, _, _ => none
  | n + 1, v1, v2, v4 =>
  (aI μ 296 (1 : Int32)).bind fun x3 =>
  if x3 ≤ v4 then
  (some (v1, v2))
  else
  ((aI μ 296 ((26 : Int32) + v4)).bind fun x7 =>
  (aL μ 300 v4).bind fun x9 =>
  F_X4_areAccountsRight_12 μ n (v1 + x7) (v2 + x9) (v4 + 1))
def F_X4_areAccountsRight  (μ : Mm) : Option (Int32 × Mm) :=
  (some (uI μ 295 0 (0 : Int32))).bind fun m1 =>
  (F_X4_areAccountsRight_12 m1 qFuel (0 : Int32) (0 : Int64) (0 : Int32)).bind fun o12 =>
  (aI m1 296 (53 : Int32)).bind fun x15 =>
  (aI m1 296 (54 : Int32)).bind fun x17 =>
  (aI m1 296 (55 : Int32)).bind fun x19 =>
  if o12.1 = ((x15 - x17) - x19) then
  (if (lg_cmp o12.2 (0 : Int64)) = 0 then
  (some ((1 : Int32), m1))
  else
  (some ((0 : Int32), m1)))
  else
  (some ((0 : Int32), m1))
set_option maxHeartbeats 4000000 in
set_option maxRecDepth 100000 in
theorem l_X4_areAccountsRight_12 {l : Launch} {E : Ev} (hN : 311 ≤ eN E) {p : Program} {e : Env} {s : State} {m : MethodId} {args : Array Value} {below : List Frame} {meth : Method} {c : Code} (C : Cq E p s m args meth c cX4_areAccountsRight 5 RX4) {Q : State → Prop} {μ : Mm} : ∀ (n : Nat) (v1 : Int32) (v2 : Int64) (v4 : Int32) (w1 : Int32) (w2 : Int64), F_X4_areAccountsRight_12 μ n v1 v2 v4 = some (w1, w2) → Gq E p l e rm_X4_areAccountsRight s m args below meth c 0 0 5 Q 52 [(0, .ref (eB E + 295)), (1, .int w1), (2, .long w2)] [] μ → Gq E p l e rm_X4_areAccountsRight s m args below meth c 0 0 5 Q 12 [(0, .ref (eB E + 295)), (1, .int v1), (2, .long v2), (4, .int v4)] [] μ := by
  intro n
  induction n with
  | zero =>
    intro v1 v2 v4 w1 w2 z0 kk
    rw [F_X4_areAccountsRight_12] at z0
    cases z0
  | succ n ih =>
    intro v1 v2 v4 w1 w2 z0 kk
    rw [F_X4_areAccountsRight_12] at z0
    refine gq_iload C dX4_areAccountsRight_12 3 rfl ?_
    refine gq_aload_n C dX4_areAccountsRight_14 rfl 0 rfl ?_
    refine gq_get5 C (qn_m 295 (by decide) hN) (by decide) 1 (by decide) wk_6_163 rfl dX4_areAccountsRight_15 ?_
    refine gq_iconst (v := 1) C dX4_areAccountsRight_18 (by decide) ?_
    obtain ⟨x3, ex3, z4⟩ := bind_ex z0
    refine gq_ialoadI C (qn_m 296 (by decide) hN) (by decide) ex3 dX4_areAccountsRight_19 ?_
    rcases ite_ex z4 with ⟨c5, z6⟩ | ⟨c5, z6⟩
    · refine gq_icmp_ge_t (tgt := 52) C dX4_areAccountsRight_20 (by decide) c5 ?_
      cases z6
      exact gq_widen (Nat.le_of_ble_eq_true rfl) (Nat.le_of_ble_eq_true rfl) (gq_sub [0, 1, 2] rfl kk)
    · refine gq_icmp_ge_f (tgt := 52) C dX4_areAccountsRight_20 (by decide) c5 ?_
      refine gq_iload_n C dX4_areAccountsRight_23 rfl 1 rfl ?_
      refine gq_aload_n C dX4_areAccountsRight_24 rfl 0 rfl ?_
      refine gq_get5 C (qn_m 295 (by decide) hN) (by decide) 1 (by decide) wk_6_163 rfl dX4_areAccountsRight_25 ?_
      refine gq_bipush (v := 26) C dX4_areAccountsRight_28 (by decide) ?_
      refine gq_iload C dX4_areAccountsRight_30 3 rfl ?_
      refine gq_iadd C dX4_areAccountsRight_32 ?_
      obtain ⟨x7, ex7, z8⟩ := bind_ex z6
      refine gq_ialoadI C (qn_m 296 (by decide) hN) (by decide) ex7 dX4_areAccountsRight_33 ?_
      refine gq_iadd C dX4_areAccountsRight_34 ?_
      refine gq_istore_n (lv' := [(1, .int (v1 + x7)), (0, .ref (eB E + 295)), (2, .long v2), (4, .int v4)]) C dX4_areAccountsRight_35 rfl (by decide) rfl ?_
      refine gq_lload_n C dX4_areAccountsRight_36 rfl 2 rfl ?_
      refine gq_aload_n C dX4_areAccountsRight_37 rfl 1 rfl ?_
      refine gq_get5 C (qn_m 295 (by decide) hN) (by decide) 5 (by decide) wk_6_167 rfl dX4_areAccountsRight_38 ?_
      refine gq_iload C dX4_areAccountsRight_41 3 rfl ?_
      obtain ⟨x9, ex9, z10⟩ := bind_ex z8
      refine gq_laloadL C (qn_m 300 (by decide) hN) (by decide) ex9 dX4_areAccountsRight_43 ?_
      refine gq_ladd C dX4_areAccountsRight_44 ?_
      refine gq_lstore_n (lv' := [(2, .long (v2 + x9)), (1, .int (v1 + x7)), (0, .ref (eB E + 295)), (4, .int v4)]) C dX4_areAccountsRight_45 rfl (by decide) rfl ?_
      refine gq_iinc (v := (v4 + 1)) (lv' := [(4, .int (v4 + 1)), (2, .long (v2 + x9)), (1, .int (v1 + x7)), (0, .ref (eB E + 295))]) (q := 3) C dX4_areAccountsRight_46 rfl rfl (by decide) rfl ?_
      refine gq_goto (tgt := 12) C dX4_areAccountsRight_49 (by decide) ?_
      refine gq_widen (k' := 0) (n' := 0) (Nat.le_of_ble_eq_true rfl) (Nat.le_of_ble_eq_true rfl) (gq_sub [3, 2, 1, 0] rfl ?_)
      exact ih _ _ _ _ _ z10 kk
set_option maxHeartbeats 4000000 in
set_option maxRecDepth 100000 in
theorem c_X4_areAccountsRight {l : Launch} {E : Ev} (hN : 311 ≤ eN E) {μ : Mm} {r : Int32} {μ' : Mm} (z0 : F_X4_areAccountsRight  μ = some (r, μ')) : Ct l E yX4_areAccountsRight (Cond.code yX4_areAccountsRight cX4_areAccountsRight 5 (some .boolean) :: GW) rm_X4_areAccountsRight [.ref (eB E + 295)] μ (some (.int r)) μ' := by
  refine ct_of (by decide) (Nat.le_of_ble_eq_true rfl) (fun p e s m args below meth c C hr => ?_)
  have C : Cq E p s m args meth c cX4_areAccountsRight 5 RX4 := C
  refine gq_lv (lv' := [(0, .ref (eB E + 295))]) rfl ?_
  unfold F_X4_areAccountsRight at z0
  refine gq_aload_n C dX4_areAccountsRight_0 rfl 0 rfl ?_
  refine gq_iconst (v := 0) C dX4_areAccountsRight_1 (by decide) ?_
  obtain ⟨m1, em1, z2⟩ := bind_ex z0
  refine gq_put5_0 C (qn_m 295 (by decide) hN) (by decide) wk_6_162 (Option.some.inj em1).symm dX4_areAccountsRight_2 ?_
  refine gq_iconst (v := 0) C dX4_areAccountsRight_5 (by decide) ?_
  refine gq_istore_n (lv' := [(1, .int (0 : Int32)), (0, .ref (eB E + 295))]) C dX4_areAccountsRight_6 rfl (by decide) rfl ?_
  refine gq_lconst (v := 0) C dX4_areAccountsRight_7 (by decide) ?_
  refine gq_lstore_n (lv' := [(2, .long (0 : Int64)), (1, .int (0 : Int32)), (0, .ref (eB E + 295))]) C dX4_areAccountsRight_8 rfl (by decide) rfl ?_
  refine gq_iconst (v := 0) C dX4_areAccountsRight_9 (by decide) ?_
  refine gq_istore (lv' := [(4, .int (0 : Int32)), (2, .long (0 : Int64)), (1, .int (0 : Int32)), (0, .ref (eB E + 295))]) C dX4_areAccountsRight_10 (by decide) rfl ?_
  obtain ⟨⟨x13, x14⟩, eo12, z11⟩ := bind_ex z2
  dsimp only at z11
  refine gq_widen (k' := 0) (n' := 0) (Nat.le_of_ble_eq_true rfl) (Nat.le_of_ble_eq_true rfl) (gq_sub [3, 2, 1, 0] rfl ?_)
  refine l_X4_areAccountsRight_12 hN C  qFuel _ _ _ _ _ eo12 ?_
  refine gq_iload_n C dX4_areAccountsRight_52 rfl 1 rfl ?_
  refine gq_aload_n C dX4_areAccountsRight_53 rfl 0 rfl ?_
  refine gq_get5 C (qn_m 295 (by decide) hN) (by decide) 1 (by decide) wk_6_163 rfl dX4_areAccountsRight_54 ?_
  refine gq_bipush (v := 53) C dX4_areAccountsRight_57 (by decide) ?_
  obtain ⟨x15, ex15, z16⟩ := bind_ex z11
  refine gq_ialoadI C (qn_m 296 (by decide) hN) (by decide) ex15 dX4_areAccountsRight_59 ?_
  refine gq_aload_n C dX4_areAccountsRight_60 rfl 0 rfl ?_
  refine gq_get5 C (qn_m 295 (by decide) hN) (by decide) 1 (by decide) wk_6_163 rfl dX4_areAccountsRight_61 ?_
  refine gq_bipush (v := 54) C dX4_areAccountsRight_64 (by decide) ?_
  obtain ⟨x17, ex17, z18⟩ := bind_ex z16
  refine gq_ialoadI C (qn_m 296 (by decide) hN) (by decide) ex17 dX4_areAccountsRight_66 ?_
  refine gq_isub C dX4_areAccountsRight_67 ?_
  refine gq_aload_n C dX4_areAccountsRight_68 rfl 0 rfl ?_
  refine gq_get5 C (qn_m 295 (by decide) hN) (by decide) 1 (by decide) wk_6_163 rfl dX4_areAccountsRight_69 ?_
  refine gq_bipush (v := 55) C dX4_areAccountsRight_72 (by decide) ?_
  obtain ⟨x19, ex19, z20⟩ := bind_ex z18
  refine gq_ialoadI C (qn_m 296 (by decide) hN) (by decide) ex19 dX4_areAccountsRight_74 ?_
  refine gq_isub C dX4_areAccountsRight_75 ?_
  rcases ite_ex z20 with ⟨c21, z22⟩ | ⟨c21, z22⟩
  · refine gq_icmp_ne_f (tgt := 89) C dX4_areAccountsRight_76 (by decide) c21 ?_
    refine gq_lload_n C dX4_areAccountsRight_79 rfl 2 rfl ?_
    refine gq_lconst (v := 0) C dX4_areAccountsRight_80 (by decide) ?_
    refine gq_lcmp C dX4_areAccountsRight_81 ?_
    rcases ite_ex z22 with ⟨c23, z24⟩ | ⟨c23, z24⟩
    · refine gq_if_ne_f (tgt := 89) C dX4_areAccountsRight_82 (by decide) c23 ?_
      refine gq_iconst (v := 1) C dX4_areAccountsRight_85 (by decide) ?_
      refine gq_goto (tgt := 90) C dX4_areAccountsRight_86 (by decide) ?_
      cases z24
      exact gq_zret C hr (by decide) dX4_areAccountsRight_90 (Nat.le_of_ble_eq_true rfl) (Nat.le_of_ble_eq_true rfl)
    · refine gq_if_ne_t (tgt := 89) C dX4_areAccountsRight_82 (by decide) c23 ?_
      refine gq_iconst (v := 0) C dX4_areAccountsRight_89 (by decide) ?_
      cases z24
      exact gq_zret C hr (by decide) dX4_areAccountsRight_90 (Nat.le_of_ble_eq_true rfl) (Nat.le_of_ble_eq_true rfl)
  · refine gq_icmp_ne_t (tgt := 89) C dX4_areAccountsRight_76 (by decide) c21 ?_
    refine gq_iconst (v := 0) C dX4_areAccountsRight_89 (by decide) ?_
    cases z22
    exact gq_zret C hr (by decide) dX4_areAccountsRight_90 (Nat.le_of_ble_eq_true rfl) (Nat.le_of_ble_eq_true rfl)
abbrev rm_X4_richest : Room := { frames := 0, cells := 0, slots := 0, locals := 0 }
def F_X4_richest_9  (μ : Mm) : Nat → Int32 → Int32 → Option Int32
  | 0, _, _ => none
  | n + 1, v1, v2 =>
  (aI μ 296 (1 : Int32)).bind fun x3 =>
  if x3 ≤ v2 then
  (some v1)
  else
  ((aL μ 300 v2).bind fun x7 =>
  (aL μ 300 v1).bind fun x9 =>
  (if (lg_cmp x7 x9) ≤ 0 then
  (some v1)
  else
  (some v2)).bind fun o16 =>
  F_X4_richest_9 μ n o16 (v2 + 1))
def F_X4_richest  (μ : Mm) : Option (Int32 × Mm) :=
  (some (uI μ 295 0 (0 : Int32))).bind fun m1 =>
  (F_X4_richest_9 m1 qFuel (0 : Int32) (1 : Int32)).bind fun o18 =>
  some (o18, m1)
set_option maxHeartbeats 4000000 in
set_option maxRecDepth 100000 in
theorem l_X4_richest_9 {l : Launch} {E : Ev} (hN : 311 ≤ eN E) {p : Program} {e : Env} {s : State} {m : MethodId} {args : Array Value} {below : List Frame} {meth : Method} {c : Code} (C : Cq E p s m args meth c cX4_richest 3 RX4) {Q : State → Prop} {μ : Mm} : ∀ (n : Nat) (v1 : Int32) (v2 : Int32) (w1 : Int32), F_X4_richest_9 μ n v1 v2 = some w1 → Gq E p l e rm_X4_richest s m args below meth c 0 0 3 Q 47 [(1, .int w1)] [] μ → Gq E p l e rm_X4_richest s m args below meth c 0 0 3 Q 9 [(0, .ref (eB E + 295)), (1, .int v1), (2, .int v2)] [] μ := by
  intro n
  induction n with
  | zero =>
    intro v1 v2 w1 z0 kk
    rw [F_X4_richest_9] at z0
    cases z0
  | succ n ih =>
    intro v1 v2 w1 z0 kk
    rw [F_X4_richest_9] at z0
    refine gq_iload_n C dX4_richest_9 rfl 2 rfl ?_
    refine gq_aload_n C dX4_richest_10 rfl 0 rfl ?_
    refine gq_get5 C (qn_m 295 (by decide) hN) (by decide) 1 (by decide) wk_6_163 rfl dX4_richest_11 ?_
    refine gq_iconst (v := 1) C dX4_richest_14 (by decide) ?_
    obtain ⟨x3, ex3, z4⟩ := bind_ex z0
    refine gq_ialoadI C (qn_m 296 (by decide) hN) (by decide) ex3 dX4_richest_15 ?_
    rcases ite_ex z4 with ⟨c5, z6⟩ | ⟨c5, z6⟩
    · refine gq_icmp_ge_t (tgt := 47) C dX4_richest_16 (by decide) c5 ?_
      cases z6
      exact gq_widen (Nat.le_of_ble_eq_true rfl) (Nat.le_of_ble_eq_true rfl) (gq_sub [1] rfl kk)
    · refine gq_icmp_ge_f (tgt := 47) C dX4_richest_16 (by decide) c5 ?_
      refine gq_aload_n C dX4_richest_19 rfl 0 rfl ?_
      refine gq_get5 C (qn_m 295 (by decide) hN) (by decide) 5 (by decide) wk_6_167 rfl dX4_richest_20 ?_
      refine gq_iload_n C dX4_richest_23 rfl 2 rfl ?_
      obtain ⟨x7, ex7, z8⟩ := bind_ex z6
      refine gq_laloadL C (qn_m 300 (by decide) hN) (by decide) ex7 dX4_richest_24 ?_
      refine gq_aload_n C dX4_richest_25 rfl 0 rfl ?_
      refine gq_get5 C (qn_m 295 (by decide) hN) (by decide) 5 (by decide) wk_6_167 rfl dX4_richest_26 ?_
      refine gq_iload_n C dX4_richest_29 rfl 1 rfl ?_
      obtain ⟨x9, ex9, z10⟩ := bind_ex z8
      refine gq_laloadL C (qn_m 300 (by decide) hN) (by decide) ex9 dX4_richest_30 ?_
      refine gq_lcmp C dX4_richest_31 ?_
      obtain ⟨x11, z12, z13⟩ := bind_ex z10
      refine gq_join (k' := 0) (n' := 0) (pc' := 40) (lv' := [(0, .ref (eB E + 295)), (2, .int v2)]) (st' := [.int x11]) (μ' := μ) ?_ (fun J40 => ?_)
      · refine gq_istore_n (lv' := [(1, .int x11), (0, .ref (eB E + 295)), (2, .int v2)]) C dX4_richest_40 rfl (by decide) rfl ?_
        refine gq_iinc (v := (v2 + 1)) (lv' := [(2, .int (v2 + 1)), (1, .int x11), (0, .ref (eB E + 295))]) (q := 2) C dX4_richest_41 rfl rfl (by decide) rfl ?_
        refine gq_goto (tgt := 9) C dX4_richest_44 (by decide) ?_
        refine gq_widen (k' := 0) (n' := 0) (Nat.le_of_ble_eq_true rfl) (Nat.le_of_ble_eq_true rfl) (gq_sub [2, 1, 0] rfl ?_)
        exact ih _ _ _ z13 kk
      · rcases ite_ex z12 with ⟨c14, z15⟩ | ⟨c14, z15⟩
        · refine gq_if_le_t (tgt := 39) C dX4_richest_32 (by decide) c14 ?_
          refine gq_iload_n C dX4_richest_39 rfl 1 rfl ?_
          cases z15
          exact gq_widen (Nat.le_of_ble_eq_true rfl) (Nat.le_of_ble_eq_true rfl) (gq_sub [0, 2] rfl J40)
        · refine gq_if_le_f (tgt := 39) C dX4_richest_32 (by decide) c14 ?_
          refine gq_iload_n C dX4_richest_35 rfl 2 rfl ?_
          refine gq_goto (tgt := 40) C dX4_richest_36 (by decide) ?_
          cases z15
          exact gq_widen (Nat.le_of_ble_eq_true rfl) (Nat.le_of_ble_eq_true rfl) (gq_sub [0, 2] rfl J40)
set_option maxHeartbeats 4000000 in
set_option maxRecDepth 100000 in
theorem c_X4_richest {l : Launch} {E : Ev} (hN : 311 ≤ eN E) {μ : Mm} {r : Int32} {μ' : Mm} (z0 : F_X4_richest  μ = some (r, μ')) : Ct l E yX4_richest (Cond.code yX4_richest cX4_richest 3 (some .int) :: GW) rm_X4_richest [.ref (eB E + 295)] μ (some (.int r)) μ' := by
  refine ct_of (by decide) (Nat.le_of_ble_eq_true rfl) (fun p e s m args below meth c C hr => ?_)
  have C : Cq E p s m args meth c cX4_richest 3 RX4 := C
  refine gq_lv (lv' := [(0, .ref (eB E + 295))]) rfl ?_
  unfold F_X4_richest at z0
  refine gq_aload_n C dX4_richest_0 rfl 0 rfl ?_
  refine gq_iconst (v := 0) C dX4_richest_1 (by decide) ?_
  obtain ⟨m1, em1, z2⟩ := bind_ex z0
  refine gq_put5_0 C (qn_m 295 (by decide) hN) (by decide) wk_6_162 (Option.some.inj em1).symm dX4_richest_2 ?_
  refine gq_iconst (v := 0) C dX4_richest_5 (by decide) ?_
  refine gq_istore_n (lv' := [(1, .int (0 : Int32)), (0, .ref (eB E + 295))]) C dX4_richest_6 rfl (by decide) rfl ?_
  refine gq_iconst (v := 1) C dX4_richest_7 (by decide) ?_
  refine gq_istore_n (lv' := [(2, .int (1 : Int32)), (1, .int (0 : Int32)), (0, .ref (eB E + 295))]) C dX4_richest_8 rfl (by decide) rfl ?_
  obtain ⟨x19, eo18, z17⟩ := bind_ex z2
  refine gq_widen (k' := 0) (n' := 0) (Nat.le_of_ble_eq_true rfl) (Nat.le_of_ble_eq_true rfl) (gq_sub [2, 1, 0] rfl ?_)
  refine l_X4_richest_9 hN C  qFuel _ _ _ eo18 ?_
  refine gq_iload_n C dX4_richest_47 rfl 0 rfl ?_
  cases z17
  exact gq_iret C hr dX4_richest_48 (Nat.le_of_ble_eq_true rfl) (Nat.le_of_ble_eq_true rfl)
abbrev rm_X4_putsAside : Room := { frames := 0, cells := 0, slots := 0, locals := 0 }
def F_X4_putsAside_2  : Nat → Int32 → Mm → Option Mm
  | 0, _, _ => none
  | n + 1, v1, μ =>
  if (521 : Int32) ≤ v1 then
  (some μ)
  else
  ((aI μ 296 v1).bind fun x3 =>
  (sI μ 298 v1 x3).bind fun m5 =>
  F_X4_putsAside_2 n (v1 + 1) m5)
def F_X4_putsAside_29  : Nat → Int32 → Mm → Option Mm
  | 0, _, _ => none
  | n + 1, v1, μ =>
  if (15 : Int32) ≤ v1 then
  (some μ)
  else
  ((aL μ 300 v1).bind fun x12 =>
  (sL μ 301 v1 x12).bind fun m14 =>
  F_X4_putsAside_29 n (v1 + 1) m14)
def F_X4_putsAside  (μ : Mm) : Option Mm :=
  (F_X4_putsAside_2 qFuel (0 : Int32) μ).bind fun o8 =>
  (F_X4_putsAside_29 qFuel (0 : Int32) o8).bind fun o17 =>
  some o17
set_option maxHeartbeats 4000000 in
set_option maxRecDepth 100000 in
theorem l_X4_putsAside_2 {l : Launch} {E : Ev} (hN : 311 ≤ eN E) {p : Program} {e : Env} {s : State} {m : MethodId} {args : Array Value} {below : List Frame} {meth : Method} {c : Code} (C : Cq E p s m args meth c cX4_putsAside 2 RX4) {Q : State → Prop} : ∀ (n : Nat) (v1 : Int32) (μ : Mm) (μx : Mm), F_X4_putsAside_2 n v1 μ = some μx → Gq E p l e rm_X4_putsAside s m args below meth c 0 0 2 Q 27 [(0, .ref (eB E + 295))] [] μx → Gq E p l e rm_X4_putsAside s m args below meth c 0 0 2 Q 2 [(0, .ref (eB E + 295)), (1, .int v1)] [] μ := by
  intro n
  induction n with
  | zero =>
    intro v1 μ μx z0 kk
    rw [F_X4_putsAside_2] at z0
    cases z0
  | succ n ih =>
    intro v1 μ μx z0 kk
    rw [F_X4_putsAside_2] at z0
    refine gq_iload_n C dX4_putsAside_2 rfl 1 rfl ?_
    refine gq_sipush (v := 521) C dX4_putsAside_3 (by decide) ?_
    rcases ite_ex z0 with ⟨c1, z2⟩ | ⟨c1, z2⟩
    · refine gq_icmp_ge_t (tgt := 27) C dX4_putsAside_6 (by decide) c1 ?_
      cases z2
      exact gq_widen (Nat.le_of_ble_eq_true rfl) (Nat.le_of_ble_eq_true rfl) (gq_sub [0] rfl kk)
    · refine gq_icmp_ge_f (tgt := 27) C dX4_putsAside_6 (by decide) c1 ?_
      refine gq_aload_n C dX4_putsAside_9 rfl 0 rfl ?_
      refine gq_get5 C (qn_m 295 (by decide) hN) (by decide) 3 (by decide) wk_6_165 rfl dX4_putsAside_10 ?_
      refine gq_iload_n C dX4_putsAside_13 rfl 1 rfl ?_
      refine gq_aload_n C dX4_putsAside_14 rfl 0 rfl ?_
      refine gq_get5 C (qn_m 295 (by decide) hN) (by decide) 1 (by decide) wk_6_163 rfl dX4_putsAside_15 ?_
      refine gq_iload_n C dX4_putsAside_18 rfl 1 rfl ?_
      obtain ⟨x3, ex3, z4⟩ := bind_ex z2
      refine gq_ialoadI C (qn_m 296 (by decide) hN) (by decide) ex3 dX4_putsAside_19 ?_
      obtain ⟨m5, em5, z6⟩ := bind_ex z4
      refine gq_iastore C (qn_m 298 (by decide) hN) (by decide) em5 dX4_putsAside_20 ?_
      refine gq_iinc (v := (v1 + 1)) (lv' := [(1, .int (v1 + 1)), (0, .ref (eB E + 295))]) (q := 1) C dX4_putsAside_21 rfl rfl (by decide) rfl ?_
      refine gq_goto (tgt := 2) C dX4_putsAside_24 (by decide) ?_
      refine gq_widen (k' := 0) (n' := 0) (Nat.le_of_ble_eq_true rfl) (Nat.le_of_ble_eq_true rfl) (gq_sub [1, 0] rfl ?_)
      exact ih _ _ _ z6 kk
set_option maxHeartbeats 4000000 in
set_option maxRecDepth 100000 in
theorem l_X4_putsAside_29 {l : Launch} {E : Ev} (hN : 311 ≤ eN E) {p : Program} {e : Env} {s : State} {m : MethodId} {args : Array Value} {below : List Frame} {meth : Method} {c : Code} (C : Cq E p s m args meth c cX4_putsAside 2 RX4) {Q : State → Prop} : ∀ (n : Nat) (v1 : Int32) (μ : Mm) (μx : Mm), F_X4_putsAside_29 n v1 μ = some μx → Gq E p l e rm_X4_putsAside s m args below meth c 0 0 2 Q 53 [] [] μx → Gq E p l e rm_X4_putsAside s m args below meth c 0 0 2 Q 29 [(0, .ref (eB E + 295)), (1, .int v1)] [] μ := by
  intro n
  induction n with
  | zero =>
    intro v1 μ μx z0 kk
    rw [F_X4_putsAside_29] at z0
    cases z0
  | succ n ih =>
    intro v1 μ μx z0 kk
    rw [F_X4_putsAside_29] at z0
    refine gq_iload_n C dX4_putsAside_29 rfl 1 rfl ?_
    refine gq_bipush (v := 15) C dX4_putsAside_30 (by decide) ?_
    rcases ite_ex z0 with ⟨c10, z11⟩ | ⟨c10, z11⟩
    · refine gq_icmp_ge_t (tgt := 53) C dX4_putsAside_32 (by decide) c10 ?_
      cases z11
      exact gq_widen (Nat.le_of_ble_eq_true rfl) (Nat.le_of_ble_eq_true rfl) (gq_sub [] rfl kk)
    · refine gq_icmp_ge_f (tgt := 53) C dX4_putsAside_32 (by decide) c10 ?_
      refine gq_aload_n C dX4_putsAside_35 rfl 0 rfl ?_
      refine gq_get5 C (qn_m 295 (by decide) hN) (by decide) 6 (by decide) wk_6_168 rfl dX4_putsAside_36 ?_
      refine gq_iload_n C dX4_putsAside_39 rfl 1 rfl ?_
      refine gq_aload_n C dX4_putsAside_40 rfl 0 rfl ?_
      refine gq_get5 C (qn_m 295 (by decide) hN) (by decide) 5 (by decide) wk_6_167 rfl dX4_putsAside_41 ?_
      refine gq_iload_n C dX4_putsAside_44 rfl 1 rfl ?_
      obtain ⟨x12, ex12, z13⟩ := bind_ex z11
      refine gq_laloadL C (qn_m 300 (by decide) hN) (by decide) ex12 dX4_putsAside_45 ?_
      obtain ⟨m14, em14, z15⟩ := bind_ex z13
      refine gq_lastore C (qn_m 301 (by decide) hN) (by decide) em14 dX4_putsAside_46 ?_
      refine gq_iinc (v := (v1 + 1)) (lv' := [(1, .int (v1 + 1)), (0, .ref (eB E + 295))]) (q := 1) C dX4_putsAside_47 rfl rfl (by decide) rfl ?_
      refine gq_goto (tgt := 29) C dX4_putsAside_50 (by decide) ?_
      refine gq_widen (k' := 0) (n' := 0) (Nat.le_of_ble_eq_true rfl) (Nat.le_of_ble_eq_true rfl) (gq_sub [1, 0] rfl ?_)
      exact ih _ _ _ z15 kk
set_option maxHeartbeats 4000000 in
set_option maxRecDepth 100000 in
theorem c_X4_putsAside {l : Launch} {E : Ev} (hN : 311 ≤ eN E) {μ : Mm} {μ' : Mm} (z0 : F_X4_putsAside  μ = some μ') : Ct l E yX4_putsAside (Cond.code yX4_putsAside cX4_putsAside 2 none :: GW) rm_X4_putsAside [.ref (eB E + 295)] μ none μ' := by
  refine ct_of (by decide) (Nat.le_of_ble_eq_true rfl) (fun p e s m args below meth c C hr => ?_)
  have C : Cq E p s m args meth c cX4_putsAside 2 RX4 := C
  refine gq_lv (lv' := [(0, .ref (eB E + 295))]) rfl ?_
  unfold F_X4_putsAside at z0
  refine gq_iconst (v := 0) C dX4_putsAside_0 (by decide) ?_
  refine gq_istore_n (lv' := [(1, .int (0 : Int32)), (0, .ref (eB E + 295))]) C dX4_putsAside_1 rfl (by decide) rfl ?_
  obtain ⟨m9, eo8, z7⟩ := bind_ex z0
  refine gq_widen (k' := 0) (n' := 0) (Nat.le_of_ble_eq_true rfl) (Nat.le_of_ble_eq_true rfl) (gq_sub [1, 0] rfl ?_)
  refine l_X4_putsAside_2 hN C  qFuel _ _ _ eo8 ?_
  refine gq_iconst (v := 0) C dX4_putsAside_27 (by decide) ?_
  refine gq_istore_n (lv' := [(1, .int (0 : Int32)), (0, .ref (eB E + 295))]) C dX4_putsAside_28 rfl (by decide) rfl ?_
  obtain ⟨m18, eo17, z16⟩ := bind_ex z7
  refine gq_widen (k' := 0) (n' := 0) (Nat.le_of_ble_eq_true rfl) (Nat.le_of_ble_eq_true rfl) (gq_sub [1, 0] rfl ?_)
  refine l_X4_putsAside_29 hN C  qFuel _ _ _ eo17 ?_
  cases z16
  exact gq_vret C hr dX4_putsAside_53 (Nat.le_of_ble_eq_true rfl) (Nat.le_of_ble_eq_true rfl)
abbrev rm_X4_takesBack : Room := { frames := 0, cells := 0, slots := 0, locals := 0 }
def F_X4_takesBack_2  : Nat → Int32 → Mm → Option Mm
  | 0, _, _ => none
  | n + 1, v1, μ =>
  if (521 : Int32) ≤ v1 then
  (some μ)
  else
  ((aI μ 298 v1).bind fun x3 =>
  (sI μ 296 v1 x3).bind fun m5 =>
  F_X4_takesBack_2 n (v1 + 1) m5)
def F_X4_takesBack_29  : Nat → Int32 → Mm → Option Mm
  | 0, _, _ => none
  | n + 1, v1, μ =>
  if (15 : Int32) ≤ v1 then
  (some μ)
  else
  ((aL μ 301 v1).bind fun x12 =>
  (sL μ 300 v1 x12).bind fun m14 =>
  F_X4_takesBack_29 n (v1 + 1) m14)
def F_X4_takesBack  (μ : Mm) : Option Mm :=
  (F_X4_takesBack_2 qFuel (0 : Int32) μ).bind fun o8 =>
  (F_X4_takesBack_29 qFuel (0 : Int32) o8).bind fun o17 =>
  some o17
set_option maxHeartbeats 4000000 in
set_option maxRecDepth 100000 in
theorem l_X4_takesBack_2 {l : Launch} {E : Ev} (hN : 311 ≤ eN E) {p : Program} {e : Env} {s : State} {m : MethodId} {args : Array Value} {below : List Frame} {meth : Method} {c : Code} (C : Cq E p s m args meth c cX4_takesBack 2 RX4) {Q : State → Prop} : ∀ (n : Nat) (v1 : Int32) (μ : Mm) (μx : Mm), F_X4_takesBack_2 n v1 μ = some μx → Gq E p l e rm_X4_takesBack s m args below meth c 0 0 2 Q 27 [(0, .ref (eB E + 295))] [] μx → Gq E p l e rm_X4_takesBack s m args below meth c 0 0 2 Q 2 [(0, .ref (eB E + 295)), (1, .int v1)] [] μ := by
  intro n
  induction n with
  | zero =>
    intro v1 μ μx z0 kk
    rw [F_X4_takesBack_2] at z0
    cases z0
  | succ n ih =>
    intro v1 μ μx z0 kk
    rw [F_X4_takesBack_2] at z0
    refine gq_iload_n C dX4_takesBack_2 rfl 1 rfl ?_
    refine gq_sipush (v := 521) C dX4_takesBack_3 (by decide) ?_
    rcases ite_ex z0 with ⟨c1, z2⟩ | ⟨c1, z2⟩
    · refine gq_icmp_ge_t (tgt := 27) C dX4_takesBack_6 (by decide) c1 ?_
      cases z2
      exact gq_widen (Nat.le_of_ble_eq_true rfl) (Nat.le_of_ble_eq_true rfl) (gq_sub [0] rfl kk)
    · refine gq_icmp_ge_f (tgt := 27) C dX4_takesBack_6 (by decide) c1 ?_
      refine gq_aload_n C dX4_takesBack_9 rfl 0 rfl ?_
      refine gq_get5 C (qn_m 295 (by decide) hN) (by decide) 1 (by decide) wk_6_163 rfl dX4_takesBack_10 ?_
      refine gq_iload_n C dX4_takesBack_13 rfl 1 rfl ?_
      refine gq_aload_n C dX4_takesBack_14 rfl 0 rfl ?_
      refine gq_get5 C (qn_m 295 (by decide) hN) (by decide) 3 (by decide) wk_6_165 rfl dX4_takesBack_15 ?_
      refine gq_iload_n C dX4_takesBack_18 rfl 1 rfl ?_
      obtain ⟨x3, ex3, z4⟩ := bind_ex z2
      refine gq_ialoadI C (qn_m 298 (by decide) hN) (by decide) ex3 dX4_takesBack_19 ?_
      obtain ⟨m5, em5, z6⟩ := bind_ex z4
      refine gq_iastore C (qn_m 296 (by decide) hN) (by decide) em5 dX4_takesBack_20 ?_
      refine gq_iinc (v := (v1 + 1)) (lv' := [(1, .int (v1 + 1)), (0, .ref (eB E + 295))]) (q := 1) C dX4_takesBack_21 rfl rfl (by decide) rfl ?_
      refine gq_goto (tgt := 2) C dX4_takesBack_24 (by decide) ?_
      refine gq_widen (k' := 0) (n' := 0) (Nat.le_of_ble_eq_true rfl) (Nat.le_of_ble_eq_true rfl) (gq_sub [1, 0] rfl ?_)
      exact ih _ _ _ z6 kk
set_option maxHeartbeats 4000000 in
set_option maxRecDepth 100000 in
theorem l_X4_takesBack_29 {l : Launch} {E : Ev} (hN : 311 ≤ eN E) {p : Program} {e : Env} {s : State} {m : MethodId} {args : Array Value} {below : List Frame} {meth : Method} {c : Code} (C : Cq E p s m args meth c cX4_takesBack 2 RX4) {Q : State → Prop} : ∀ (n : Nat) (v1 : Int32) (μ : Mm) (μx : Mm), F_X4_takesBack_29 n v1 μ = some μx → Gq E p l e rm_X4_takesBack s m args below meth c 0 0 2 Q 53 [] [] μx → Gq E p l e rm_X4_takesBack s m args below meth c 0 0 2 Q 29 [(0, .ref (eB E + 295)), (1, .int v1)] [] μ := by
  intro n
  induction n with
  | zero =>
    intro v1 μ μx z0 kk
    rw [F_X4_takesBack_29] at z0
    cases z0
  | succ n ih =>
    intro v1 μ μx z0 kk
    rw [F_X4_takesBack_29] at z0
    refine gq_iload_n C dX4_takesBack_29 rfl 1 rfl ?_
    refine gq_bipush (v := 15) C dX4_takesBack_30 (by decide) ?_
    rcases ite_ex z0 with ⟨c10, z11⟩ | ⟨c10, z11⟩
    · refine gq_icmp_ge_t (tgt := 53) C dX4_takesBack_32 (by decide) c10 ?_
      cases z11
      exact gq_widen (Nat.le_of_ble_eq_true rfl) (Nat.le_of_ble_eq_true rfl) (gq_sub [] rfl kk)
    · refine gq_icmp_ge_f (tgt := 53) C dX4_takesBack_32 (by decide) c10 ?_
      refine gq_aload_n C dX4_takesBack_35 rfl 0 rfl ?_
      refine gq_get5 C (qn_m 295 (by decide) hN) (by decide) 5 (by decide) wk_6_167 rfl dX4_takesBack_36 ?_
      refine gq_iload_n C dX4_takesBack_39 rfl 1 rfl ?_
      refine gq_aload_n C dX4_takesBack_40 rfl 0 rfl ?_
      refine gq_get5 C (qn_m 295 (by decide) hN) (by decide) 6 (by decide) wk_6_168 rfl dX4_takesBack_41 ?_
      refine gq_iload_n C dX4_takesBack_44 rfl 1 rfl ?_
      obtain ⟨x12, ex12, z13⟩ := bind_ex z11
      refine gq_laloadL C (qn_m 301 (by decide) hN) (by decide) ex12 dX4_takesBack_45 ?_
      obtain ⟨m14, em14, z15⟩ := bind_ex z13
      refine gq_lastore C (qn_m 300 (by decide) hN) (by decide) em14 dX4_takesBack_46 ?_
      refine gq_iinc (v := (v1 + 1)) (lv' := [(1, .int (v1 + 1)), (0, .ref (eB E + 295))]) (q := 1) C dX4_takesBack_47 rfl rfl (by decide) rfl ?_
      refine gq_goto (tgt := 29) C dX4_takesBack_50 (by decide) ?_
      refine gq_widen (k' := 0) (n' := 0) (Nat.le_of_ble_eq_true rfl) (Nat.le_of_ble_eq_true rfl) (gq_sub [1, 0] rfl ?_)
      exact ih _ _ _ z15 kk
set_option maxHeartbeats 4000000 in
set_option maxRecDepth 100000 in
theorem c_X4_takesBack {l : Launch} {E : Ev} (hN : 311 ≤ eN E) {μ : Mm} {μ' : Mm} (z0 : F_X4_takesBack  μ = some μ') : Ct l E yX4_takesBack (Cond.code yX4_takesBack cX4_takesBack 2 none :: GW) rm_X4_takesBack [.ref (eB E + 295)] μ none μ' := by
  refine ct_of (by decide) (Nat.le_of_ble_eq_true rfl) (fun p e s m args below meth c C hr => ?_)
  have C : Cq E p s m args meth c cX4_takesBack 2 RX4 := C
  refine gq_lv (lv' := [(0, .ref (eB E + 295))]) rfl ?_
  unfold F_X4_takesBack at z0
  refine gq_iconst (v := 0) C dX4_takesBack_0 (by decide) ?_
  refine gq_istore_n (lv' := [(1, .int (0 : Int32)), (0, .ref (eB E + 295))]) C dX4_takesBack_1 rfl (by decide) rfl ?_
  obtain ⟨m9, eo8, z7⟩ := bind_ex z0
  refine gq_widen (k' := 0) (n' := 0) (Nat.le_of_ble_eq_true rfl) (Nat.le_of_ble_eq_true rfl) (gq_sub [1, 0] rfl ?_)
  refine l_X4_takesBack_2 hN C  qFuel _ _ _ eo8 ?_
  refine gq_iconst (v := 0) C dX4_takesBack_27 (by decide) ?_
  refine gq_istore_n (lv' := [(1, .int (0 : Int32)), (0, .ref (eB E + 295))]) C dX4_takesBack_28 rfl (by decide) rfl ?_
  obtain ⟨m18, eo17, z16⟩ := bind_ex z7
  refine gq_widen (k' := 0) (n' := 0) (Nat.le_of_ble_eq_true rfl) (Nat.le_of_ble_eq_true rfl) (gq_sub [1, 0] rfl ?_)
  refine l_X4_takesBack_29 hN C  qFuel _ _ _ eo17 ?_
  cases z16
  exact gq_vret C hr dX4_takesBack_53 (Nat.le_of_ble_eq_true rfl) (Nat.le_of_ble_eq_true rfl)
abbrev rm_X4_months : Room := { frames := 5, cells := 0, slots := 0, locals := 128 }
def F_X4_months_2 (u1 : Int32) : Nat → Int32 → Mm → Option Mm
  | 0, _, _ => none
  | n + 1, v2, μ =>
  if u1 ≤ v2 then
  (some μ)
  else
  ((F_X4_month  μ).bind fun o4 =>
  F_X4_months_2 u1 n (v2 + 1) o4.2)
def F_X4_months (p1 : Int32) (μ : Mm) : Option Mm :=
  (F_X4_months_2 p1 qFuel (0 : Int32) μ).bind fun o8 =>
  some o8
set_option maxHeartbeats 4000000 in
set_option maxRecDepth 100000 in
theorem l_X4_months_2 {l : Launch} {E : Ev} (hN : 311 ≤ eN E) {p : Program} {e : Env} {s : State} {m : MethodId} {args : Array Value} {below : List Frame} {meth : Method} {c : Code} (C : Cq E p s m args meth c cX4_months 4 RX4) {Q : State → Prop} {u1 : Int32} : ∀ (n : Nat) (v2 : Int32) (μ : Mm) (μx : Mm), F_X4_months_2 u1 n v2 μ = some μx → Gq E p l e rm_X4_months s m args below meth c 0 0 4 Q 18 [] [] μx → Gq E p l e rm_X4_months s m args below meth c 0 0 4 Q 2 [(0, .ref (eB E + 295)), (1, .int u1), (2, .int v2)] [] μ := by
  intro n
  induction n with
  | zero =>
    intro v2 μ μx z0 kk
    rw [F_X4_months_2] at z0
    cases z0
  | succ n ih =>
    intro v2 μ μx z0 kk
    rw [F_X4_months_2] at z0
    refine gq_iload_n C dX4_months_2 rfl 2 rfl ?_
    refine gq_iload_n C dX4_months_3 rfl 1 rfl ?_
    rcases ite_ex z0 with ⟨c1, z2⟩ | ⟨c1, z2⟩
    · refine gq_icmp_ge_t (tgt := 18) C dX4_months_4 (by decide) c1 ?_
      cases z2
      exact gq_widen (Nat.le_of_ble_eq_true rfl) (Nat.le_of_ble_eq_true rfl) (gq_sub [] rfl kk)
    · refine gq_icmp_ge_f (tgt := 18) C dX4_months_4 (by decide) c1 ?_
      refine gq_aload_n C dX4_months_7 rfl 0 rfl ?_
      obtain ⟨⟨x5, m6⟩, eo4, z3⟩ := bind_ex z2
      dsimp only at z3
      refine gq_V (As := []) (rest := []) (j := 5) C (c_X4_month hN  eo4) (qn_m 295 (by decide) hN) (by decide) (by decide) rfl wk_8_75 wk_8_77 ws_X4_month wk_1_9 wk_8_78 hd_X4_month ⟨(Nat.le_of_ble_eq_true rfl), (Nat.le_of_ble_eq_true rfl)⟩ (Nat.le_of_ble_eq_true rfl) ⟨(Nat.le_of_ble_eq_true rfl), (Nat.le_of_ble_eq_true rfl)⟩ dX4_months_8 rfl rfl ?_
      refine gq_istore_n (lv' := [(3, .int x5), (0, .ref (eB E + 295)), (1, .int u1), (2, .int v2)]) C dX4_months_11 rfl (by decide) rfl ?_
      refine gq_iinc (v := (v2 + 1)) (lv' := [(2, .int (v2 + 1)), (3, .int x5), (0, .ref (eB E + 295)), (1, .int u1)]) (q := 3) C dX4_months_12 rfl rfl (by decide) rfl ?_
      refine gq_goto (tgt := 2) C dX4_months_15 (by decide) ?_
      refine gq_widen (k' := 0) (n' := 0) (Nat.le_of_ble_eq_true rfl) (Nat.le_of_ble_eq_true rfl) (gq_sub [2, 3, 0] rfl ?_)
      exact ih _ _ _ z3 kk
set_option maxHeartbeats 4000000 in
set_option maxRecDepth 100000 in
theorem c_X4_months {l : Launch} {E : Ev} (hN : 311 ≤ eN E) {p1 : Int32} {μ : Mm} {μ' : Mm} (z0 : F_X4_months p1 μ = some μ') : Ct l E yX4_months (Cond.code yX4_months cX4_months 4 none :: GW) rm_X4_months [.ref (eB E + 295), .int p1] μ none μ' := by
  refine ct_of (by decide) (Nat.le_of_ble_eq_true rfl) (fun p e s m args below meth c C hr => ?_)
  have C : Cq E p s m args meth c cX4_months 4 RX4 := C
  refine gq_lv (lv' := [(0, .ref (eB E + 295)), (1, .int p1)]) rfl ?_
  unfold F_X4_months at z0
  refine gq_iconst (v := 0) C dX4_months_0 (by decide) ?_
  refine gq_istore_n (lv' := [(2, .int (0 : Int32)), (0, .ref (eB E + 295)), (1, .int p1)]) C dX4_months_1 rfl (by decide) rfl ?_
  obtain ⟨m9, eo8, z7⟩ := bind_ex z0
  refine gq_widen (k' := 0) (n' := 0) (Nat.le_of_ble_eq_true rfl) (Nat.le_of_ble_eq_true rfl) (gq_sub [1, 2, 0] rfl ?_)
  refine l_X4_months_2 hN C  qFuel _ _ _ eo8 ?_
  cases z7
  exact gq_vret C hr dX4_months_18 (Nat.le_of_ble_eq_true rfl) (Nat.le_of_ble_eq_true rfl)
