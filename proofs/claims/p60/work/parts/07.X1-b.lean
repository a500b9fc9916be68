abbrev rm_X1_serveClaimsOf : Room := { frames := 4, cells := 0, slots := 0, locals := 101 }
def F_X1_serveClaimsOf_12 (t : Nat) (u1 : Int32) : Nat → Int32 → Int32 → Mm → Option (Int32 × Mm)
  | 0, _, _, _ => none
  | n + 1, v2, v3, μ =>
  if (μ.1 (t + 12) 2) ≤ v3 then
  (some (v2, μ))
  else
  ((F_X2_get (t + 12) v3 (0 : Int32) μ).bind fun o7 =>
  (if o7 = u1 then
  ((F_X2_get (t + 12) v3 (3 : Int32) μ).bind fun o16 =>
  (F_X2_get (t + 12) v3 (4 : Int32) μ).bind fun o19 =>
  (F_X1_claimOfOther t (1 : Int32) (t + 12) v3 (if v2 < o16 then v2 else o16) o19 μ).bind fun o22 =>
  some ((v2 - (if v2 < o16 then v2 else o16)), o22))
  else
  (some (v2, μ))).bind fun o24 =>
  F_X1_serveClaimsOf_12 t u1 n o24.1 (v3 + 1) o24.2)
def F_X1_serveClaimsOf (t : Nat) (p1 : Int32) (μ : Mm) : Option Mm :=
  (F_X2_get (t + 8) p1 (3 : Int32) μ).bind fun o2 =>
  (F_X1_serveClaimsOf_12 t p1 qFuel o2 (0 : Int32) μ).bind fun o26 =>
  (F_X1_exercisedOptionOf t p1 o26.2).bind fun o30 =>
  if o30 = (-1 : Int32) then
  ((F_X1_claimOfOwner t p1 o26.1 o26.2).bind fun o35 =>
  some o35)
  else
  ((F_X2_get (t + 14) o30 (5 : Int32) o26.2).bind fun o38 =>
  (F_X1_claimOfOther t (2 : Int32) (t + 14) o30 o26.1 o38 o26.2).bind fun o41 =>
  some o41)
set_option maxHeartbeats 4000000 in
set_option maxRecDepth 100000 in
theorem l_X1_serveClaimsOf_12 {l : Launch} {E : Ev} (hN : 295 ≤ eN E) {p : Program} {e : Env} {s : State} {m : MethodId} {args : Array Value} {below : List Frame} {meth : Method} {c : Code} (C : Cq E p s m args meth c cX1_serveClaimsOf 5 RX1) {Q : State → Prop} {t : Nat} (k_t : kd t = 1) {u1 : Int32} : ∀ (n : Nat) (v2 : Int32) (v3 : Int32) (μ : Mm) (w2 : Int32) (μx : Mm), F_X1_serveClaimsOf_12 t u1 n v2 v3 μ = some (w2, μx) → Gq E p l e rm_X1_serveClaimsOf s m args below meth c 0 0 5 Q 83 [(0, .ref (eB E + t)), (1, .int u1), (2, .int w2)] [] μx → Gq E p l e rm_X1_serveClaimsOf s m args below meth c 0 0 5 Q 12 [(0, .ref (eB E + t)), (1, .int u1), (2, .int v2), (3, .int v3)] [] μ := by
  intro n
  induction n with
  | zero =>
    intro v2 v3 μ w2 μx z0 kk
    rw [F_X1_serveClaimsOf_12] at z0
    cases z0
  | succ n ih =>
    intro v2 v3 μ w2 μx z0 kk
    rw [F_X1_serveClaimsOf_12] at z0
    refine gq_iload_n C dX1_serveClaimsOf_12 rfl 3 rfl ?_
    refine gq_aload_n C dX1_serveClaimsOf_13 rfl 0 rfl ?_
    refine gq_get1 C (st_n k_t hN 0 (by decide)) k_t 9 (by decide) wk_2_169 rfl dX1_serveClaimsOf_14 ?_
    refine gq_get2N C (st_n k_t hN 12 (by decide)) (st_kd k_t 12 (by decide)) 2 (by decide) wk_2_141 rfl dX1_serveClaimsOf_17 ?_
    rcases ite_ex z0 with ⟨c4, z5⟩ | ⟨c4, z5⟩
    · refine gq_icmp_ge_t (tgt := 83) C dX1_serveClaimsOf_20 (by decide) c4 ?_
      cases z5
      exact gq_widen (Nat.le_of_ble_eq_true rfl) (Nat.le_of_ble_eq_true rfl) (gq_sub [0, 1, 2] rfl kk)
    · refine gq_icmp_ge_f (tgt := 83) C dX1_serveClaimsOf_20 (by decide) c4 ?_
      refine gq_aload_n C dX1_serveClaimsOf_23 rfl 0 rfl ?_
      refine gq_get1 C (st_n k_t hN 0 (by decide)) k_t 9 (by decide) wk_2_169 rfl dX1_serveClaimsOf_24 ?_
      refine gq_iload_n C dX1_serveClaimsOf_27 rfl 3 rfl ?_
      refine gq_iconst (v := 0) C dX1_serveClaimsOf_28 (by decide) ?_
      obtain ⟨x8, eo7, z6⟩ := bind_ex z5
      refine gq_V (As := [.int v3, .int (0 : Int32)]) (rest := []) C (c_X2_get hN (st_kd k_t 12 (by decide)) eo7) (st_n k_t hN 12 (by decide)) (st_kd k_t 12 (by decide)) (by decide) rfl wk_1_132 wk_1_133 wk_1_134 wk_1_5 wk_1_135 hd_X2_get ⟨(Nat.le_of_ble_eq_true rfl), (Nat.le_of_ble_eq_true rfl)⟩ (Nat.le_of_ble_eq_true rfl) ⟨(Nat.le_of_ble_eq_true rfl), (Nat.le_of_ble_eq_true rfl)⟩ dX1_serveClaimsOf_29 rfl rfl ?_
      refine gq_iload_n C dX1_serveClaimsOf_32 rfl 1 rfl ?_
      obtain ⟨⟨x9, m10⟩, z11, z12⟩ := bind_ex z6
      dsimp only at z12
      refine gq_join (k' := 0) (n' := 0) (pc' := 77) (lv' := [(0, .ref (eB E + t)), (1, .int u1), (2, .int x9), (3, .int v3)]) (st' := []) (μ' := m10) ?_ (fun J77 => ?_)
      · refine gq_iinc (v := (v3 + 1)) (lv' := [(3, .int (v3 + 1)), (0, .ref (eB E + t)), (1, .int u1), (2, .int x9)]) (q := 3) C dX1_serveClaimsOf_77 rfl rfl (by decide) rfl ?_
        refine gq_goto (tgt := 12) C dX1_serveClaimsOf_80 (by decide) ?_
        refine gq_widen (k' := 0) (n' := 0) (Nat.le_of_ble_eq_true rfl) (Nat.le_of_ble_eq_true rfl) (gq_sub [1, 2, 3, 0] rfl ?_)
        exact ih _ _ _ _ _ z12 kk
      · rcases ite_ex z11 with ⟨c13, z14⟩ | ⟨c13, z14⟩
        · refine gq_icmp_ne_f (tgt := 77) C dX1_serveClaimsOf_33 (by decide) c13 ?_
          refine gq_aload_n C dX1_serveClaimsOf_36 rfl 0 rfl ?_
          refine gq_get1 C (st_n k_t hN 0 (by decide)) k_t 9 (by decide) wk_2_169 rfl dX1_serveClaimsOf_37 ?_
          refine gq_iload_n C dX1_serveClaimsOf_40 rfl 3 rfl ?_
          refine gq_iconst (v := 3) C dX1_serveClaimsOf_41 (by decide) ?_
          obtain ⟨x17, eo16, z15⟩ := bind_ex z14
          refine gq_V (As := [.int v3, .int (3 : Int32)]) (rest := []) C (c_X2_get hN (st_kd k_t 12 (by decide)) eo16) (st_n k_t hN 12 (by decide)) (st_kd k_t 12 (by decide)) (by decide) rfl wk_1_132 wk_1_133 wk_1_134 wk_1_5 wk_1_135 hd_X2_get ⟨(Nat.le_of_ble_eq_true rfl), (Nat.le_of_ble_eq_true rfl)⟩ (Nat.le_of_ble_eq_true rfl) ⟨(Nat.le_of_ble_eq_true rfl), (Nat.le_of_ble_eq_true rfl)⟩ dX1_serveClaimsOf_42 rfl rfl ?_
          refine gq_iload_n C dX1_serveClaimsOf_45 rfl 2 rfl ?_
          refine gq_mmin C wk_2_32 wk_2_33 wk_1_12 wk_2_34 (Nat.le_of_ble_eq_true rfl) (Nat.le_of_ble_eq_true rfl) (Nat.le_of_ble_eq_true rfl) (Nat.le_of_ble_eq_true rfl) dX1_serveClaimsOf_46 ?_
          refine gq_istore (lv' := [(4, .int (if v2 < x17 then v2 else x17)), (0, .ref (eB E + t)), (1, .int u1), (2, .int v2), (3, .int v3)]) C dX1_serveClaimsOf_49 (by decide) rfl ?_
          refine gq_iload_n C dX1_serveClaimsOf_51 rfl 3 rfl ?_
          refine gq_iload C dX1_serveClaimsOf_52 0 rfl ?_
          refine gq_isub C dX1_serveClaimsOf_54 ?_
          refine gq_istore_n (lv' := [(2, .int (v2 - (if v2 < x17 then v2 else x17))), (4, .int (if v2 < x17 then v2 else x17)), (0, .ref (eB E + t)), (1, .int u1), (3, .int v3)]) C dX1_serveClaimsOf_55 rfl (by decide) rfl ?_
          refine gq_aload_n C dX1_serveClaimsOf_56 rfl 2 rfl ?_
          refine gq_iconst (v := 1) C dX1_serveClaimsOf_57 (by decide) ?_
          refine gq_aload_n C dX1_serveClaimsOf_58 rfl 2 rfl ?_
          refine gq_get1 C (st_n k_t hN 0 (by decide)) k_t 9 (by decide) wk_2_169 rfl dX1_serveClaimsOf_59 ?_
          refine gq_iload_n C dX1_serveClaimsOf_62 rfl 4 rfl ?_
          refine gq_iload C dX1_serveClaimsOf_63 1 rfl ?_
          refine gq_aload_n C dX1_serveClaimsOf_65 rfl 2 rfl ?_
          refine gq_get1 C (st_n k_t hN 0 (by decide)) k_t 9 (by decide) wk_2_169 rfl dX1_serveClaimsOf_66 ?_
          refine gq_iload_n C dX1_serveClaimsOf_69 rfl 4 rfl ?_
          refine gq_iconst (v := 4) C dX1_serveClaimsOf_70 (by decide) ?_
          obtain ⟨x20, eo19, z18⟩ := bind_ex z15
          refine gq_V (As := [.int v3, .int (4 : Int32)]) (rest := [.int (if v2 < x17 then v2 else x17), .int v3, .ref (eB E + (t + 12)), .int (1 : Int32), .ref (eB E + t)]) C (c_X2_get hN (st_kd k_t 12 (by decide)) eo19) (st_n k_t hN 12 (by decide)) (st_kd k_t 12 (by decide)) (by decide) rfl wk_1_132 wk_1_133 wk_1_134 wk_1_5 wk_1_135 hd_X2_get ⟨(Nat.le_of_ble_eq_true rfl), (Nat.le_of_ble_eq_true rfl)⟩ (Nat.le_of_ble_eq_true rfl) ⟨(Nat.le_of_ble_eq_true rfl), (Nat.le_of_ble_eq_true rfl)⟩ dX1_serveClaimsOf_71 rfl rfl ?_
          obtain ⟨m23, eo22, z21⟩ := bind_ex z18
          refine gq_V (As := [.int (1 : Int32), .ref (eB E + (t + 12)), .int v3, .int (if v2 < x17 then v2 else x17), .int x20]) (rest := []) C (c_X1_claimOfOther hN k_t (st_kd k_t 12 (by decide)) eo22) (st_n k_t hN 0 (by decide)) k_t (by decide) rfl wk_2_35 wk_2_37 ws_X1_claimOfOther wk_1_4 wk_2_38 hd_X1_claimOfOther ⟨(Nat.le_of_ble_eq_true rfl), (Nat.le_of_ble_eq_true rfl)⟩ (Nat.le_of_ble_eq_true rfl) ⟨(Nat.le_of_ble_eq_true rfl), (Nat.le_of_ble_eq_true rfl)⟩ dX1_serveClaimsOf_74 rfl rfl ?_
          cases z21
          exact gq_widen (Nat.le_of_ble_eq_true rfl) (Nat.le_of_ble_eq_true rfl) (gq_sub [2, 3, 0, 4] rfl J77)
        · refine gq_icmp_ne_t (tgt := 77) C dX1_serveClaimsOf_33 (by decide) c13 ?_
          cases z14
          exact gq_widen (Nat.le_of_ble_eq_true rfl) (Nat.le_of_ble_eq_true rfl) (gq_sub [0, 1, 2, 3] rfl J77)
set_option maxHeartbeats 4000000 in
set_option maxRecDepth 100000 in
theorem c_X1_serveClaimsOf {l : Launch} {E : Ev} (hN : 295 ≤ eN E) {t : Nat} (k_t : kd t = 1) {p1 : Int32} {μ : Mm} {μ' : Mm} (z0 : F_X1_serveClaimsOf t p1 μ = some μ') : Ct l E yX1_serveClaimsOf (Cond.code yX1_serveClaimsOf cX1_serveClaimsOf 5 none :: GW) rm_X1_serveClaimsOf [.ref (eB E + t), .int p1] μ none μ' := by
  refine ct_of (by decide) (Nat.le_of_ble_eq_true rfl) (fun p e s m args below meth c C hr => ?_)
  have C : Cq E p s m args meth c cX1_serveClaimsOf 5 RX1 := C
  refine gq_lv (lv' := [(0, .ref (eB E + t)), (1, .int p1)]) rfl ?_
  unfold F_X1_serveClaimsOf at z0
  refine gq_aload_n C dX1_serveClaimsOf_0 rfl 0 rfl ?_
  refine gq_get1 C (st_n k_t hN 0 (by decide)) k_t 6 (by decide) wk_2_164 rfl dX1_serveClaimsOf_1 ?_
  refine gq_iload_n C dX1_serveClaimsOf_4 rfl 1 rfl ?_
  refine gq_iconst (v := 3) C dX1_serveClaimsOf_5 (by decide) ?_
  obtain ⟨x3, eo2, z1⟩ := bind_ex z0
  refine gq_V (As := [.int p1, .int (3 : Int32)]) (rest := []) C (c_X2_get hN (st_kd k_t 8 (by decide)) eo2) (st_n k_t hN 8 (by decide)) (st_kd k_t 8 (by decide)) (by decide) rfl wk_1_132 wk_1_133 wk_1_134 wk_1_5 wk_1_135 hd_X2_get ⟨(Nat.le_of_ble_eq_true rfl), (Nat.le_of_ble_eq_true rfl)⟩ (Nat.le_of_ble_eq_true rfl) ⟨(Nat.le_of_ble_eq_true rfl), (Nat.le_of_ble_eq_true rfl)⟩ dX1_serveClaimsOf_6 rfl rfl ?_
  refine gq_istore_n (lv' := [(2, .int x3), (0, .ref (eB E + t)), (1, .int p1)]) C dX1_serveClaimsOf_9 rfl (by decide) rfl ?_
  refine gq_iconst (v := 0) C dX1_serveClaimsOf_10 (by decide) ?_
  refine gq_istore_n (lv' := [(3, .int (0 : Int32)), (2, .int x3), (0, .ref (eB E + t)), (1, .int p1)]) C dX1_serveClaimsOf_11 rfl (by decide) rfl ?_
  obtain ⟨⟨x27, m28⟩, eo26, z25⟩ := bind_ex z1
  dsimp only at z25
  refine gq_widen (k' := 0) (n' := 0) (Nat.le_of_ble_eq_true rfl) (Nat.le_of_ble_eq_true rfl) (gq_sub [2, 3, 1, 0] rfl ?_)
  refine l_X1_serveClaimsOf_12 hN C k_t qFuel _ _ _ _ _ eo26 ?_
  refine gq_aload_n C dX1_serveClaimsOf_83 rfl 0 rfl ?_
  refine gq_iload_n C dX1_serveClaimsOf_84 rfl 1 rfl ?_
  obtain ⟨x31, eo30, z29⟩ := bind_ex z25
  refine gq_V (As := [.int p1]) (rest := []) C (c_X1_exercisedOptionOf hN k_t eo30) (st_n k_t hN 0 (by decide)) k_t (by decide) rfl wk_2_66 wk_2_68 ws_X1_exercisedOptionOf wk_1_4 wk_2_69 hd_X1_exercisedOptionOf ⟨(Nat.le_of_ble_eq_true rfl), (Nat.le_of_ble_eq_true rfl)⟩ (Nat.le_of_ble_eq_true rfl) ⟨(Nat.le_of_ble_eq_true rfl), (Nat.le_of_ble_eq_true rfl)⟩ dX1_serveClaimsOf_85 rfl rfl ?_
  refine gq_istore_n (lv' := [(3, .int x31), (0, .ref (eB E + t)), (1, .int p1), (2, .int x27)]) C dX1_serveClaimsOf_88 rfl (by decide) rfl ?_
  refine gq_iload_n C dX1_serveClaimsOf_89 rfl 0 rfl ?_
  refine gq_iconst (v := -1) C dX1_serveClaimsOf_90 (by decide) ?_
  rcases ite_ex z29 with ⟨c32, z33⟩ | ⟨c32, z33⟩
  · refine gq_icmp_ne_f (tgt := 103) C dX1_serveClaimsOf_91 (by decide) c32 ?_
    refine gq_aload_n C dX1_serveClaimsOf_94 rfl 1 rfl ?_
    refine gq_iload_n C dX1_serveClaimsOf_95 rfl 2 rfl ?_
    refine gq_iload_n C dX1_serveClaimsOf_96 rfl 3 rfl ?_
    obtain ⟨m36, eo35, z34⟩ := bind_ex z33
    refine gq_V (As := [.int p1, .int x27]) (rest := []) C (c_X1_claimOfOwner hN k_t eo35) (st_n k_t hN 0 (by decide)) k_t (by decide) rfl wk_2_74 wk_2_76 ws_X1_claimOfOwner wk_1_4 wk_2_77 hd_X1_claimOfOwner ⟨(Nat.le_of_ble_eq_true rfl), (Nat.le_of_ble_eq_true rfl)⟩ (Nat.le_of_ble_eq_true rfl) ⟨(Nat.le_of_ble_eq_true rfl), (Nat.le_of_ble_eq_true rfl)⟩ dX1_serveClaimsOf_97 rfl rfl ?_
    refine gq_goto (tgt := 123) C dX1_serveClaimsOf_100 (by decide) ?_
    cases z34
    exact gq_vret C hr dX1_serveClaimsOf_123 (Nat.le_of_ble_eq_true rfl) (Nat.le_of_ble_eq_true rfl)
  · refine gq_icmp_ne_t (tgt := 103) C dX1_serveClaimsOf_91 (by decide) c32 ?_
    refine gq_aload_n C dX1_serveClaimsOf_103 rfl 1 rfl ?_
    refine gq_iconst (v := 2) C dX1_serveClaimsOf_104 (by decide) ?_
    refine gq_aload_n C dX1_serveClaimsOf_105 rfl 1 rfl ?_
    refine gq_get1 C (st_n k_t hN 0 (by decide)) k_t 10 (by decide) wk_2_172 rfl dX1_serveClaimsOf_106 ?_
    refine gq_iload_n C dX1_serveClaimsOf_109 rfl 0 rfl ?_
    refine gq_iload_n C dX1_serveClaimsOf_110 rfl 3 rfl ?_
    refine gq_aload_n C dX1_serveClaimsOf_111 rfl 1 rfl ?_
    refine gq_get1 C (st_n k_t hN 0 (by decide)) k_t 10 (by decide) wk_2_172 rfl dX1_serveClaimsOf_112 ?_
    refine gq_iload_n C dX1_serveClaimsOf_115 rfl 0 rfl ?_
    refine gq_iconst (v := 5) C dX1_serveClaimsOf_116 (by decide) ?_
    obtain ⟨x39, eo38, z37⟩ := bind_ex z33
    refine gq_V (As := [.int x31, .int (5 : Int32)]) (rest := [.int x27, .int x31, .ref (eB E + (t + 14)), .int (2 : Int32), .ref (eB E + t)]) C (c_X2_get hN (st_kd k_t 14 (by decide)) eo38) (st_n k_t hN 14 (by decide)) (st_kd k_t 14 (by decide)) (by decide) rfl wk_1_132 wk_1_133 wk_1_134 wk_1_5 wk_1_135 hd_X2_get ⟨(Nat.le_of_ble_eq_true rfl), (Nat.le_of_ble_eq_true rfl)⟩ (Nat.le_of_ble_eq_true rfl) ⟨(Nat.le_of_ble_eq_true rfl), (Nat.le_of_ble_eq_true rfl)⟩ dX1_serveClaimsOf_117 rfl rfl ?_
    obtain ⟨m42, eo41, z40⟩ := bind_ex z37
    refine gq_V (As := [.int (2 : Int32), .ref (eB E + (t + 14)), .int x31, .int x27, .int x39]) (rest := []) C (c_X1_claimOfOther hN k_t (st_kd k_t 14 (by decide)) eo41) (st_n k_t hN 0 (by decide)) k_t (by decide) rfl wk_2_35 wk_2_37 ws_X1_claimOfOther wk_1_4 wk_2_38 hd_X1_claimOfOther ⟨(Nat.le_of_ble_eq_true rfl), (Nat.le_of_ble_eq_true rfl)⟩ (Nat.le_of_ble_eq_true rfl) ⟨(Nat.le_of_ble_eq_true rfl), (Nat.le_of_ble_eq_true rfl)⟩ dX1_serveClaimsOf_120 rfl rfl ?_
    cases z40
    exact gq_vret C hr dX1_serveClaimsOf_123 (Nat.le_of_ble_eq_true rfl) (Nat.le_of_ble_eq_true rfl)
abbrev rm_X1_isCut : Room := { frames := 1, cells := 0, slots := 0, locals := 22 }
def F_X1_isCut_2 (t : Nat) (u1 : Int32) (μ : Mm) : Nat → Int32 → Option Int32
  | 0, _ => none
  | n + 1, v2 =>
  if (μ.1 (t + 16) 2) ≤ v2 then
  (some (0 : Int32))
  else
  ((F_X2_get (t + 16) v2 (1 : Int32) μ).bind fun o4 =>
  if o4 = u1 then
  ((F_X2_get (t + 16) v2 (5 : Int32) μ).bind fun o9 =>
  (F_X2_get (t + 16) v2 (4 : Int32) μ).bind fun o12 =>
  if o12 ≤ o9 then
  (F_X1_isCut_2 t u1 μ n (v2 + 1))
  else
  (some (1 : Int32)))
  else
  (F_X1_isCut_2 t u1 μ n (v2 + 1)))
def F_X1_isCut (t : Nat) (p1 : Int32) (μ : Mm) : Option Int32 :=
  F_X1_isCut_2 t p1 μ qFuel (0 : Int32)
set_option maxHeartbeats 4000000 in
set_option maxRecDepth 100000 in
theorem l_X1_isCut_2 {l : Launch} {E : Ev} (hN : 295 ≤ eN E) {p : Program} {e : Env} {s : State} {m : MethodId} {args : Array Value} {below : List Frame} {meth : Method} {c : Code} (C : Cq E p s m args meth c cX1_isCut 3 RX1) (hr : meth.sig.returnType = (some .boolean)) {t : Nat} (k_t : kd t = 1) {u1 : Int32} {μ : Mm} : ∀ (n : Nat) (v2 : Int32) (r : Int32), F_X1_isCut_2 t u1 μ n v2 = some r → Gq E p l e rm_X1_isCut s m args below meth c 0 0 3 (MQ below (qQ E (some (.int r)) μ) args s rm_X1_isCut.cells rm_X1_isCut.slots (eA E)) 2 [(0, .ref (eB E + t)), (1, .int u1), (2, .int v2)] [] μ := by
  intro n
  induction n with
  | zero =>
    intro v2 r z0
    rw [F_X1_isCut_2] at z0
    cases z0
  | succ n ih =>
    intro v2 r z0
    rw [F_X1_isCut_2] at z0
    refine gq_iload_n C dX1_isCut_2 rfl 2 rfl ?_
    refine gq_aload_n C dX1_isCut_3 rfl 0 rfl ?_
    refine gq_get1 C (st_n k_t hN 0 (by decide)) k_t 11 (by decide) wk_2_175 rfl dX1_isCut_4 ?_
    refine gq_get2N C (st_n k_t hN 16 (by decide)) (st_kd k_t 16 (by decide)) 2 (by decide) wk_2_141 rfl dX1_isCut_7 ?_
    rcases ite_ex z0 with ⟨c1, z2⟩ | ⟨c1, z2⟩
    · refine gq_icmp_ge_t (tgt := 55) C dX1_isCut_10 (by decide) c1 ?_
      refine gq_iconst (v := 0) C dX1_isCut_55 (by decide) ?_
      cases z2
      exact gq_zret C hr (by decide) dX1_isCut_56 (Nat.le_of_ble_eq_true rfl) (Nat.le_of_ble_eq_true rfl)
    · refine gq_icmp_ge_f (tgt := 55) C dX1_isCut_10 (by decide) c1 ?_
      refine gq_aload_n C dX1_isCut_13 rfl 0 rfl ?_
      refine gq_get1 C (st_n k_t hN 0 (by decide)) k_t 11 (by decide) wk_2_175 rfl dX1_isCut_14 ?_
      refine gq_iload_n C dX1_isCut_17 rfl 2 rfl ?_
      refine gq_iconst (v := 1) C dX1_isCut_18 (by decide) ?_
      obtain ⟨x5, eo4, z3⟩ := bind_ex z2
      refine gq_V (As := [.int v2, .int (1 : Int32)]) (rest := []) C (c_X2_get hN (st_kd k_t 16 (by decide)) eo4) (st_n k_t hN 16 (by decide)) (st_kd k_t 16 (by decide)) (by decide) rfl wk_1_132 wk_1_133 wk_1_134 wk_1_5 wk_1_135 hd_X2_get ⟨(Nat.le_of_ble_eq_true rfl), (Nat.le_of_ble_eq_true rfl)⟩ (Nat.le_of_ble_eq_true rfl) ⟨(Nat.le_of_ble_eq_true rfl), (Nat.le_of_ble_eq_true rfl)⟩ dX1_isCut_19 rfl rfl ?_
      refine gq_iload_n C dX1_isCut_22 rfl 1 rfl ?_
      rcases ite_ex z3 with ⟨c6, z7⟩ | ⟨c6, z7⟩
      · refine gq_icmp_ne_f (tgt := 49) C dX1_isCut_23 (by decide) c6 ?_
        refine gq_aload_n C dX1_isCut_26 rfl 0 rfl ?_
        refine gq_get1 C (st_n k_t hN 0 (by decide)) k_t 11 (by decide) wk_2_175 rfl dX1_isCut_27 ?_
        refine gq_iload_n C dX1_isCut_30 rfl 2 rfl ?_
        refine gq_iconst (v := 5) C dX1_isCut_31 (by decide) ?_
        obtain ⟨x10, eo9, z8⟩ := bind_ex z7
        refine gq_V (As := [.int v2, .int (5 : Int32)]) (rest := []) C (c_X2_get hN (st_kd k_t 16 (by decide)) eo9) (st_n k_t hN 16 (by decide)) (st_kd k_t 16 (by decide)) (by decide) rfl wk_1_132 wk_1_133 wk_1_134 wk_1_5 wk_1_135 hd_X2_get ⟨(Nat.le_of_ble_eq_true rfl), (Nat.le_of_ble_eq_true rfl)⟩ (Nat.le_of_ble_eq_true rfl) ⟨(Nat.le_of_ble_eq_true rfl), (Nat.le_of_ble_eq_true rfl)⟩ dX1_isCut_32 rfl rfl ?_
        refine gq_aload_n C dX1_isCut_35 rfl 0 rfl ?_
        refine gq_get1 C (st_n k_t hN 0 (by decide)) k_t 11 (by decide) wk_2_175 rfl dX1_isCut_36 ?_
        refine gq_iload_n C dX1_isCut_39 rfl 2 rfl ?_
        refine gq_iconst (v := 4) C dX1_isCut_40 (by decide) ?_
        obtain ⟨x13, eo12, z11⟩ := bind_ex z8
        refine gq_V (As := [.int v2, .int (4 : Int32)]) (rest := [.int x10]) C (c_X2_get hN (st_kd k_t 16 (by decide)) eo12) (st_n k_t hN 16 (by decide)) (st_kd k_t 16 (by decide)) (by decide) rfl wk_1_132 wk_1_133 wk_1_134 wk_1_5 wk_1_135 hd_X2_get ⟨(Nat.le_of_ble_eq_true rfl), (Nat.le_of_ble_eq_true rfl)⟩ (Nat.le_of_ble_eq_true rfl) ⟨(Nat.le_of_ble_eq_true rfl), (Nat.le_of_ble_eq_true rfl)⟩ dX1_isCut_41 rfl rfl ?_
        rcases ite_ex z11 with ⟨c14, z15⟩ | ⟨c14, z15⟩
        · refine gq_icmp_ge_t (tgt := 49) C dX1_isCut_44 (by decide) c14 ?_
          refine gq_iinc (v := (v2 + 1)) (lv' := [(2, .int (v2 + 1)), (0, .ref (eB E + t)), (1, .int u1)]) (q := 2) C dX1_isCut_49 rfl rfl (by decide) rfl ?_
          refine gq_goto (tgt := 2) C dX1_isCut_52 (by decide) ?_
          refine gq_widen (k' := 0) (n' := 0) (Nat.le_of_ble_eq_true rfl) (Nat.le_of_ble_eq_true rfl) (gq_sub [1, 2, 0] rfl ?_)
          exact ih _ _ z15
        · refine gq_icmp_ge_f (tgt := 49) C dX1_isCut_44 (by decide) c14 ?_
          refine gq_iconst (v := 1) C dX1_isCut_47 (by decide) ?_
          cases z15
          exact gq_zret C hr (by decide) dX1_isCut_48 (Nat.le_of_ble_eq_true rfl) (Nat.le_of_ble_eq_true rfl)
      · refine gq_icmp_ne_t (tgt := 49) C dX1_isCut_23 (by decide) c6 ?_
        refine gq_iinc (v := (v2 + 1)) (lv' := [(2, .int (v2 + 1)), (0, .ref (eB E + t)), (1, .int u1)]) (q := 2) C dX1_isCut_49 rfl rfl (by decide) rfl ?_
        refine gq_goto (tgt := 2) C dX1_isCut_52 (by decide) ?_
        refine gq_widen (k' := 0) (n' := 0) (Nat.le_of_ble_eq_true rfl) (Nat.le_of_ble_eq_true rfl) (gq_sub [1, 2, 0] rfl ?_)
        exact ih _ _ z7
set_option maxHeartbeats 4000000 in
set_option maxRecDepth 100000 in
theorem c_X1_isCut {l : Launch} {E : Ev} (hN : 295 ≤ eN E) {t : Nat} (k_t : kd t = 1) {p1 : Int32} {μ : Mm} {r : Int32} (z0 : F_X1_isCut t p1 μ = some r) : Ct l E yX1_isCut (Cond.code yX1_isCut cX1_isCut 3 (some .boolean) :: GW) rm_X1_isCut [.ref (eB E + t), .int p1] μ (some (.int r)) μ := by
  refine ct_of (by decide) (Nat.le_of_ble_eq_true rfl) (fun p e s m args below meth c C hr => ?_)
  have C : Cq E p s m args meth c cX1_isCut 3 RX1 := C
  refine gq_lv (lv' := [(0, .ref (eB E + t)), (1, .int p1)]) rfl ?_
  unfold F_X1_isCut at z0
  refine gq_iconst (v := 0) C dX1_isCut_0 (by decide) ?_
  refine gq_istore_n (lv' := [(2, .int (0 : Int32)), (0, .ref (eB E + t)), (1, .int p1)]) C dX1_isCut_1 rfl (by decide) rfl ?_
  refine gq_widen (k' := 0) (n' := 0) (Nat.le_of_ble_eq_true rfl) (Nat.le_of_ble_eq_true rfl) (gq_sub [1, 2, 0] rfl ?_)
  exact l_X1_isCut_2 hN C hr k_t qFuel _ _ z0
abbrev rm_X1_remember : Room := { frames := 2, cells := 0, slots := 0, locals := 90 }
def F_X1_remember (t : Nat) (p1 : Int32) (p2 : Int32) (μ : Mm) : Option Mm :=
  (if (μ.1 (t + 20) 2) < (24 : Int32) then
  (some μ)
  else
  ((F_X2_removeRow (t + 20) (0 : Int32) μ).bind fun o7 =>
  some o7)).bind fun o9 =>
  (F_X2_addRow (t + 20) o9).bind fun o11 =>
  (F_X2_put (t + 20) o11.1 (0 : Int32) (o11.2.1 t 14) o11.2).bind fun o15 =>
  (F_X2_put (t + 20) o11.1 (1 : Int32) p1 o15).bind fun o18 =>
  (F_X1_outflowOfMonth t o18).bind fun o21 =>
  (F_X2_put (t + 20) o11.1 (2 : Int32) o21 o18).bind fun o24 =>
  (F_X2_put (t + 20) o11.1 (3 : Int32) p2 o24).bind fun o27 =>
  some o27
set_option maxHeartbeats 4000000 in
set_option maxRecDepth 100000 in
theorem c_X1_remember {l : Launch} {E : Ev} (hN : 295 ≤ eN E) {t : Nat} (k_t : kd t = 1) {p1 : Int32} {p2 : Int32} {μ : Mm} {μ' : Mm} (z0 : F_X1_remember t p1 p2 μ = some μ') : Ct l E yX1_remember (Cond.code yX1_remember cX1_remember 4 none :: GW) rm_X1_remember [.ref (eB E + t), .int p1, .int p2] μ none μ' := by
  refine ct_of (by decide) (Nat.le_of_ble_eq_true rfl) (fun p e s m args below meth c C hr => ?_)
  have C : Cq E p s m args meth c cX1_remember 4 RX1 := C
  refine gq_lv (lv' := [(0, .ref (eB E + t)), (1, .int p1), (2, .int p2)]) rfl ?_
  unfold F_X1_remember at z0
  refine gq_aload_n C dX1_remember_0 rfl 0 rfl ?_
  refine gq_get1 C (st_n k_t hN 0 (by decide)) k_t 13 (by decide) wk_2_179 rfl dX1_remember_1 ?_
  refine gq_get2N C (st_n k_t hN 20 (by decide)) (st_kd k_t 20 (by decide)) 2 (by decide) wk_2_141 rfl dX1_remember_4 ?_
  refine gq_bipush (v := 24) C dX1_remember_7 (by decide) ?_
  obtain ⟨m1, z2, z3⟩ := bind_ex z0
  refine gq_join (k' := 0) (n' := 0) (pc' := 20) (lv' := [(0, .ref (eB E + t)), (1, .int p1), (2, .int p2)]) (st' := []) (μ' := m1) ?_ (fun J20 => ?_)
  · refine gq_aload_n C dX1_remember_20 rfl 0 rfl ?_
    refine gq_get1 C (st_n k_t hN 0 (by decide)) k_t 13 (by decide) wk_2_179 rfl dX1_remember_21 ?_
    obtain ⟨⟨x12, m13⟩, eo11, z10⟩ := bind_ex z3
    dsimp only at z10
    refine gq_V (As := []) (rest := []) C (c_X2_addRow hN (st_kd k_t 20 (by decide)) eo11) (st_n k_t hN 20 (by decide)) (st_kd k_t 20 (by decide)) (by decide) rfl wk_2_6 wk_2_7 wk_2_8 wk_1_5 wk_2_9 hd_X2_addRow ⟨(Nat.le_of_ble_eq_true rfl), (Nat.le_of_ble_eq_true rfl)⟩ (Nat.le_of_ble_eq_true rfl) ⟨(Nat.le_of_ble_eq_true rfl), (Nat.le_of_ble_eq_true rfl)⟩ dX1_remember_24 rfl rfl ?_
    refine gq_istore_n (lv' := [(3, .int x12), (0, .ref (eB E + t)), (1, .int p1), (2, .int p2)]) C dX1_remember_27 rfl (by decide) rfl ?_
    refine gq_aload_n C dX1_remember_28 rfl 1 rfl ?_
    refine gq_get1 C (st_n k_t hN 0 (by decide)) k_t 13 (by decide) wk_2_179 rfl dX1_remember_29 ?_
    refine gq_iload_n C dX1_remember_32 rfl 0 rfl ?_
    refine gq_iconst (v := 0) C dX1_remember_33 (by decide) ?_
    refine gq_aload_n C dX1_remember_34 rfl 1 rfl ?_
    refine gq_get1 C (st_n k_t hN 0 (by decide)) k_t 14 (by decide) wk_2_180 rfl dX1_remember_35 ?_
    obtain ⟨m16, eo15, z14⟩ := bind_ex z10
    refine gq_V (As := [.int x12, .int (0 : Int32), .int (m13.1 t 14)]) (rest := []) C (c_X2_put hN (st_kd k_t 20 (by decide)) eo15) (st_n k_t hN 20 (by decide)) (st_kd k_t 20 (by decide)) (by decide) rfl wk_2_10 wk_2_11 wk_2_12 wk_1_5 wk_2_13 hd_X2_put ⟨(Nat.le_of_ble_eq_true rfl), (Nat.le_of_ble_eq_true rfl)⟩ (Nat.le_of_ble_eq_true rfl) ⟨(Nat.le_of_ble_eq_true rfl), (Nat.le_of_ble_eq_true rfl)⟩ dX1_remember_38 rfl rfl ?_
    refine gq_aload_n C dX1_remember_41 rfl 1 rfl ?_
    refine gq_get1 C (st_n k_t hN 0 (by decide)) k_t 13 (by decide) wk_2_179 rfl dX1_remember_42 ?_
    refine gq_iload_n C dX1_remember_45 rfl 0 rfl ?_
    refine gq_iconst (v := 1) C dX1_remember_46 (by decide) ?_
    refine gq_iload_n C dX1_remember_47 rfl 2 rfl ?_
    obtain ⟨m19, eo18, z17⟩ := bind_ex z14
    refine gq_V (As := [.int x12, .int (1 : Int32), .int p1]) (rest := []) C (c_X2_put hN (st_kd k_t 20 (by decide)) eo18) (st_n k_t hN 20 (by decide)) (st_kd k_t 20 (by decide)) (by decide) rfl wk_2_10 wk_2_11 wk_2_12 wk_1_5 wk_2_13 hd_X2_put ⟨(Nat.le_of_ble_eq_true rfl), (Nat.le_of_ble_eq_true rfl)⟩ (Nat.le_of_ble_eq_true rfl) ⟨(Nat.le_of_ble_eq_true rfl), (Nat.le_of_ble_eq_true rfl)⟩ dX1_remember_48 rfl rfl ?_
    refine gq_aload_n C dX1_remember_51 rfl 1 rfl ?_
    refine gq_get1 C (st_n k_t hN 0 (by decide)) k_t 13 (by decide) wk_2_179 rfl dX1_remember_52 ?_
    refine gq_iload_n C dX1_remember_55 rfl 0 rfl ?_
    refine gq_iconst (v := 2) C dX1_remember_56 (by decide) ?_
    refine gq_aload_n C dX1_remember_57 rfl 1 rfl ?_
    obtain ⟨x22, eo21, z20⟩ := bind_ex z17
    refine gq_V (As := []) (rest := [.int (2 : Int32), .int x12, .ref (eB E + (t + 20))]) C (c_X1_outflowOfMonth hN k_t eo21) (st_n k_t hN 0 (by decide)) k_t (by decide) rfl wk_2_107 wk_1_170 wk_1_171 wk_1_4 wk_1_172 hd_X1_outflowOfMonth ⟨(Nat.le_of_ble_eq_true rfl), (Nat.le_of_ble_eq_true rfl)⟩ (Nat.le_of_ble_eq_true rfl) ⟨(Nat.le_of_ble_eq_true rfl), (Nat.le_of_ble_eq_true rfl)⟩ dX1_remember_58 rfl rfl ?_
    obtain ⟨m25, eo24, z23⟩ := bind_ex z20
    refine gq_V (As := [.int x12, .int (2 : Int32), .int x22]) (rest := []) C (c_X2_put hN (st_kd k_t 20 (by decide)) eo24) (st_n k_t hN 20 (by decide)) (st_kd k_t 20 (by decide)) (by decide) rfl wk_2_10 wk_2_11 wk_2_12 wk_1_5 wk_2_13 hd_X2_put ⟨(Nat.le_of_ble_eq_true rfl), (Nat.le_of_ble_eq_true rfl)⟩ (Nat.le_of_ble_eq_true rfl) ⟨(Nat.le_of_ble_eq_true rfl), (Nat.le_of_ble_eq_true rfl)⟩ dX1_remember_61 rfl rfl ?_
    refine gq_aload_n C dX1_remember_64 rfl 1 rfl ?_
    refine gq_get1 C (st_n k_t hN 0 (by decide)) k_t 13 (by decide) wk_2_179 rfl dX1_remember_65 ?_
    refine gq_iload_n C dX1_remember_68 rfl 0 rfl ?_
    refine gq_iconst (v := 3) C dX1_remember_69 (by decide) ?_
    refine gq_iload_n C dX1_remember_70 rfl 3 rfl ?_
    obtain ⟨m28, eo27, z26⟩ := bind_ex z23
    refine gq_V (As := [.int x12, .int (3 : Int32), .int p2]) (rest := []) C (c_X2_put hN (st_kd k_t 20 (by decide)) eo27) (st_n k_t hN 20 (by decide)) (st_kd k_t 20 (by decide)) (by decide) rfl wk_2_10 wk_2_11 wk_2_12 wk_1_5 wk_2_13 hd_X2_put ⟨(Nat.le_of_ble_eq_true rfl), (Nat.le_of_ble_eq_true rfl)⟩ (Nat.le_of_ble_eq_true rfl) ⟨(Nat.le_of_ble_eq_true rfl), (Nat.le_of_ble_eq_true rfl)⟩ dX1_remember_71 rfl rfl ?_
    cases z26
    exact gq_vret C hr dX1_remember_74 (Nat.le_of_ble_eq_true rfl) (Nat.le_of_ble_eq_true rfl)
  · rcases ite_ex z2 with ⟨c4, z5⟩ | ⟨c4, z5⟩
    · refine gq_icmp_lt_t (tgt := 20) C dX1_remember_9 (by decide) c4 ?_
      cases z5
      exact gq_widen (Nat.le_of_ble_eq_true rfl) (Nat.le_of_ble_eq_true rfl) (gq_sub [0, 1, 2] rfl J20)
    · refine gq_icmp_lt_f (tgt := 20) C dX1_remember_9 (by decide) c4 ?_
      refine gq_aload_n C dX1_remember_12 rfl 0 rfl ?_
      refine gq_get1 C (st_n k_t hN 0 (by decide)) k_t 13 (by decide) wk_2_179 rfl dX1_remember_13 ?_
      refine gq_iconst (v := 0) C dX1_remember_16 (by decide) ?_
      obtain ⟨m8, eo7, z6⟩ := bind_ex z5
      refine gq_V (As := [.int (0 : Int32)]) (rest := []) C (c_X2_removeRow hN (st_kd k_t 20 (by decide)) eo7) (st_n k_t hN 20 (by decide)) (st_kd k_t 20 (by decide)) (by decide) rfl wk_2_102 wk_2_103 wk_2_104 wk_1_5 wk_2_105 hd_X2_removeRow ⟨(Nat.le_of_ble_eq_true rfl), (Nat.le_of_ble_eq_true rfl)⟩ (Nat.le_of_ble_eq_true rfl) ⟨(Nat.le_of_ble_eq_true rfl), (Nat.le_of_ble_eq_true rfl)⟩ dX1_remember_17 rfl rfl ?_
      cases z6
      exact gq_widen (Nat.le_of_ble_eq_true rfl) (Nat.le_of_ble_eq_true rfl) (gq_sub [0, 1, 2] rfl J20)
abbrev rm_X1_endMonth : Room := { frames := 2, cells := 0, slots := 0, locals := 90 }
def F_X1_endMonth_10 (t : Nat) : Nat → Int32 → Mm → Option Mm
  | 0, _, _ => none
  | n + 1, v1, μ =>
  if v1 < 0 then
  (some μ)
  else
  ((F_X2_increase (t + 12) v1 (5 : Int32) (-1 : Int32) μ).bind fun o4 =>
  (F_X2_get (t + 12) v1 (5 : Int32) o4).bind fun o7 =>
  (if 0 < o7 then
  (some o4)
  else
  ((F_X2_removeRow (t + 12) v1 o4).bind fun o15 =>
  some o15)).bind fun o17 =>
  F_X1_endMonth_10 t n (v1 + (-1)) o17)
def F_X1_endMonth_52 (t : Nat) : Nat → Int32 → Mm → Option Mm
  | 0, _, _ => none
  | n + 1, v1, μ =>
  if (μ.1 (t + 5) 2) ≤ v1 then
  (some μ)
  else
  ((F_X2_get (t + 5) v1 (0 : Int32) μ).bind fun o24 =>
  (F_X2_increase (t + 5) v1 (0 : Int32) (-(Int64.toInt32 ((((Int32.toInt64 o24) * (Int32.toInt64 (μ.1 t 15))) + (99 : Int64)) / (100 : Int64)))) μ).bind fun o27 =>
  (some (uI o27 t 17 ((o27.1 t 17) + (Int64.toInt32 ((((Int32.toInt64 o24) * (Int32.toInt64 (μ.1 t 15))) + (99 : Int64)) / (100 : Int64)))))).bind fun m29 =>
  F_X1_endMonth_52 t n (v1 + 1) m29)
def F_X1_endMonth_123 (t : Nat) : Nat → Int32 → Mm → Option Mm
  | 0, _, _ => none
  | n + 1, v1, μ =>
  if (μ.1 (t + 1) 2) ≤ v1 then
  (some μ)
  else
  ((F_X2_put (t + 1) v1 (2 : Int32) (0 : Int32) μ).bind fun o37 =>
  F_X1_endMonth_123 t n (v1 + 1) o37)
def F_X1_endMonth (t : Nat) (μ : Mm) : Option Mm :=
  (F_X1_endMonth_10 t qFuel ((μ.1 (t + 12) 2) - (1 : Int32)) μ).bind fun o19 =>
  (F_X1_endMonth_52 t qFuel (0 : Int32) o19).bind fun o32 =>
  (F_X1_endMonth_123 t qFuel (0 : Int32) o32).bind fun o40 =>
  (some (uI o40 t 14 ((o40.1 t 14) + (1 : Int32)))).bind fun m42 =>
  some m42
set_option maxHeartbeats 4000000 in
set_option maxRecDepth 100000 in
theorem l_X1_endMonth_10 {l : Launch} {E : Ev} (hN : 295 ≤ eN E) {p : Program} {e : Env} {s : State} {m : MethodId} {args : Array Value} {below : List Frame} {meth : Method} {c : Code} (C : Cq E p s m args meth c cX1_endMonth 5 RX1) {Q : State → Prop} {t : Nat} (k_t : kd t = 1) : ∀ (n : Nat) (v1 : Int32) (μ : Mm) (μx : Mm), F_X1_endMonth_10 t n v1 μ = some μx → Gq E p l e rm_X1_endMonth s m args below meth c 0 0 5 Q 50 [(0, .ref (eB E + t))] [] μx → Gq E p l e rm_X1_endMonth s m args below meth c 0 0 5 Q 10 [(0, .ref (eB E + t)), (1, .int v1)] [] μ := by
  intro n
  induction n with
  | zero =>
    intro v1 μ μx z0 kk
    rw [F_X1_endMonth_10] at z0
    cases z0
  | succ n ih =>
    intro v1 μ μx z0 kk
    rw [F_X1_endMonth_10] at z0
    refine gq_iload_n C dX1_endMonth_10 rfl 1 rfl ?_
    rcases ite_ex z0 with ⟨c1, z2⟩ | ⟨c1, z2⟩
    · refine gq_if_lt_t (tgt := 50) C dX1_endMonth_11 (by decide) c1 ?_
      cases z2
      exact gq_widen (Nat.le_of_ble_eq_true rfl) (Nat.le_of_ble_eq_true rfl) (gq_sub [0] rfl kk)
    · refine gq_if_lt_f (tgt := 50) C dX1_endMonth_11 (by decide) c1 ?_
      refine gq_aload_n C dX1_endMonth_14 rfl 0 rfl ?_
      refine gq_get1 C (st_n k_t hN 0 (by decide)) k_t 9 (by decide) wk_2_169 rfl dX1_endMonth_15 ?_
      refine gq_iload_n C dX1_endMonth_18 rfl 1 rfl ?_
      refine gq_iconst (v := 5) C dX1_endMonth_19 (by decide) ?_
      refine gq_iconst (v := -1) C dX1_endMonth_20 (by decide) ?_
      obtain ⟨m5, eo4, z3⟩ := bind_ex z2
      refine gq_V (As := [.int v1, .int (5 : Int32), .int (-1 : Int32)]) (rest := []) C (c_X2_increase hN (st_kd k_t 12 (by decide)) eo4) (st_n k_t hN 12 (by decide)) (st_kd k_t 12 (by decide)) (by decide) rfl wk_2_57 wk_2_58 wk_2_59 wk_1_5 wk_2_60 hd_X2_increase ⟨(Nat.le_of_ble_eq_true rfl), (Nat.le_of_ble_eq_true rfl)⟩ (Nat.le_of_ble_eq_true rfl) ⟨(Nat.le_of_ble_eq_true rfl), (Nat.le_of_ble_eq_true rfl)⟩ dX1_endMonth_21 rfl rfl ?_
      refine gq_aload_n C dX1_endMonth_24 rfl 0 rfl ?_
      refine gq_get1 C (st_n k_t hN 0 (by decide)) k_t 9 (by decide) wk_2_169 rfl dX1_endMonth_25 ?_
      refine gq_iload_n C dX1_endMonth_28 rfl 1 rfl ?_
      refine gq_iconst (v := 5) C dX1_endMonth_29 (by decide) ?_
      obtain ⟨x8, eo7, z6⟩ := bind_ex z3
      refine gq_V (As := [.int v1, .int (5 : Int32)]) (rest := []) C (c_X2_get hN (st_kd k_t 12 (by decide)) eo7) (st_n k_t hN 12 (by decide)) (st_kd k_t 12 (by decide)) (by decide) rfl wk_1_132 wk_1_133 wk_1_134 wk_1_5 wk_1_135 hd_X2_get ⟨(Nat.le_of_ble_eq_true rfl), (Nat.le_of_ble_eq_true rfl)⟩ (Nat.le_of_ble_eq_true rfl) ⟨(Nat.le_of_ble_eq_true rfl), (Nat.le_of_ble_eq_true rfl)⟩ dX1_endMonth_30 rfl rfl ?_
      obtain ⟨m9, z10, z11⟩ := bind_ex z6
      refine gq_join (k' := 0) (n' := 0) (pc' := 44) (lv' := [(0, .ref (eB E + t)), (1, .int v1)]) (st' := []) (μ' := m9) ?_ (fun J44 => ?_)
      · refine gq_iinc (v := (v1 + (-1))) (lv' := [(1, .int (v1 + (-1))), (0, .ref (eB E + t))]) (q := 1) C dX1_endMonth_44 rfl rfl (by decide) rfl ?_
        refine gq_goto (tgt := 10) C dX1_endMonth_47 (by decide) ?_
        refine gq_widen (k' := 0) (n' := 0) (Nat.le_of_ble_eq_true rfl) (Nat.le_of_ble_eq_true rfl) (gq_sub [1, 0] rfl ?_)
        exact ih _ _ _ z11 kk
      · rcases ite_ex z10 with ⟨c12, z13⟩ | ⟨c12, z13⟩
        · refine gq_if_gt_t (tgt := 44) C dX1_endMonth_33 (by decide) c12 ?_
          cases z13
          exact gq_widen (Nat.le_of_ble_eq_true rfl) (Nat.le_of_ble_eq_true rfl) (gq_sub [0, 1] rfl J44)
        · refine gq_if_gt_f (tgt := 44) C dX1_endMonth_33 (by decide) c12 ?_
          refine gq_aload_n C dX1_endMonth_36 rfl 0 rfl ?_
          refine gq_get1 C (st_n k_t hN 0 (by decide)) k_t 9 (by decide) wk_2_169 rfl dX1_endMonth_37 ?_
          refine gq_iload_n C dX1_endMonth_40 rfl 1 rfl ?_
          obtain ⟨m16, eo15, z14⟩ := bind_ex z13
          refine gq_V (As := [.int v1]) (rest := []) C (c_X2_removeRow hN (st_kd k_t 12 (by decide)) eo15) (st_n k_t hN 12 (by decide)) (st_kd k_t 12 (by decide)) (by decide) rfl wk_2_102 wk_2_103 wk_2_104 wk_1_5 wk_2_105 hd_X2_removeRow ⟨(Nat.le_of_ble_eq_true rfl), (Nat.le_of_ble_eq_true rfl)⟩ (Nat.le_of_ble_eq_true rfl) ⟨(Nat.le_of_ble_eq_true rfl), (Nat.le_of_ble_eq_true rfl)⟩ dX1_endMonth_41 rfl rfl ?_
          cases z14
          exact gq_widen (Nat.le_of_ble_eq_true rfl) (Nat.le_of_ble_eq_true rfl) (gq_sub [0, 1] rfl J44)
set_option maxHeartbeats 4000000 in
set_option maxRecDepth 100000 in
theorem l_X1_endMonth_52 {l : Launch} {E : Ev} (hN : 295 ≤ eN E) {p : Program} {e : Env} {s : State} {m : MethodId} {args : Array Value} {below : List Frame} {meth : Method} {c : Code} (C : Cq E p s m args meth c cX1_endMonth 5 RX1) {Q : State → Prop} {t : Nat} (k_t : kd t = 1) : ∀ (n : Nat) (v1 : Int32) (μ : Mm) (μx : Mm), F_X1_endMonth_52 t n v1 μ = some μx → Gq E p l e rm_X1_endMonth s m args below meth c 0 0 5 Q 121 [(0, .ref (eB E + t))] [] μx → Gq E p l e rm_X1_endMonth s m args below meth c 0 0 5 Q 52 [(0, .ref (eB E + t)), (1, .int v1)] [] μ := by
  intro n
  induction n with
  | zero =>
    intro v1 μ μx z0 kk
    rw [F_X1_endMonth_52] at z0
    cases z0
  | succ n ih =>
    intro v1 μ μx z0 kk
    rw [F_X1_endMonth_52] at z0
    refine gq_iload_n C dX1_endMonth_52 rfl 1 rfl ?_
    refine gq_aload_n C dX1_endMonth_53 rfl 0 rfl ?_
    refine gq_get1 C (st_n k_t hN 0 (by decide)) k_t 4 (by decide) wk_2_160 rfl dX1_endMonth_54 ?_
    refine gq_get2N C (st_n k_t hN 5 (by decide)) (st_kd k_t 5 (by decide)) 2 (by decide) wk_2_141 rfl dX1_endMonth_57 ?_
    rcases ite_ex z0 with ⟨c21, z22⟩ | ⟨c21, z22⟩
    · refine gq_icmp_ge_t (tgt := 121) C dX1_endMonth_60 (by decide) c21 ?_
      cases z22
      exact gq_widen (Nat.le_of_ble_eq_true rfl) (Nat.le_of_ble_eq_true rfl) (gq_sub [0] rfl kk)
    · refine gq_icmp_ge_f (tgt := 121) C dX1_endMonth_60 (by decide) c21 ?_
      refine gq_aload_n C dX1_endMonth_63 rfl 0 rfl ?_
      refine gq_get1 C (st_n k_t hN 0 (by decide)) k_t 4 (by decide) wk_2_160 rfl dX1_endMonth_64 ?_
      refine gq_iload_n C dX1_endMonth_67 rfl 1 rfl ?_
      refine gq_iconst (v := 0) C dX1_endMonth_68 (by decide) ?_
      obtain ⟨x25, eo24, z23⟩ := bind_ex z22
      refine gq_V (As := [.int v1, .int (0 : Int32)]) (rest := []) C (c_X2_get hN (st_kd k_t 5 (by decide)) eo24) (st_n k_t hN 5 (by decide)) (st_kd k_t 5 (by decide)) (by decide) rfl wk_1_132 wk_1_133 wk_1_134 wk_1_5 wk_1_135 hd_X2_get ⟨(Nat.le_of_ble_eq_true rfl), (Nat.le_of_ble_eq_true rfl)⟩ (Nat.le_of_ble_eq_true rfl) ⟨(Nat.le_of_ble_eq_true rfl), (Nat.le_of_ble_eq_true rfl)⟩ dX1_endMonth_69 rfl rfl ?_
      refine gq_i2l C dX1_endMonth_72 ?_
      refine gq_lstore_n (lv' := [(2, .long (Int32.toInt64 x25)), (0, .ref (eB E + t)), (1, .int v1)]) C dX1_endMonth_73 rfl (by decide) rfl ?_
      refine gq_lload_n C dX1_endMonth_74 rfl 0 rfl ?_
      refine gq_aload_n C dX1_endMonth_75 rfl 1 rfl ?_
      refine gq_get1 C (st_n k_t hN 0 (by decide)) k_t 15 (by decide) wk_2_182 rfl dX1_endMonth_76 ?_
      refine gq_i2l C dX1_endMonth_79 ?_
      refine gq_lmul C dX1_endMonth_80 ?_
      refine gq_ldc2 (v := 99) C wk_2_112 dX1_endMonth_81 ?_
      refine gq_ladd C dX1_endMonth_84 ?_
      refine gq_ldc2 (v := 100) C wk_2_113 dX1_endMonth_85 ?_
      refine gq_ldiv C dX1_endMonth_88 (by decide) ?_
      refine gq_l2i C dX1_endMonth_89 ?_
      refine gq_istore (lv' := [(4, .int (Int64.toInt32 ((((Int32.toInt64 x25) * (Int32.toInt64 (μ.1 t 15))) + (99 : Int64)) / (100 : Int64)))), (2, .long (Int32.toInt64 x25)), (0, .ref (eB E + t)), (1, .int v1)]) C dX1_endMonth_90 (by decide) rfl ?_
      refine gq_aload_n C dX1_endMonth_92 rfl 2 rfl ?_
      refine gq_get1 C (st_n k_t hN 0 (by decide)) k_t 4 (by decide) wk_2_160 rfl dX1_endMonth_93 ?_
      refine gq_iload_n C dX1_endMonth_96 rfl 3 rfl ?_
      refine gq_iconst (v := 0) C dX1_endMonth_97 (by decide) ?_
      refine gq_iload C dX1_endMonth_98 0 rfl ?_
      refine gq_ineg C dX1_endMonth_100 ?_
      obtain ⟨m28, eo27, z26⟩ := bind_ex z23
      refine gq_V (As := [.int v1, .int (0 : Int32), .int (-(Int64.toInt32 ((((Int32.toInt64 x25) * (Int32.toInt64 (μ.1 t 15))) + (99 : Int64)) / (100 : Int64))))]) (rest := []) C (c_X2_increase hN (st_kd k_t 5 (by decide)) eo27) (st_n k_t hN 5 (by decide)) (st_kd k_t 5 (by decide)) (by decide) rfl wk_2_57 wk_2_58 wk_2_59 wk_1_5 wk_2_60 hd_X2_increase ⟨(Nat.le_of_ble_eq_true rfl), (Nat.le_of_ble_eq_true rfl)⟩ (Nat.le_of_ble_eq_true rfl) ⟨(Nat.le_of_ble_eq_true rfl), (Nat.le_of_ble_eq_true rfl)⟩ dX1_endMonth_101 rfl rfl ?_
      refine gq_aload_n C dX1_endMonth_104 rfl 2 rfl ?_
      refine gq_dupr C dX1_endMonth_105 ?_
      refine gq_get1 C (st_n k_t hN 0 (by decide)) k_t 17 (by decide) wk_2_186 rfl dX1_endMonth_106 ?_
      refine gq_iload C dX1_endMonth_109 0 rfl ?_
      refine gq_iadd C dX1_endMonth_111 ?_
      obtain ⟨m29, em29, z30⟩ := bind_ex z26
      refine gq_put1_17 C (st_n k_t hN 0 (by decide)) k_t wk_2_186 (Option.some.inj em29).symm dX1_endMonth_112 ?_
      refine gq_iinc (v := (v1 + 1)) (lv' := [(1, .int (v1 + 1)), (4, .int (Int64.toInt32 ((((Int32.toInt64 x25) * (Int32.toInt64 (μ.1 t 15))) + (99 : Int64)) / (100 : Int64)))), (2, .long (Int32.toInt64 x25)), (0, .ref (eB E + t))]) (q := 3) C dX1_endMonth_115 rfl rfl (by decide) rfl ?_
      refine gq_goto (tgt := 52) C dX1_endMonth_118 (by decide) ?_
      refine gq_widen (k' := 0) (n' := 0) (Nat.le_of_ble_eq_true rfl) (Nat.le_of_ble_eq_true rfl) (gq_sub [3, 0] rfl ?_)
      exact ih _ _ _ z30 kk
set_option maxHeartbeats 4000000 in
set_option maxRecDepth 100000 in
theorem l_X1_endMonth_123 {l : Launch} {E : Ev} (hN : 295 ≤ eN E) {p : Program} {e : Env} {s : State} {m : MethodId} {args : Array Value} {below : List Frame} {meth : Method} {c : Code} (C : Cq E p s m args meth c cX1_endMonth 5 RX1) {Q : State → Prop} {t : Nat} (k_t : kd t = 1) : ∀ (n : Nat) (v1 : Int32) (μ : Mm) (μx : Mm), F_X1_endMonth_123 t n v1 μ = some μx → Gq E p l e rm_X1_endMonth s m args below meth c 0 0 5 Q 150 [(0, .ref (eB E + t))] [] μx → Gq E p l e rm_X1_endMonth s m args below meth c 0 0 5 Q 123 [(0, .ref (eB E + t)), (1, .int v1)] [] μ := by
  intro n
  induction n with
  | zero =>
    intro v1 μ μx z0 kk
    rw [F_X1_endMonth_123] at z0
    cases z0
  | succ n ih =>
    intro v1 μ μx z0 kk
    rw [F_X1_endMonth_123] at z0
    refine gq_iload_n C dX1_endMonth_123 rfl 1 rfl ?_
    refine gq_aload_n C dX1_endMonth_124 rfl 0 rfl ?_
    refine gq_get1 C (st_n k_t hN 0 (by decide)) k_t 0 (by decide) wk_2_150 rfl dX1_endMonth_125 ?_
    refine gq_get2N C (st_n k_t hN 1 (by decide)) (st_kd k_t 1 (by decide)) 2 (by decide) wk_2_141 rfl dX1_endMonth_128 ?_
    rcases ite_ex z0 with ⟨c34, z35⟩ | ⟨c34, z35⟩
    · refine gq_icmp_ge_t (tgt := 150) C dX1_endMonth_131 (by decide) c34 ?_
      cases z35
      exact gq_widen (Nat.le_of_ble_eq_true rfl) (Nat.le_of_ble_eq_true rfl) (gq_sub [0] rfl kk)
    · refine gq_icmp_ge_f (tgt := 150) C dX1_endMonth_131 (by decide) c34 ?_
      refine gq_aload_n C dX1_endMonth_134 rfl 0 rfl ?_
      refine gq_get1 C (st_n k_t hN 0 (by decide)) k_t 0 (by decide) wk_2_150 rfl dX1_endMonth_135 ?_
      refine gq_iload_n C dX1_endMonth_138 rfl 1 rfl ?_
      refine gq_iconst (v := 2) C dX1_endMonth_139 (by decide) ?_
      refine gq_iconst (v := 0) C dX1_endMonth_140 (by decide) ?_
      obtain ⟨m38, eo37, z36⟩ := bind_ex z35
      refine gq_V (As := [.int v1, .int (2 : Int32), .int (0 : Int32)]) (rest := []) C (c_X2_put hN (st_kd k_t 1 (by decide)) eo37) (st_n k_t hN 1 (by decide)) (st_kd k_t 1 (by decide)) (by decide) rfl wk_2_10 wk_2_11 wk_2_12 wk_1_5 wk_2_13 hd_X2_put ⟨(Nat.le_of_ble_eq_true rfl), (Nat.le_of_ble_eq_true rfl)⟩ (Nat.le_of_ble_eq_true rfl) ⟨(Nat.le_of_ble_eq_true rfl), (Nat.le_of_ble_eq_true rfl)⟩ dX1_endMonth_141 rfl rfl ?_
      refine gq_iinc (v := (v1 + 1)) (lv' := [(1, .int (v1 + 1)), (0, .ref (eB E + t))]) (q := 1) C dX1_endMonth_144 rfl rfl (by decide) rfl ?_
      refine gq_goto (tgt := 123) C dX1_endMonth_147 (by decide) ?_
      refine gq_widen (k' := 0) (n' := 0) (Nat.le_of_ble_eq_true rfl) (Nat.le_of_ble_eq_true rfl) (gq_sub [1, 0] rfl ?_)
      exact ih _ _ _ z36 kk
set_option maxHeartbeats 4000000 in
set_option maxRecDepth 100000 in
theorem c_X1_endMonth {l : Launch} {E : Ev} (hN : 295 ≤ eN E) {t : Nat} (k_t : kd t = 1) {μ : Mm} {μ' : Mm} (z0 : F_X1_endMonth t μ = some μ') : Ct l E yX1_endMonth (Cond.code yX1_endMonth cX1_endMonth 5 none :: GW) rm_X1_endMonth [.ref (eB E + t)] μ none μ' := by
  refine ct_of (by decide) (Nat.le_of_ble_eq_true rfl) (fun p e s m args below meth c C hr => ?_)
  have C : Cq E p s m args meth c cX1_endMonth 5 RX1 := C
  refine gq_lv (lv' := [(0, .ref (eB E + t))]) rfl ?_
  unfold F_X1_endMonth at z0
  refine gq_aload_n C dX1_endMonth_0 rfl 0 rfl ?_
  refine gq_get1 C (st_n k_t hN 0 (by decide)) k_t 9 (by decide) wk_2_169 rfl dX1_endMonth_1 ?_
  refine gq_get2N C (st_n k_t hN 12 (by decide)) (st_kd k_t 12 (by decide)) 2 (by decide) wk_2_141 rfl dX1_endMonth_4 ?_
  refine gq_iconst (v := 1) C dX1_endMonth_7 (by decide) ?_
  refine gq_isub C dX1_endMonth_8 ?_
  refine gq_istore_n (lv' := [(1, .int ((μ.1 (t + 12) 2) - (1 : Int32))), (0, .ref (eB E + t))]) C dX1_endMonth_9 rfl (by decide) rfl ?_
  obtain ⟨m20, eo19, z18⟩ := bind_ex z0
  refine gq_widen (k' := 0) (n' := 0) (Nat.le_of_ble_eq_true rfl) (Nat.le_of_ble_eq_true rfl) (gq_sub [1, 0] rfl ?_)
  refine l_X1_endMonth_10 hN C k_t qFuel _ _ _ eo19 ?_
  refine gq_iconst (v := 0) C dX1_endMonth_50 (by decide) ?_
  refine gq_istore_n (lv' := [(1, .int (0 : Int32)), (0, .ref (eB E + t))]) C dX1_endMonth_51 rfl (by decide) rfl ?_
  obtain ⟨m33, eo32, z31⟩ := bind_ex z18
  refine gq_widen (k' := 0) (n' := 0) (Nat.le_of_ble_eq_true rfl) (Nat.le_of_ble_eq_true rfl) (gq_sub [1, 0] rfl ?_)
  refine l_X1_endMonth_52 hN C k_t qFuel _ _ _ eo32 ?_
  refine gq_iconst (v := 0) C dX1_endMonth_121 (by decide) ?_
  refine gq_istore_n (lv' := [(1, .int (0 : Int32)), (0, .ref (eB E + t))]) C dX1_endMonth_122 rfl (by decide) rfl ?_
  obtain ⟨m41, eo40, z39⟩ := bind_ex z31
  refine gq_widen (k' := 0) (n' := 0) (Nat.le_of_ble_eq_true rfl) (Nat.le_of_ble_eq_true rfl) (gq_sub [1, 0] rfl ?_)
  refine l_X1_endMonth_123 hN C k_t qFuel _ _ _ eo40 ?_
  refine gq_aload_n C dX1_endMonth_150 rfl 0 rfl ?_
  refine gq_dupr C dX1_endMonth_151 ?_
  refine gq_get1 C (st_n k_t hN 0 (by decide)) k_t 14 (by decide) wk_2_180 rfl dX1_endMonth_152 ?_
  refine gq_iconst (v := 1) C dX1_endMonth_155 (by decide) ?_
  refine gq_iadd C dX1_endMonth_156 ?_
  obtain ⟨m42, em42, z43⟩ := bind_ex z39
  refine gq_put1_14 C (st_n k_t hN 0 (by decide)) k_t wk_2_180 (Option.some.inj em42).symm dX1_endMonth_157 ?_
  cases z43
  exact gq_vret C hr dX1_endMonth_160 (Nat.le_of_ble_eq_true rfl) (Nat.le_of_ble_eq_true rfl)
abbrev rm_X1_runMonth : Room := { frames := 5, cells := 0, slots := 0, locals := 125 }
def F_X1_runMonth_19 (t : Nat) (u1 : Int32) : Nat → Int32 → Int32 → Mm → Option (Int32 × Mm)
  | 0, _, _, _ => none
  | n + 1, v2, v3, μ =>
  if (μ.1 (t + 8) 2) ≤ v3 then
  (some (v2, μ))
  else
  ((F_X1_rightAtRank t v3 μ).bind fun o13 =>
  (if o13 = u1 then
  (some μ)
  else
  ((F_X1_serveClaimsOf t o13 μ).bind fun o21 =>
  some o21)).bind fun o23 =>
  (F_X1_isCut t o13 o23).bind fun o25 =>
  (if o25 = 0 then
  (some (v2, o23))
  else
  ((F_X2_increase (t + 8) o13 (9 : Int32) (1 : Int32) o23).bind fun o34 =>
  if v2 = (-1 : Int32) then
  ((F_X2_get (t + 8) o13 (2 : Int32) o34).bind fun o39 =>
  some (o39, o34))
  else
  (some (v2, o34)))).bind fun o41 =>
  F_X1_runMonth_19 t u1 n o41.1 (v3 + 1) o41.2)
def F_X1_runMonth (t : Nat) (p1 : Int32) (μ : Mm) : Option (Int32 × Mm) :=
  (F_X1_openGauges t μ).bind fun o2 =>
  (F_X1_payPremiums t o2).bind fun o5 =>
  (F_X2_removeAll (t + 16) o5).bind fun o8 =>
  (F_X1_runMonth_19 t p1 qFuel (-1 : Int32) (0 : Int32) o8).bind fun o43 =>
  (F_X2_sumOf (t + 16) (5 : Int32) o43.2).bind fun o47 =>
  (F_X1_remember t o47 o43.1 o43.2).bind fun o50 =>
  (F_X1_endMonth t o50).bind fun o53 =>
  some (o47, o53)
set_option maxHeartbeats 4000000 in
set_option maxRecDepth 100000 in
theorem l_X1_runMonth_19 {l : Launch} {E : Ev} (hN : 295 ≤ eN E) {p : Program} {e : Env} {s : State} {m : MethodId} {args : Array Value} {below : List Frame} {meth : Method} {c : Code} (C : Cq E p s m args meth c cX1_runMonth 5 RX1) {Q : State → Prop} {t : Nat} (k_t : kd t = 1) {u1 : Int32} : ∀ (n : Nat) (v2 : Int32) (v3 : Int32) (μ : Mm) (w2 : Int32) (μx : Mm), F_X1_runMonth_19 t u1 n v2 v3 μ = some (w2, μx) → Gq E p l e rm_X1_runMonth s m args below meth c 0 0 5 Q 92 [(0, .ref (eB E + t)), (2, .int w2)] [] μx → Gq E p l e rm_X1_runMonth s m args below meth c 0 0 5 Q 19 [(0, .ref (eB E + t)), (1, .int u1), (2, .int v2), (3, .int v3)] [] μ := by
  intro n
  induction n with
  | zero =>
    intro v2 v3 μ w2 μx z0 kk
    rw [F_X1_runMonth_19] at z0
    cases z0
  | succ n ih =>
    intro v2 v3 μ w2 μx z0 kk
    rw [F_X1_runMonth_19] at z0
    refine gq_iload_n C dX1_runMonth_19 rfl 3 rfl ?_
    refine gq_aload_n C dX1_runMonth_20 rfl 0 rfl ?_
    refine gq_get1 C (st_n k_t hN 0 (by decide)) k_t 6 (by decide) wk_2_164 rfl dX1_runMonth_21 ?_
    refine gq_get2N C (st_n k_t hN 8 (by decide)) (st_kd k_t 8 (by decide)) 2 (by decide) wk_2_141 rfl dX1_runMonth_24 ?_
    rcases ite_ex z0 with ⟨c10, z11⟩ | ⟨c10, z11⟩
    · refine gq_icmp_ge_t (tgt := 92) C dX1_runMonth_27 (by decide) c10 ?_
      cases z11
      exact gq_widen (Nat.le_of_ble_eq_true rfl) (Nat.le_of_ble_eq_true rfl) (gq_sub [0, 2] rfl kk)
    · refine gq_icmp_ge_f (tgt := 92) C dX1_runMonth_27 (by decide) c10 ?_
      refine gq_aload_n C dX1_runMonth_30 rfl 0 rfl ?_
      refine gq_iload_n C dX1_runMonth_31 rfl 3 rfl ?_
      obtain ⟨x14, eo13, z12⟩ := bind_ex z11
      refine gq_V (As := [.int v3]) (rest := []) C (c_X1_rightAtRank hN k_t eo13) (st_n k_t hN 0 (by decide)) k_t (by decide) rfl wk_2_23 wk_2_24 wk_2_25 wk_1_4 wk_2_26 hd_X1_rightAtRank ⟨(Nat.le_of_ble_eq_true rfl), (Nat.le_of_ble_eq_true rfl)⟩ (Nat.le_of_ble_eq_true rfl) ⟨(Nat.le_of_ble_eq_true rfl), (Nat.le_of_ble_eq_true rfl)⟩ dX1_runMonth_32 rfl rfl ?_
      refine gq_istore (lv' := [(4, .int x14), (0, .ref (eB E + t)), (1, .int u1), (2, .int v2), (3, .int v3)]) C dX1_runMonth_35 (by decide) rfl ?_
      refine gq_iload C dX1_runMonth_37 0 rfl ?_
      refine gq_iload_n C dX1_runMonth_39 rfl 2 rfl ?_
      obtain ⟨m15, z16, z17⟩ := bind_ex z12
      refine gq_join (k' := 0) (n' := 0) (pc' := 49) (lv' := [(0, .ref (eB E + t)), (1, .int u1), (2, .int v2), (3, .int v3), (4, .int x14)]) (st' := []) (μ' := m15) ?_ (fun J49 => ?_)
      · refine gq_aload_n C dX1_runMonth_49 rfl 0 rfl ?_
        refine gq_iload C dX1_runMonth_50 4 rfl ?_
        obtain ⟨x26, eo25, z24⟩ := bind_ex z17
        refine gq_V (As := [.int x14]) (rest := []) C (c_X1_isCut hN k_t eo25) (st_n k_t hN 0 (by decide)) k_t (by decide) rfl wk_2_89 wk_2_91 ws_X1_isCut wk_1_4 wk_2_92 hd_X1_isCut ⟨(Nat.le_of_ble_eq_true rfl), (Nat.le_of_ble_eq_true rfl)⟩ (Nat.le_of_ble_eq_true rfl) ⟨(Nat.le_of_ble_eq_true rfl), (Nat.le_of_ble_eq_true rfl)⟩ dX1_runMonth_52 rfl rfl ?_
        obtain ⟨⟨x27, m28⟩, z29, z30⟩ := bind_ex z24
        dsimp only at z30
        refine gq_join (k' := 0) (n' := 0) (pc' := 86) (lv' := [(0, .ref (eB E + t)), (1, .int u1), (2, .int x27), (3, .int v3)]) (st' := []) (μ' := m28) ?_ (fun J86 => ?_)
        · refine gq_iinc (v := (v3 + 1)) (lv' := [(3, .int (v3 + 1)), (0, .ref (eB E + t)), (1, .int u1), (2, .int x27)]) (q := 3) C dX1_runMonth_86 rfl rfl (by decide) rfl ?_
          refine gq_goto (tgt := 19) C dX1_runMonth_89 (by decide) ?_
          refine gq_widen (k' := 0) (n' := 0) (Nat.le_of_ble_eq_true rfl) (Nat.le_of_ble_eq_true rfl) (gq_sub [1, 2, 3, 0] rfl ?_)
          exact ih _ _ _ _ _ z30 kk
        · rcases ite_ex z29 with ⟨c31, z32⟩ | ⟨c31, z32⟩
          · refine gq_if_eq_t (tgt := 86) C dX1_runMonth_55 (by decide) c31 ?_
            cases z32
            exact gq_widen (Nat.le_of_ble_eq_true rfl) (Nat.le_of_ble_eq_true rfl) (gq_sub [0, 1, 2, 3] rfl J86)
          · refine gq_if_eq_f (tgt := 86) C dX1_runMonth_55 (by decide) c31 ?_
            refine gq_aload_n C dX1_runMonth_58 rfl 0 rfl ?_
            refine gq_get1 C (st_n k_t hN 0 (by decide)) k_t 6 (by decide) wk_2_164 rfl dX1_runMonth_59 ?_
            refine gq_iload C dX1_runMonth_62 4 rfl ?_
            refine gq_bipush (v := 9) C dX1_runMonth_64 (by decide) ?_
            refine gq_iconst (v := 1) C dX1_runMonth_66 (by decide) ?_
            obtain ⟨m35, eo34, z33⟩ := bind_ex z32
            refine gq_V (As := [.int x14, .int (9 : Int32), .int (1 : Int32)]) (rest := []) C (c_X2_increase hN (st_kd k_t 8 (by decide)) eo34) (st_n k_t hN 8 (by decide)) (st_kd k_t 8 (by decide)) (by decide) rfl wk_2_57 wk_2_58 wk_2_59 wk_1_5 wk_2_60 hd_X2_increase ⟨(Nat.le_of_ble_eq_true rfl), (Nat.le_of_ble_eq_true rfl)⟩ (Nat.le_of_ble_eq_true rfl) ⟨(Nat.le_of_ble_eq_true rfl), (Nat.le_of_ble_eq_true rfl)⟩ dX1_runMonth_67 rfl rfl ?_
            refine gq_iload_n C dX1_runMonth_70 rfl 2 rfl ?_
            refine gq_iconst (v := -1) C dX1_runMonth_71 (by decide) ?_
            rcases ite_ex z33 with ⟨c36, z37⟩ | ⟨c36, z37⟩
            · refine gq_icmp_ne_f (tgt := 86) C dX1_runMonth_72 (by decide) c36 ?_
              refine gq_aload_n C dX1_runMonth_75 rfl 0 rfl ?_
              refine gq_get1 C (st_n k_t hN 0 (by decide)) k_t 6 (by decide) wk_2_164 rfl dX1_runMonth_76 ?_
              refine gq_iload C dX1_runMonth_79 4 rfl ?_
              refine gq_iconst (v := 2) C dX1_runMonth_81 (by decide) ?_
              obtain ⟨x40, eo39, z38⟩ := bind_ex z37
              refine gq_V (As := [.int x14, .int (2 : Int32)]) (rest := []) C (c_X2_get hN (st_kd k_t 8 (by decide)) eo39) (st_n k_t hN 8 (by decide)) (st_kd k_t 8 (by decide)) (by decide) rfl wk_1_132 wk_1_133 wk_1_134 wk_1_5 wk_1_135 hd_X2_get ⟨(Nat.le_of_ble_eq_true rfl), (Nat.le_of_ble_eq_true rfl)⟩ (Nat.le_of_ble_eq_true rfl) ⟨(Nat.le_of_ble_eq_true rfl), (Nat.le_of_ble_eq_true rfl)⟩ dX1_runMonth_82 rfl rfl ?_
              refine gq_istore_n (lv' := [(2, .int x40), (0, .ref (eB E + t)), (1, .int u1), (3, .int v3), (4, .int x14)]) C dX1_runMonth_85 rfl (by decide) rfl ?_
              cases z38
              exact gq_widen (Nat.le_of_ble_eq_true rfl) (Nat.le_of_ble_eq_true rfl) (gq_sub [1, 2, 0, 3] rfl J86)
            · refine gq_icmp_ne_t (tgt := 86) C dX1_runMonth_72 (by decide) c36 ?_
              cases z37
              exact gq_widen (Nat.le_of_ble_eq_true rfl) (Nat.le_of_ble_eq_true rfl) (gq_sub [0, 1, 2, 3] rfl J86)
      · rcases ite_ex z16 with ⟨c18, z19⟩ | ⟨c18, z19⟩
        · refine gq_icmp_eq_t (tgt := 49) C dX1_runMonth_40 (by decide) c18 ?_
          cases z19
          exact gq_widen (Nat.le_of_ble_eq_true rfl) (Nat.le_of_ble_eq_true rfl) (gq_sub [1, 2, 3, 4, 0] rfl J49)
        · refine gq_icmp_eq_f (tgt := 49) C dX1_runMonth_40 (by decide) c18 ?_
          refine gq_aload_n C dX1_runMonth_43 rfl 1 rfl ?_
          refine gq_iload C dX1_runMonth_44 0 rfl ?_
          obtain ⟨m22, eo21, z20⟩ := bind_ex z19
          refine gq_V (As := [.int x14]) (rest := []) C (c_X1_serveClaimsOf hN k_t eo21) (st_n k_t hN 0 (by decide)) k_t (by decide) rfl wk_2_28 wk_2_30 ws_X1_serveClaimsOf wk_1_4 wk_2_31 hd_X1_serveClaimsOf ⟨(Nat.le_of_ble_eq_true rfl), (Nat.le_of_ble_eq_true rfl)⟩ (Nat.le_of_ble_eq_true rfl) ⟨(Nat.le_of_ble_eq_true rfl), (Nat.le_of_ble_eq_true rfl)⟩ dX1_runMonth_46 rfl rfl ?_
          cases z20
          exact gq_widen (Nat.le_of_ble_eq_true rfl) (Nat.le_of_ble_eq_true rfl) (gq_sub [1, 2, 3, 4, 0] rfl J49)
set_option maxHeartbeats 4000000 in
set_option maxRecDepth 100000 in
theorem c_X1_runMonth {l : Launch} {E : Ev} (hN : 295 ≤ eN E) {t : Nat} (k_t : kd t = 1) {p1 : Int32} {μ : Mm} {r : Int32} {μ' : Mm} (z0 : F_X1_runMonth t p1 μ = some (r, μ')) : Ct l E yX1_runMonth (Cond.code yX1_runMonth cX1_runMonth 5 (some .int) :: GW) rm_X1_runMonth [.ref (eB E + t), .int p1] μ (some (.int r)) μ' := by
  refine ct_of (by decide) (Nat.le_of_ble_eq_true rfl) (fun p e s m args below meth c C hr => ?_)
  have C : Cq E p s m args meth c cX1_runMonth 5 RX1 := C
  refine gq_lv (lv' := [(0, .ref (eB E + t)), (1, .int p1)]) rfl ?_
  unfold F_X1_runMonth at z0
  refine gq_aload_n C dX1_runMonth_0 rfl 0 rfl ?_
  obtain ⟨m3, eo2, z1⟩ := bind_ex z0
  refine gq_V (As := []) (rest := []) C (c_X1_openGauges hN k_t eo2) (st_n k_t hN 0 (by decide)) k_t (by decide) rfl wk_1_237 wk_1_238 wk_1_239 wk_1_4 wk_2_0 hd_X1_openGauges ⟨(Nat.le_of_ble_eq_true rfl), (Nat.le_of_ble_eq_true rfl)⟩ (Nat.le_of_ble_eq_true rfl) ⟨(Nat.le_of_ble_eq_true rfl), (Nat.le_of_ble_eq_true rfl)⟩ dX1_runMonth_1 rfl rfl ?_
  refine gq_aload_n C dX1_runMonth_4 rfl 0 rfl ?_
  obtain ⟨m6, eo5, z4⟩ := bind_ex z1
  refine gq_V (As := []) (rest := []) C (c_X1_payPremiums hN k_t eo5) (st_n k_t hN 0 (by decide)) k_t (by decide) rfl wk_2_14 wk_2_16 ws_X1_payPremiums wk_1_4 wk_2_18 hd_X1_payPremiums ⟨(Nat.le_of_ble_eq_true rfl), (Nat.le_of_ble_eq_true rfl)⟩ (Nat.le_of_ble_eq_true rfl) ⟨(Nat.le_of_ble_eq_true rfl), (Nat.le_of_ble_eq_true rfl)⟩ dX1_runMonth_5 rfl rfl ?_
  refine gq_aload_n C dX1_runMonth_8 rfl 0 rfl ?_
  refine gq_get1 C (st_n k_t hN 0 (by decide)) k_t 11 (by decide) wk_2_175 rfl dX1_runMonth_9 ?_
  obtain ⟨m9, eo8, z7⟩ := bind_ex z4
  refine gq_V (As := []) (rest := []) C (c_X2_removeAll hN (st_kd k_t 16 (by decide)) eo8) (st_n k_t hN 16 (by decide)) (st_kd k_t 16 (by decide)) (by decide) rfl wk_2_1 wk_2_2 wk_2_3 wk_1_5 wk_2_4 hd_X2_removeAll ⟨(Nat.le_of_ble_eq_true rfl), (Nat.le_of_ble_eq_true rfl)⟩ (Nat.le_of_ble_eq_true rfl) ⟨(Nat.le_of_ble_eq_true rfl), (Nat.le_of_ble_eq_true rfl)⟩ dX1_runMonth_12 rfl rfl ?_
  refine gq_iconst (v := -1) C dX1_runMonth_15 (by decide) ?_
  refine gq_istore_n (lv' := [(2, .int (-1 : Int32)), (0, .ref (eB E + t)), (1, .int p1)]) C dX1_runMonth_16 rfl (by decide) rfl ?_
  refine gq_iconst (v := 0) C dX1_runMonth_17 (by decide) ?_
  refine gq_istore_n (lv' := [(3, .int (0 : Int32)), (2, .int (-1 : Int32)), (0, .ref (eB E + t)), (1, .int p1)]) C dX1_runMonth_18 rfl (by decide) rfl ?_
  obtain ⟨⟨x44, m45⟩, eo43, z42⟩ := bind_ex z7
  dsimp only at z42
  refine gq_widen (k' := 0) (n' := 0) (Nat.le_of_ble_eq_true rfl) (Nat.le_of_ble_eq_true rfl) (gq_sub [2, 3, 1, 0] rfl ?_)
  refine l_X1_runMonth_19 hN C k_t qFuel _ _ _ _ _ eo43 ?_
  refine gq_aload_n C dX1_runMonth_92 rfl 0 rfl ?_
  refine gq_get1 C (st_n k_t hN 0 (by decide)) k_t 11 (by decide) wk_2_175 rfl dX1_runMonth_93 ?_
  refine gq_iconst (v := 5) C dX1_runMonth_96 (by decide) ?_
  obtain ⟨x48, eo47, z46⟩ := bind_ex z42
  refine gq_V (As := [.int (5 : Int32)]) (rest := []) C (c_X2_sumOf hN (st_kd k_t 16 (by decide)) eo47) (st_n k_t hN 16 (by decide)) (st_kd k_t 16 (by decide)) (by decide) rfl wk_2_93 wk_2_94 wk_2_95 wk_1_5 wk_2_96 hd_X2_sumOf ⟨(Nat.le_of_ble_eq_true rfl), (Nat.le_of_ble_eq_true rfl)⟩ (Nat.le_of_ble_eq_true rfl) ⟨(Nat.le_of_ble_eq_true rfl), (Nat.le_of_ble_eq_true rfl)⟩ dX1_runMonth_97 rfl rfl ?_
  refine gq_istore_n (lv' := [(3, .int x48), (0, .ref (eB E + t)), (2, .int x44)]) C dX1_runMonth_100 rfl (by decide) rfl ?_
  refine gq_aload_n C dX1_runMonth_101 rfl 1 rfl ?_
  refine gq_iload_n C dX1_runMonth_102 rfl 0 rfl ?_
  refine gq_iload_n C dX1_runMonth_103 rfl 2 rfl ?_
  obtain ⟨m51, eo50, z49⟩ := bind_ex z46
  refine gq_V (As := [.int x48, .int x44]) (rest := []) C (c_X1_remember hN k_t eo50) (st_n k_t hN 0 (by decide)) k_t (by decide) rfl wk_2_98 wk_2_100 ws_X1_remember wk_1_4 wk_2_101 hd_X1_remember ⟨(Nat.le_of_ble_eq_true rfl), (Nat.le_of_ble_eq_true rfl)⟩ (Nat.le_of_ble_eq_true rfl) ⟨(Nat.le_of_ble_eq_true rfl), (Nat.le_of_ble_eq_true rfl)⟩ dX1_runMonth_104 rfl rfl ?_
  refine gq_aload_n C dX1_runMonth_107 rfl 1 rfl ?_
  obtain ⟨m54, eo53, z52⟩ := bind_ex z49
  refine gq_V (As := []) (rest := []) C (c_X1_endMonth hN k_t eo53) (st_n k_t hN 0 (by decide)) k_t (by decide) rfl wk_2_108 wk_2_110 ws_X1_endMonth wk_1_4 wk_2_111 hd_X1_endMonth ⟨(Nat.le_of_ble_eq_true rfl), (Nat.le_of_ble_eq_true rfl)⟩ (Nat.le_of_ble_eq_true rfl) ⟨(Nat.le_of_ble_eq_true rfl), (Nat.le_of_ble_eq_true rfl)⟩ dX1_runMonth_108 rfl rfl ?_
  refine gq_iload_n C dX1_runMonth_111 rfl 0 rfl ?_
  cases z52
  exact gq_iret C hr dX1_runMonth_112 (Nat.le_of_ble_eq_true rfl) (Nat.le_of_ble_eq_true rfl)
