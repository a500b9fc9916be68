abbrev rm_X0_addWord : Room := { frames := 0, cells := 0, slots := 0, locals := 0 }
def F_X0_addWord_3 (u1 : Int32) : Nat → Int32 → Mm → Option Mm
  | 0, _, _ => none
  | n + 1, v2, μ =>
  if v2 < 0 then
  (some μ)
  else
  (if (900 : Int32) ≤ (μ.1 45 2) then
  (some μ)
  else
  ((sB μ 46 (μ.1 45 2) (Int8.toInt32 (Int32.toInt8 ((Int32.toUInt32 u1 >>> (Int32.toUInt32 v2 &&& Int32.toUInt32 31)).toInt32)))).bind fun m5 =>
  (some (uI m5 45 2 ((m5.1 45 2) + (1 : Int32)))).bind fun m7 =>
  F_X0_addWord_3 u1 n (v2 + (-8)) m7))
def F_X0_addWord (p1 : Int32) (μ : Mm) : Option Mm :=
  (F_X0_addWord_3 p1 qFuel (24 : Int32) μ).bind fun o10 =>
  some o10
set_option maxHeartbeats 4000000 in
set_option maxRecDepth 100000 in
theorem l_X0_addWord_3 {l : Launch} {E : Ev} (hN : 295 ≤ eN E) {p : Program} {e : Env} {s : State} {m : MethodId} {args : Array Value} {below : List Frame} {meth : Method} {c : Code} (C : Cq E p s m args meth c cX0_addWord 3 RX0) {Q : State → Prop} {u1 : Int32} : ∀ (n : Nat) (v2 : Int32) (μ : Mm) (μx : Mm), F_X0_addWord_3 u1 n v2 μ = some μx → Gq E p l e rm_X0_addWord s m args below meth c 0 0 3 Q 46 [] [] μx → Gq E p l e rm_X0_addWord s m args below meth c 0 0 3 Q 3 [(0, .ref (eB E + 45)), (1, .int u1), (2, .int v2)] [] μ := by
  intro n
  induction n with
  | zero =>
    intro v2 μ μx z0 kk
    rw [F_X0_addWord_3] at z0
    cases z0
  | succ n ih =>
    intro v2 μ μx z0 kk
    rw [F_X0_addWord_3] at z0
    refine gq_iload_n C dX0_addWord_3 rfl 2 rfl ?_
    rcases ite_ex z0 with ⟨c1, z2⟩ | ⟨c1, z2⟩
    · refine gq_if_lt_t (tgt := 46) C dX0_addWord_4 (by decide) c1 ?_
      cases z2
      exact gq_widen (Nat.le_of_ble_eq_true rfl) (Nat.le_of_ble_eq_true rfl) (gq_sub [] rfl kk)
    · refine gq_if_lt_f (tgt := 46) C dX0_addWord_4 (by decide) c1 ?_
      refine gq_aload_n C dX0_addWord_7 rfl 0 rfl ?_
      refine gq_get3 C (qn_l 45 (by decide) hN) (by decide) 2 (by decide) wk_3_0 rfl dX0_addWord_8 ?_
      refine gq_sipush (v := 900) C dX0_addWord_11 (by decide) ?_
      rcases ite_ex z2 with ⟨c3, z4⟩ | ⟨c3, z4⟩
      · refine gq_icmp_ge_t (tgt := 46) C dX0_addWord_14 (by decide) c3 ?_
        cases z4
        exact gq_widen (Nat.le_of_ble_eq_true rfl) (Nat.le_of_ble_eq_true rfl) (gq_sub [] rfl kk)
      · refine gq_icmp_ge_f (tgt := 46) C dX0_addWord_14 (by decide) c3 ?_
        refine gq_aload_n C dX0_addWord_17 rfl 0 rfl ?_
        refine gq_get3 C (qn_l 45 (by decide) hN) (by decide) 0 (by decide) wk_2_236 rfl dX0_addWord_18 ?_
        refine gq_aload_n C dX0_addWord_21 rfl 0 rfl ?_
        refine gq_get3 C (qn_l 45 (by decide) hN) (by decide) 2 (by decide) wk_3_0 rfl dX0_addWord_22 ?_
        refine gq_iload_n C dX0_addWord_25 rfl 1 rfl ?_
        refine gq_iload_n C dX0_addWord_26 rfl 2 rfl ?_
        refine gq_iushr C dX0_addWord_27 rfl ?_
        refine gq_i2b C dX0_addWord_28 ?_
        obtain ⟨m5, em5, z6⟩ := bind_ex z4
        refine gq_bastoreB C (qn_l 46 (by decide) hN) (by decide) em5 dX0_addWord_29 ?_
        refine gq_aload_n C dX0_addWord_30 rfl 0 rfl ?_
        refine gq_dupr C dX0_addWord_31 ?_
        refine gq_get3 C (qn_l 45 (by decide) hN) (by decide) 2 (by decide) wk_3_0 rfl dX0_addWord_32 ?_
        refine gq_iconst (v := 1) C dX0_addWord_35 (by decide) ?_
        refine gq_iadd C dX0_addWord_36 ?_
        obtain ⟨m7, em7, z8⟩ := bind_ex z6
        refine gq_put3_2 C (qn_l 45 (by decide) hN) (by decide) wk_3_0 (Option.some.inj em7).symm dX0_addWord_37 ?_
        refine gq_iinc (v := (v2 + (-8))) (lv' := [(2, .int (v2 + (-8))), (0, .ref (eB E + 45)), (1, .int u1)]) (q := 2) C dX0_addWord_40 rfl rfl (by decide) rfl ?_
        refine gq_goto (tgt := 3) C dX0_addWord_43 (by decide) ?_
        refine gq_widen (k' := 0) (n' := 0) (Nat.le_of_ble_eq_true rfl) (Nat.le_of_ble_eq_true rfl) (gq_sub [1, 2, 0] rfl ?_)
        exact ih _ _ _ z8 kk
set_option maxHeartbeats 4000000 in
set_option maxRecDepth 100000 in
theorem c_X0_addWord {l : Launch} {E : Ev} (hN : 295 ≤ eN E) {p1 : Int32} {μ : Mm} {μ' : Mm} (z0 : F_X0_addWord p1 μ = some μ') : Ct l E yX0_addWord (Cond.code yX0_addWord cX0_addWord 3 none :: GW) rm_X0_addWord [.ref (eB E + 45), .int p1] μ none μ' := by
  refine ct_of (by decide) (Nat.le_of_ble_eq_true rfl) (fun p e s m args below meth c C hr => ?_)
  have C : Cq E p s m args meth c cX0_addWord 3 RX0 := C
  refine gq_lv (lv' := [(0, .ref (eB E + 45)), (1, .int p1)]) rfl ?_
  unfold F_X0_addWord at z0
  refine gq_bipush (v := 24) C dX0_addWord_0 (by decide) ?_
  refine gq_istore_n (lv' := [(2, .int (24 : Int32)), (0, .ref (eB E + 45)), (1, .int p1)]) C dX0_addWord_2 rfl (by decide) rfl ?_
  obtain ⟨m11, eo10, z9⟩ := bind_ex z0
  refine gq_widen (k' := 0) (n' := 0) (Nat.le_of_ble_eq_true rfl) (Nat.le_of_ble_eq_true rfl) (gq_sub [1, 2, 0] rfl ?_)
  refine l_X0_addWord_3 hN C  qFuel _ _ _ eo10 ?_
  cases z9
  exact gq_vret C hr dX0_addWord_46 (Nat.le_of_ble_eq_true rfl) (Nat.le_of_ble_eq_true rfl)
abbrev rm_X0_isBlank : Room := { frames := 0, cells := 0, slots := 0, locals := 0 }
def F_X0_isBlank (p1 : Int32) (μ : Mm) : Option Int32 :=
  if p1 = (32 : Int32) then
  (some (1 : Int32))
  else
  (if p1 = (9 : Int32) then
  (some (1 : Int32))
  else
  (if p1 = (10 : Int32) then
  (some (1 : Int32))
  else
  (some (0 : Int32))))
set_option maxHeartbeats 4000000 in
set_option maxRecDepth 100000 in
theorem c_X0_isBlank {l : Launch} {E : Ev} (hN : 295 ≤ eN E) {p1 : Int32} {μ : Mm} {r : Int32} (z0 : F_X0_isBlank p1 μ = some r) : Ct l E yX0_isBlank (Cond.code yX0_isBlank cX0_isBlank 1 (some .boolean) :: GW) rm_X0_isBlank [.int p1] μ (some (.int r)) μ := by
  refine ct_of (by decide) (Nat.le_of_ble_eq_true rfl) (fun p e s m args below meth c C hr => ?_)
  have C : Cq E p s m args meth c cX0_isBlank 1 RX0 := C
  refine gq_lv (lv' := [(0, .int p1)]) rfl ?_
  unfold F_X0_isBlank at z0
  refine gq_iload_n C dX0_isBlank_0 rfl 0 rfl ?_
  refine gq_bipush (v := 32) C dX0_isBlank_1 (by decide) ?_
  rcases ite_ex z0 with ⟨c1, z2⟩ | ⟨c1, z2⟩
  · refine gq_icmp_eq_t (tgt := 18) C dX0_isBlank_3 (by decide) c1 ?_
    refine gq_iconst (v := 1) C dX0_isBlank_18 (by decide) ?_
    refine gq_goto (tgt := 23) C dX0_isBlank_19 (by decide) ?_
    cases z2
    exact gq_zret C hr (by decide) dX0_isBlank_23 (Nat.le_of_ble_eq_true rfl) (Nat.le_of_ble_eq_true rfl)
  · refine gq_icmp_eq_f (tgt := 18) C dX0_isBlank_3 (by decide) c1 ?_
    refine gq_iload_n C dX0_isBlank_6 rfl 0 rfl ?_
    refine gq_bipush (v := 9) C dX0_isBlank_7 (by decide) ?_
    rcases ite_ex z2 with ⟨c3, z4⟩ | ⟨c3, z4⟩
    · refine gq_icmp_eq_t (tgt := 18) C dX0_isBlank_9 (by decide) c3 ?_
      refine gq_iconst (v := 1) C dX0_isBlank_18 (by decide) ?_
      refine gq_goto (tgt := 23) C dX0_isBlank_19 (by decide) ?_
      cases z4
      exact gq_zret C hr (by decide) dX0_isBlank_23 (Nat.le_of_ble_eq_true rfl) (Nat.le_of_ble_eq_true rfl)
    · refine gq_icmp_eq_f (tgt := 18) C dX0_isBlank_9 (by decide) c3 ?_
      refine gq_iload_n C dX0_isBlank_12 rfl 0 rfl ?_
      refine gq_bipush (v := 10) C dX0_isBlank_13 (by decide) ?_
      rcases ite_ex z4 with ⟨c5, z6⟩ | ⟨c5, z6⟩
      · refine gq_icmp_ne_f (tgt := 22) C dX0_isBlank_15 (by decide) c5 ?_
        refine gq_iconst (v := 1) C dX0_isBlank_18 (by decide) ?_
        refine gq_goto (tgt := 23) C dX0_isBlank_19 (by decide) ?_
        cases z6
        exact gq_zret C hr (by decide) dX0_isBlank_23 (Nat.le_of_ble_eq_true rfl) (Nat.le_of_ble_eq_true rfl)
      · refine gq_icmp_ne_t (tgt := 22) C dX0_isBlank_15 (by decide) c5 ?_
        refine gq_iconst (v := 0) C dX0_isBlank_22 (by decide) ?_
        cases z6
        exact gq_zret C hr (by decide) dX0_isBlank_23 (Nat.le_of_ble_eq_true rfl) (Nat.le_of_ble_eq_true rfl)
abbrev rm_X0_isLetter : Room := { frames := 0, cells := 0, slots := 0, locals := 0 }
def F_X0_isLetter (p1 : Int32) (μ : Mm) : Option Int32 :=
  if p1 < (97 : Int32) then
  (some (0 : Int32))
  else
  (if (122 : Int32) < p1 then
  (some (0 : Int32))
  else
  (some (1 : Int32)))
set_option maxHeartbeats 4000000 in
set_option maxRecDepth 100000 in
theorem c_X0_isLetter {l : Launch} {E : Ev} (hN : 295 ≤ eN E) {p1 : Int32} {μ : Mm} {r : Int32} (z0 : F_X0_isLetter p1 μ = some r) : Ct l E yX0_isLetter (Cond.code yX0_isLetter cX0_isLetter 1 (some .boolean) :: GW) rm_X0_isLetter [.int p1] μ (some (.int r)) μ := by
  refine ct_of (by decide) (Nat.le_of_ble_eq_true rfl) (fun p e s m args below meth c C hr => ?_)
  have C : Cq E p s m args meth c cX0_isLetter 1 RX0 := C
  refine gq_lv (lv' := [(0, .int p1)]) rfl ?_
  unfold F_X0_isLetter at z0
  refine gq_iload_n C dX0_isLetter_0 rfl 0 rfl ?_
  refine gq_bipush (v := 97) C dX0_isLetter_1 (by decide) ?_
  rcases ite_ex z0 with ⟨c1, z2⟩ | ⟨c1, z2⟩
  · refine gq_icmp_lt_t (tgt := 16) C dX0_isLetter_3 (by decide) c1 ?_
    refine gq_iconst (v := 0) C dX0_isLetter_16 (by decide) ?_
    cases z2
    exact gq_zret C hr (by decide) dX0_isLetter_17 (Nat.le_of_ble_eq_true rfl) (Nat.le_of_ble_eq_true rfl)
  · refine gq_icmp_lt_f (tgt := 16) C dX0_isLetter_3 (by decide) c1 ?_
    refine gq_iload_n C dX0_isLetter_6 rfl 0 rfl ?_
    refine gq_bipush (v := 122) C dX0_isLetter_7 (by decide) ?_
    rcases ite_ex z2 with ⟨c3, z4⟩ | ⟨c3, z4⟩
    · refine gq_icmp_gt_t (tgt := 16) C dX0_isLetter_9 (by decide) c3 ?_
      refine gq_iconst (v := 0) C dX0_isLetter_16 (by decide) ?_
      cases z4
      exact gq_zret C hr (by decide) dX0_isLetter_17 (Nat.le_of_ble_eq_true rfl) (Nat.le_of_ble_eq_true rfl)
    · refine gq_icmp_gt_f (tgt := 16) C dX0_isLetter_9 (by decide) c3 ?_
      refine gq_iconst (v := 1) C dX0_isLetter_12 (by decide) ?_
      refine gq_goto (tgt := 17) C dX0_isLetter_13 (by decide) ?_
      cases z4
      exact gq_zret C hr (by decide) dX0_isLetter_17 (Nat.le_of_ble_eq_true rfl) (Nat.le_of_ble_eq_true rfl)
abbrev rm_X0_isDigit : Room := { frames := 0, cells := 0, slots := 0, locals := 0 }
def F_X0_isDigit (p1 : Int32) (μ : Mm) : Option Int32 :=
  if p1 < (48 : Int32) then
  (some (0 : Int32))
  else
  (if (57 : Int32) < p1 then
  (some (0 : Int32))
  else
  (some (1 : Int32)))
set_option maxHeartbeats 4000000 in
set_option maxRecDepth 100000 in
theorem c_X0_isDigit {l : Launch} {E : Ev} (hN : 295 ≤ eN E) {p1 : Int32} {μ : Mm} {r : Int32} (z0 : F_X0_isDigit p1 μ = some r) : Ct l E yX0_isDigit (Cond.code yX0_isDigit cX0_isDigit 1 (some .boolean) :: GW) rm_X0_isDigit [.int p1] μ (some (.int r)) μ := by
  refine ct_of (by decide) (Nat.le_of_ble_eq_true rfl) (fun p e s m args below meth c C hr => ?_)
  have C : Cq E p s m args meth c cX0_isDigit 1 RX0 := C
  refine gq_lv (lv' := [(0, .int p1)]) rfl ?_
  unfold F_X0_isDigit at z0
  refine gq_iload_n C dX0_isDigit_0 rfl 0 rfl ?_
  refine gq_bipush (v := 48) C dX0_isDigit_1 (by decide) ?_
  rcases ite_ex z0 with ⟨c1, z2⟩ | ⟨c1, z2⟩
  · refine gq_icmp_lt_t (tgt := 16) C dX0_isDigit_3 (by decide) c1 ?_
    refine gq_iconst (v := 0) C dX0_isDigit_16 (by decide) ?_
    cases z2
    exact gq_zret C hr (by decide) dX0_isDigit_17 (Nat.le_of_ble_eq_true rfl) (Nat.le_of_ble_eq_true rfl)
  · refine gq_icmp_lt_f (tgt := 16) C dX0_isDigit_3 (by decide) c1 ?_
    refine gq_iload_n C dX0_isDigit_6 rfl 0 rfl ?_
    refine gq_bipush (v := 57) C dX0_isDigit_7 (by decide) ?_
    rcases ite_ex z2 with ⟨c3, z4⟩ | ⟨c3, z4⟩
    · refine gq_icmp_gt_t (tgt := 16) C dX0_isDigit_9 (by decide) c3 ?_
      refine gq_iconst (v := 0) C dX0_isDigit_16 (by decide) ?_
      cases z4
      exact gq_zret C hr (by decide) dX0_isDigit_17 (Nat.le_of_ble_eq_true rfl) (Nat.le_of_ble_eq_true rfl)
    · refine gq_icmp_gt_f (tgt := 16) C dX0_isDigit_9 (by decide) c3 ?_
      refine gq_iconst (v := 1) C dX0_isDigit_12 (by decide) ?_
      refine gq_goto (tgt := 17) C dX0_isDigit_13 (by decide) ?_
      cases z4
      exact gq_zret C hr (by decide) dX0_isDigit_17 (Nat.le_of_ble_eq_true rfl) (Nat.le_of_ble_eq_true rfl)
abbrev rm_X0_nextToken : Room := { frames := 1, cells := 0, slots := 0, locals := 20 }
def F_X0_nextToken_5  (μ : Mm) : Nat → Int32 → Option Int32
  | 0, _ => none
  | n + 1, v1 =>
  if (μ.1 45 2) ≤ v1 then
  (some v1)
  else
  ((aI μ 46 v1).bind fun x3 =>
  (F_X0_isBlank x3 μ).bind fun o6 =>
  if o6 = 0 then
  (some v1)
  else
  (F_X0_nextToken_5 μ n (v1 + 1)))
def F_X0_nextToken_130  : Nat → Mm → Option Mm
  | 0, _ => none
  | n + 1, μ =>
  if (μ.1 45 2) ≤ (μ.1 45 7) then
  (some μ)
  else
  ((aI μ 46 (μ.1 45 7)).bind fun x49 =>
  (F_X0_isDigit x49 μ).bind fun o52 =>
  if o52 = 0 then
  (some μ)
  else
  ((some (uI μ 45 7 ((μ.1 45 7) + (1 : Int32)))).bind fun m56 =>
  F_X0_nextToken_130 n m56))
def F_X0_nextToken_74  : Nat → Mm → Option Mm
  | 0, _ => none
  | n + 1, μ =>
  if (μ.1 45 2) ≤ (μ.1 45 7) then
  (some μ)
  else
  ((aI μ 46 (μ.1 45 7)).bind fun x65 =>
  (F_X0_isLetter x65 μ).bind fun o68 =>
  if o68 = 0 then
  (some μ)
  else
  ((some (uI μ 45 7 ((μ.1 45 7) + (1 : Int32)))).bind fun m72 =>
  F_X0_nextToken_74 n m72))
def F_X0_nextToken  (μ : Mm) : Option Mm :=
  (F_X0_nextToken_5 μ qFuel (μ.1 45 7)).bind fun o11 =>
  (some (uI μ 45 6 o11)).bind fun m13 =>
  (some (uI m13 45 7 o11)).bind fun m15 =>
  if o11 < (m15.1 45 2) then
  ((aI m15 46 o11).bind fun x19 =>
  (F_X0_isLetter x19 m15).bind fun o22 =>
  if o22 = 0 then
  ((aI m15 46 o11).bind fun x26 =>
  (F_X0_isDigit x26 m15).bind fun o29 =>
  if o29 = 0 then
  ((aI m15 46 o11).bind fun x33 =>
  (if x33 = (59 : Int32) then
  (some (3 : Int32))
  else
  (some (4 : Int32))).bind fun o40 =>
  (some (uI m15 45 5 o40)).bind fun m41 =>
  (some (uI m41 45 7 ((m41.1 45 7) + (1 : Int32)))).bind fun m43 =>
  some m43)
  else
  ((some (uI m15 45 5 (2 : Int32))).bind fun m45 =>
  (F_X0_nextToken_130 qFuel m45).bind fun o59 =>
  some o59))
  else
  ((some (uI m15 45 5 (1 : Int32))).bind fun m61 =>
  (F_X0_nextToken_74 qFuel m61).bind fun o75 =>
  some o75))
  else
  ((some (uI m15 45 5 (0 : Int32))).bind fun m77 =>
  some m77)
set_option maxHeartbeats 4000000 in
set_option maxRecDepth 100000 in
theorem l_X0_nextToken_5 {l : Launch} {E : Ev} (hN : 295 ≤ eN E) {p : Program} {e : Env} {s : State} {m : MethodId} {args : Array Value} {below : List Frame} {meth : Method} {c : Code} (C : Cq E p s m args meth c cX0_nextToken 2 RX0) {Q : State → Prop} {μ : Mm} : ∀ (n : Nat) (v1 : Int32) (w1 : Int32), F_X0_nextToken_5 μ n v1 = some w1 → Gq E p l e rm_X0_nextToken s m args below meth c 0 0 2 Q 31 [(0, .ref (eB E + 45)), (1, .int w1)] [] μ → Gq E p l e rm_X0_nextToken s m args below meth c 0 0 2 Q 5 [(0, .ref (eB E + 45)), (1, .int v1)] [] μ := by
  intro n
  induction n with
  | zero =>
    intro v1 w1 z0 kk
    rw [F_X0_nextToken_5] at z0
    cases z0
  | succ n ih =>
    intro v1 w1 z0 kk
    rw [F_X0_nextToken_5] at z0
    refine gq_iload_n C dX0_nextToken_5 rfl 1 rfl ?_
    refine gq_aload_n C dX0_nextToken_6 rfl 0 rfl ?_
    refine gq_get3 C (qn_l 45 (by decide) hN) (by decide) 2 (by decide) wk_3_0 rfl dX0_nextToken_7 ?_
    rcases ite_ex z0 with ⟨c1, z2⟩ | ⟨c1, z2⟩
    · refine gq_icmp_ge_t (tgt := 31) C dX0_nextToken_10 (by decide) c1 ?_
      cases z2
      exact gq_widen (Nat.le_of_ble_eq_true rfl) (Nat.le_of_ble_eq_true rfl) (gq_sub [0, 1] rfl kk)
    · refine gq_icmp_ge_f (tgt := 31) C dX0_nextToken_10 (by decide) c1 ?_
      refine gq_aload_n C dX0_nextToken_13 rfl 0 rfl ?_
      refine gq_get3 C (qn_l 45 (by decide) hN) (by decide) 0 (by decide) wk_2_236 rfl dX0_nextToken_14 ?_
      refine gq_iload_n C dX0_nextToken_17 rfl 1 rfl ?_
      obtain ⟨x3, ex3, z4⟩ := bind_ex z2
      refine gq_baloadB C (qn_l 46 (by decide) hN) (by decide) ex3 dX0_nextToken_18 ?_
      obtain ⟨x7, eo6, z5⟩ := bind_ex z4
      refine gq_S (As := [.int x3]) (rest := []) C (c_X0_isBlank hN  eo6) wk_4_129 wk_4_130 wk_1_6 wk_4_131 hd_X0_isBlank ⟨(Nat.le_of_ble_eq_true rfl), (Nat.le_of_ble_eq_true rfl)⟩ (Nat.le_of_ble_eq_true rfl) ⟨(Nat.le_of_ble_eq_true rfl), (Nat.le_of_ble_eq_true rfl)⟩ dX0_nextToken_19 rfl rfl ?_
      rcases ite_ex z5 with ⟨c8, z9⟩ | ⟨c8, z9⟩
      · refine gq_if_eq_t (tgt := 31) C dX0_nextToken_22 (by decide) c8 ?_
        cases z9
        exact gq_widen (Nat.le_of_ble_eq_true rfl) (Nat.le_of_ble_eq_true rfl) (gq_sub [0, 1] rfl kk)
      · refine gq_if_eq_f (tgt := 31) C dX0_nextToken_22 (by decide) c8 ?_
        refine gq_iinc (v := (v1 + 1)) (lv' := [(1, .int (v1 + 1)), (0, .ref (eB E + 45))]) (q := 1) C dX0_nextToken_25 rfl rfl (by decide) rfl ?_
        refine gq_goto (tgt := 5) C dX0_nextToken_28 (by decide) ?_
        refine gq_widen (k' := 0) (n' := 0) (Nat.le_of_ble_eq_true rfl) (Nat.le_of_ble_eq_true rfl) (gq_sub [1, 0] rfl ?_)
        exact ih _ _ z9 kk
set_option maxHeartbeats 4000000 in
set_option maxRecDepth 100000 in
theorem l_X0_nextToken_130 {l : Launch} {E : Ev} (hN : 295 ≤ eN E) {p : Program} {e : Env} {s : State} {m : MethodId} {args : Array Value} {below : List Frame} {meth : Method} {c : Code} (C : Cq E p s m args meth c cX0_nextToken 2 RX0) {Q : State → Prop} : ∀ (n : Nat) (μ : Mm) (μx : Mm), F_X0_nextToken_130 n μ = some μx → Gq E p l e rm_X0_nextToken s m args below meth c 0 0 2 Q 199 [] [] μx → Gq E p l e rm_X0_nextToken s m args below meth c 0 0 2 Q 130 [(0, .ref (eB E + 45))] [] μ := by
  intro n
  induction n with
  | zero =>
    intro μ μx z0 kk
    rw [F_X0_nextToken_130] at z0
    cases z0
  | succ n ih =>
    intro μ μx z0 kk
    rw [F_X0_nextToken_130] at z0
    refine gq_aload_n C dX0_nextToken_130 rfl 0 rfl ?_
    refine gq_get3 C (qn_l 45 (by decide) hN) (by decide) 7 (by decide) wk_3_6 rfl dX0_nextToken_131 ?_
    refine gq_aload_n C dX0_nextToken_134 rfl 0 rfl ?_
    refine gq_get3 C (qn_l 45 (by decide) hN) (by decide) 2 (by decide) wk_3_0 rfl dX0_nextToken_135 ?_
    rcases ite_ex z0 with ⟨c47, z48⟩ | ⟨c47, z48⟩
    · refine gq_icmp_ge_t (tgt := 199) C dX0_nextToken_138 (by decide) c47 ?_
      cases z48
      exact gq_widen (Nat.le_of_ble_eq_true rfl) (Nat.le_of_ble_eq_true rfl) (gq_sub [] rfl kk)
    · refine gq_icmp_ge_f (tgt := 199) C dX0_nextToken_138 (by decide) c47 ?_
      refine gq_aload_n C dX0_nextToken_141 rfl 0 rfl ?_
      refine gq_get3 C (qn_l 45 (by decide) hN) (by decide) 0 (by decide) wk_2_236 rfl dX0_nextToken_142 ?_
      refine gq_aload_n C dX0_nextToken_145 rfl 0 rfl ?_
      refine gq_get3 C (qn_l 45 (by decide) hN) (by decide) 7 (by decide) wk_3_6 rfl dX0_nextToken_146 ?_
      obtain ⟨x49, ex49, z50⟩ := bind_ex z48
      refine gq_baloadB C (qn_l 46 (by decide) hN) (by decide) ex49 dX0_nextToken_149 ?_
      obtain ⟨x53, eo52, z51⟩ := bind_ex z50
      refine gq_S (As := [.int x49]) (rest := []) C (c_X0_isDigit hN  eo52) wk_4_135 wk_4_136 wk_1_6 wk_4_137 hd_X0_isDigit ⟨(Nat.le_of_ble_eq_true rfl), (Nat.le_of_ble_eq_true rfl)⟩ (Nat.le_of_ble_eq_true rfl) ⟨(Nat.le_of_ble_eq_true rfl), (Nat.le_of_ble_eq_true rfl)⟩ dX0_nextToken_150 rfl rfl ?_
      rcases ite_ex z51 with ⟨c54, z55⟩ | ⟨c54, z55⟩
      · refine gq_if_eq_t (tgt := 199) C dX0_nextToken_153 (by decide) c54 ?_
        cases z55
        exact gq_widen (Nat.le_of_ble_eq_true rfl) (Nat.le_of_ble_eq_true rfl) (gq_sub [] rfl kk)
      · refine gq_if_eq_f (tgt := 199) C dX0_nextToken_153 (by decide) c54 ?_
        refine gq_aload_n C dX0_nextToken_156 rfl 0 rfl ?_
        refine gq_dupr C dX0_nextToken_157 ?_
        refine gq_get3 C (qn_l 45 (by decide) hN) (by decide) 7 (by decide) wk_3_6 rfl dX0_nextToken_158 ?_
        refine gq_iconst (v := 1) C dX0_nextToken_161 (by decide) ?_
        refine gq_iadd C dX0_nextToken_162 ?_
        obtain ⟨m56, em56, z57⟩ := bind_ex z55
        refine gq_put3_7 C (qn_l 45 (by decide) hN) (by decide) wk_3_6 (Option.some.inj em56).symm dX0_nextToken_163 ?_
        refine gq_goto (tgt := 130) C dX0_nextToken_166 (by decide) ?_
        refine gq_widen (k' := 0) (n' := 0) (Nat.le_of_ble_eq_true rfl) (Nat.le_of_ble_eq_true rfl) (gq_sub [0] rfl ?_)
        exact ih  _ _ z57 kk
set_option maxHeartbeats 4000000 in
set_option maxRecDepth 100000 in
theorem l_X0_nextToken_74 {l : Launch} {E : Ev} (hN : 295 ≤ eN E) {p : Program} {e : Env} {s : State} {m : MethodId} {args : Array Value} {below : List Frame} {meth : Method} {c : Code} (C : Cq E p s m args meth c cX0_nextToken 2 RX0) {Q : State → Prop} : ∀ (n : Nat) (μ : Mm) (μx : Mm), F_X0_nextToken_74 n μ = some μx → Gq E p l e rm_X0_nextToken s m args below meth c 0 0 2 Q 199 [] [] μx → Gq E p l e rm_X0_nextToken s m args below meth c 0 0 2 Q 74 [(0, .ref (eB E + 45))] [] μ := by
  intro n
  induction n with
  | zero =>
    intro μ μx z0 kk
    rw [F_X0_nextToken_74] at z0
    cases z0
  | succ n ih =>
    intro μ μx z0 kk
    rw [F_X0_nextToken_74] at z0
    refine gq_aload_n C dX0_nextToken_74 rfl 0 rfl ?_
    refine gq_get3 C (qn_l 45 (by decide) hN) (by decide) 7 (by decide) wk_3_6 rfl dX0_nextToken_75 ?_
    refine gq_aload_n C dX0_nextToken_78 rfl 0 rfl ?_
    refine gq_get3 C (qn_l 45 (by decide) hN) (by decide) 2 (by decide) wk_3_0 rfl dX0_nextToken_79 ?_
    rcases ite_ex z0 with ⟨c63, z64⟩ | ⟨c63, z64⟩
    · refine gq_icmp_ge_t (tgt := 199) C dX0_nextToken_82 (by decide) c63 ?_
      cases z64
      exact gq_widen (Nat.le_of_ble_eq_true rfl) (Nat.le_of_ble_eq_true rfl) (gq_sub [] rfl kk)
    · refine gq_icmp_ge_f (tgt := 199) C dX0_nextToken_82 (by decide) c63 ?_
      refine gq_aload_n C dX0_nextToken_85 rfl 0 rfl ?_
      refine gq_get3 C (qn_l 45 (by decide) hN) (by decide) 0 (by decide) wk_2_236 rfl dX0_nextToken_86 ?_
      refine gq_aload_n C dX0_nextToken_89 rfl 0 rfl ?_
      refine gq_get3 C (qn_l 45 (by decide) hN) (by decide) 7 (by decide) wk_3_6 rfl dX0_nextToken_90 ?_
      obtain ⟨x65, ex65, z66⟩ := bind_ex z64
      refine gq_baloadB C (qn_l 46 (by decide) hN) (by decide) ex65 dX0_nextToken_93 ?_
      obtain ⟨x69, eo68, z67⟩ := bind_ex z66
      refine gq_S (As := [.int x65]) (rest := []) C (c_X0_isLetter hN  eo68) wk_4_132 wk_4_133 wk_1_6 wk_4_134 hd_X0_isLetter ⟨(Nat.le_of_ble_eq_true rfl), (Nat.le_of_ble_eq_true rfl)⟩ (Nat.le_of_ble_eq_true rfl) ⟨(Nat.le_of_ble_eq_true rfl), (Nat.le_of_ble_eq_true rfl)⟩ dX0_nextToken_94 rfl rfl ?_
      rcases ite_ex z67 with ⟨c70, z71⟩ | ⟨c70, z71⟩
      · refine gq_if_eq_t (tgt := 199) C dX0_nextToken_97 (by decide) c70 ?_
        cases z71
        exact gq_widen (Nat.le_of_ble_eq_true rfl) (Nat.le_of_ble_eq_true rfl) (gq_sub [] rfl kk)
      · refine gq_if_eq_f (tgt := 199) C dX0_nextToken_97 (by decide) c70 ?_
        refine gq_aload_n C dX0_nextToken_100 rfl 0 rfl ?_
        refine gq_dupr C dX0_nextToken_101 ?_
        refine gq_get3 C (qn_l 45 (by decide) hN) (by decide) 7 (by decide) wk_3_6 rfl dX0_nextToken_102 ?_
        refine gq_iconst (v := 1) C dX0_nextToken_105 (by decide) ?_
        refine gq_iadd C dX0_nextToken_106 ?_
        obtain ⟨m72, em72, z73⟩ := bind_ex z71
        refine gq_put3_7 C (qn_l 45 (by decide) hN) (by decide) wk_3_6 (Option.some.inj em72).symm dX0_nextToken_107 ?_
        refine gq_goto (tgt := 74) C dX0_nextToken_110 (by decide) ?_
        refine gq_widen (k' := 0) (n' := 0) (Nat.le_of_ble_eq_true rfl) (Nat.le_of_ble_eq_true rfl) (gq_sub [0] rfl ?_)
        exact ih  _ _ z73 kk
set_option maxHeartbeats 4000000 in
set_option maxRecDepth 100000 in
theorem c_X0_nextToken {l : Launch} {E : Ev} (hN : 295 ≤ eN E) {μ : Mm} {μ' : Mm} (z0 : F_X0_nextToken  μ = some μ') : Ct l E yX0_nextToken (Cond.code yX0_nextToken cX0_nextToken 2 none :: GW) rm_X0_nextToken [.ref (eB E + 45)] μ none μ' := by
  refine ct_of (by decide) (Nat.le_of_ble_eq_true rfl) (fun p e s m args below meth c C hr => ?_)
  have C : Cq E p s m args meth c cX0_nextToken 2 RX0 := C
  refine gq_lv (lv' := [(0, .ref (eB E + 45))]) rfl ?_
  unfold F_X0_nextToken at z0
  refine gq_aload_n C dX0_nextToken_0 rfl 0 rfl ?_
  refine gq_get3 C (qn_l 45 (by decide) hN) (by decide) 7 (by decide) wk_3_6 rfl dX0_nextToken_1 ?_
  refine gq_istore_n (lv' := [(1, .int (μ.1 45 7)), (0, .ref (eB E + 45))]) C dX0_nextToken_4 rfl (by decide) rfl ?_
  obtain ⟨x12, eo11, z10⟩ := bind_ex z0
  refine gq_widen (k' := 0) (n' := 0) (Nat.le_of_ble_eq_true rfl) (Nat.le_of_ble_eq_true rfl) (gq_sub [1, 0] rfl ?_)
  refine l_X0_nextToken_5 hN C  qFuel _ _ eo11 ?_
  refine gq_aload_n C dX0_nextToken_31 rfl 0 rfl ?_
  refine gq_iload_n C dX0_nextToken_32 rfl 1 rfl ?_
  obtain ⟨m13, em13, z14⟩ := bind_ex z10
  refine gq_put3_6 C (qn_l 45 (by decide) hN) (by decide) wk_3_5 (Option.some.inj em13).symm dX0_nextToken_33 ?_
  refine gq_aload_n C dX0_nextToken_36 rfl 0 rfl ?_
  refine gq_iload_n C dX0_nextToken_37 rfl 1 rfl ?_
  obtain ⟨m15, em15, z16⟩ := bind_ex z14
  refine gq_put3_7 C (qn_l 45 (by decide) hN) (by decide) wk_3_6 (Option.some.inj em15).symm dX0_nextToken_38 ?_
  refine gq_iload_n C dX0_nextToken_41 rfl 1 rfl ?_
  refine gq_aload_n C dX0_nextToken_42 rfl 0 rfl ?_
  refine gq_get3 C (qn_l 45 (by decide) hN) (by decide) 2 (by decide) wk_3_0 rfl dX0_nextToken_43 ?_
  rcases ite_ex z16 with ⟨c17, z18⟩ | ⟨c17, z18⟩
  · refine gq_icmp_lt_t (tgt := 57) C dX0_nextToken_46 (by decide) c17 ?_
    refine gq_aload_n C dX0_nextToken_57 rfl 0 rfl ?_
    refine gq_get3 C (qn_l 45 (by decide) hN) (by decide) 0 (by decide) wk_2_236 rfl dX0_nextToken_58 ?_
    refine gq_iload_n C dX0_nextToken_61 rfl 1 rfl ?_
    obtain ⟨x19, ex19, z20⟩ := bind_ex z18
    refine gq_baloadB C (qn_l 46 (by decide) hN) (by decide) ex19 dX0_nextToken_62 ?_
    obtain ⟨x23, eo22, z21⟩ := bind_ex z20
    refine gq_S (As := [.int x19]) (rest := []) C (c_X0_isLetter hN  eo22) wk_4_132 wk_4_133 wk_1_6 wk_4_134 hd_X0_isLetter ⟨(Nat.le_of_ble_eq_true rfl), (Nat.le_of_ble_eq_true rfl)⟩ (Nat.le_of_ble_eq_true rfl) ⟨(Nat.le_of_ble_eq_true rfl), (Nat.le_of_ble_eq_true rfl)⟩ dX0_nextToken_63 rfl rfl ?_
    rcases ite_ex z21 with ⟨c24, z25⟩ | ⟨c24, z25⟩
    · refine gq_if_eq_t (tgt := 113) C dX0_nextToken_66 (by decide) c24 ?_
      refine gq_aload_n C dX0_nextToken_113 rfl 0 rfl ?_
      refine gq_get3 C (qn_l 45 (by decide) hN) (by decide) 0 (by decide) wk_2_236 rfl dX0_nextToken_114 ?_
      refine gq_iload_n C dX0_nextToken_117 rfl 1 rfl ?_
      obtain ⟨x26, ex26, z27⟩ := bind_ex z25
      refine gq_baloadB C (qn_l 46 (by decide) hN) (by decide) ex26 dX0_nextToken_118 ?_
      obtain ⟨x30, eo29, z28⟩ := bind_ex z27
      refine gq_S (As := [.int x26]) (rest := []) C (c_X0_isDigit hN  eo29) wk_4_135 wk_4_136 wk_1_6 wk_4_137 hd_X0_isDigit ⟨(Nat.le_of_ble_eq_true rfl), (Nat.le_of_ble_eq_true rfl)⟩ (Nat.le_of_ble_eq_true rfl) ⟨(Nat.le_of_ble_eq_true rfl), (Nat.le_of_ble_eq_true rfl)⟩ dX0_nextToken_119 rfl rfl ?_
      rcases ite_ex z28 with ⟨c31, z32⟩ | ⟨c31, z32⟩
      · refine gq_if_eq_t (tgt := 169) C dX0_nextToken_122 (by decide) c31 ?_
        refine gq_aload_n C dX0_nextToken_169 rfl 0 rfl ?_
        refine gq_aload_n C dX0_nextToken_170 rfl 0 rfl ?_
        refine gq_get3 C (qn_l 45 (by decide) hN) (by decide) 0 (by decide) wk_2_236 rfl dX0_nextToken_171 ?_
        refine gq_iload_n C dX0_nextToken_174 rfl 1 rfl ?_
        obtain ⟨x33, ex33, z34⟩ := bind_ex z32
        refine gq_baloadB C (qn_l 46 (by decide) hN) (by decide) ex33 dX0_nextToken_175 ?_
        refine gq_bipush (v := 59) C dX0_nextToken_176 (by decide) ?_
        obtain ⟨x35, z36, z37⟩ := bind_ex z34
        refine gq_join (k' := 0) (n' := 0) (pc' := 186) (lv' := [(0, .ref (eB E + 45))]) (st' := [.int x35, .ref (eB E + 45)]) (μ' := m15) ?_ (fun J186 => ?_)
        · obtain ⟨m41, em41, z42⟩ := bind_ex z37
          refine gq_put3_5 C (qn_l 45 (by decide) hN) (by decide) wk_3_4 (Option.some.inj em41).symm dX0_nextToken_186 ?_
          refine gq_aload_n C dX0_nextToken_189 rfl 0 rfl ?_
          refine gq_dupr C dX0_nextToken_190 ?_
          refine gq_get3 C (qn_l 45 (by decide) hN) (by decide) 7 (by decide) wk_3_6 rfl dX0_nextToken_191 ?_
          refine gq_iconst (v := 1) C dX0_nextToken_194 (by decide) ?_
          refine gq_iadd C dX0_nextToken_195 ?_
          obtain ⟨m43, em43, z44⟩ := bind_ex z42
          refine gq_put3_7 C (qn_l 45 (by decide) hN) (by decide) wk_3_6 (Option.some.inj em43).symm dX0_nextToken_196 ?_
          cases z44
          exact gq_vret C hr dX0_nextToken_199 (Nat.le_of_ble_eq_true rfl) (Nat.le_of_ble_eq_true rfl)
        · rcases ite_ex z36 with ⟨c38, z39⟩ | ⟨c38, z39⟩
          · refine gq_icmp_ne_f (tgt := 185) C dX0_nextToken_178 (by decide) c38 ?_
            refine gq_iconst (v := 3) C dX0_nextToken_181 (by decide) ?_
            refine gq_goto (tgt := 186) C dX0_nextToken_182 (by decide) ?_
            cases z39
            exact gq_widen (Nat.le_of_ble_eq_true rfl) (Nat.le_of_ble_eq_true rfl) (gq_sub [0] rfl J186)
          · refine gq_icmp_ne_t (tgt := 185) C dX0_nextToken_178 (by decide) c38 ?_
            refine gq_iconst (v := 4) C dX0_nextToken_185 (by decide) ?_
            cases z39
            exact gq_widen (Nat.le_of_ble_eq_true rfl) (Nat.le_of_ble_eq_true rfl) (gq_sub [0] rfl J186)
      · refine gq_if_eq_f (tgt := 169) C dX0_nextToken_122 (by decide) c31 ?_
        refine gq_aload_n C dX0_nextToken_125 rfl 0 rfl ?_
        refine gq_iconst (v := 2) C dX0_nextToken_126 (by decide) ?_
        obtain ⟨m45, em45, z46⟩ := bind_ex z32
        refine gq_put3_5 C (qn_l 45 (by decide) hN) (by decide) wk_3_4 (Option.some.inj em45).symm dX0_nextToken_127 ?_
        obtain ⟨m60, eo59, z58⟩ := bind_ex z46
        refine gq_widen (k' := 0) (n' := 0) (Nat.le_of_ble_eq_true rfl) (Nat.le_of_ble_eq_true rfl) (gq_sub [0] rfl ?_)
        refine l_X0_nextToken_130 hN C  qFuel _ _ eo59 ?_
        cases z58
        exact gq_vret C hr dX0_nextToken_199 (Nat.le_of_ble_eq_true rfl) (Nat.le_of_ble_eq_true rfl)
    · refine gq_if_eq_f (tgt := 113) C dX0_nextToken_66 (by decide) c24 ?_
      refine gq_aload_n C dX0_nextToken_69 rfl 0 rfl ?_
      refine gq_iconst (v := 1) C dX0_nextToken_70 (by decide) ?_
      obtain ⟨m61, em61, z62⟩ := bind_ex z25
      refine gq_put3_5 C (qn_l 45 (by decide) hN) (by decide) wk_3_4 (Option.some.inj em61).symm dX0_nextToken_71 ?_
      obtain ⟨m76, eo75, z74⟩ := bind_ex z62
      refine gq_widen (k' := 0) (n' := 0) (Nat.le_of_ble_eq_true rfl) (Nat.le_of_ble_eq_true rfl) (gq_sub [0] rfl ?_)
      refine l_X0_nextToken_74 hN C  qFuel _ _ eo75 ?_
      cases z74
      exact gq_vret C hr dX0_nextToken_199 (Nat.le_of_ble_eq_true rfl) (Nat.le_of_ble_eq_true rfl)
  · refine gq_icmp_lt_f (tgt := 57) C dX0_nextToken_46 (by decide) c17 ?_
    refine gq_aload_n C dX0_nextToken_49 rfl 0 rfl ?_
    refine gq_iconst (v := 0) C dX0_nextToken_50 (by decide) ?_
    obtain ⟨m77, em77, z78⟩ := bind_ex z18
    refine gq_put3_5 C (qn_l 45 (by decide) hN) (by decide) wk_3_4 (Option.some.inj em77).symm dX0_nextToken_51 ?_
    refine gq_goto (tgt := 199) C dX0_nextToken_54 (by decide) ?_
    cases z78
    exact gq_vret C hr dX0_nextToken_199 (Nat.le_of_ble_eq_true rfl) (Nat.le_of_ble_eq_true rfl)
abbrev rm_X0_isWord : Room := { frames := 6, cells := 0, slots := 0, locals := 208 }
def F_X0_isWord_28 (w1 : Nat) (μ : Mm) : Nat → Int32 → Option Int32
  | 0, _ => none
  | n + 1, v2 =>
  if (strLen w1) ≤ v2 then
  (some (1 : Int32))
  else
  (if (μ.1 45 2) ≤ ((μ.1 45 6) + v2) then
  (some (1 : Int32))
  else
  ((aI μ 46 ((μ.1 45 6) + v2)).bind fun x9 =>
  (strAt w1 v2).bind fun x11 =>
  if x9 = x11 then
  (F_X0_isWord_28 w1 μ n (v2 + 1))
  else
  (some (0 : Int32))))
def F_X0_isWord (w1 : Nat) (μ : Mm) : Option Int32 :=
  if (μ.1 45 5) = (1 : Int32) then
  (if ((μ.1 45 7) - (μ.1 45 6)) = (strLen w1) then
  (F_X0_isWord_28 w1 μ qFuel (0 : Int32))
  else
  (some (0 : Int32)))
  else
  (some (0 : Int32))
set_option maxHeartbeats 4000000 in
set_option maxRecDepth 100000 in
theorem l_X0_isWord_28 {l : Launch} {E : Ev} (hN : 295 ≤ eN E) {p : Program} {e : Env} {s : State} {m : MethodId} {args : Array Value} {below : List Frame} {meth : Method} {c : Code} (C : Cq E p s m args meth c cX0_isWord 3 RX0) (hr : meth.sig.returnType = (some .boolean)) {w1 : Nat} (k_w1 : w1 < 10) {μ : Mm} : ∀ (n : Nat) (v2 : Int32) (r : Int32), F_X0_isWord_28 w1 μ n v2 = some r → Gq E p l e rm_X0_isWord s m args below meth c 0 0 3 (MQ below (qQ E (some (.int r)) μ) args s rm_X0_isWord.cells rm_X0_isWord.slots (eA E)) 28 [(0, .ref (eB E + 45)), (1, .ref (eK E w1)), (2, .int v2)] [] μ := by
  intro n
  induction n with
  | zero =>
    intro v2 r z0
    rw [F_X0_isWord_28] at z0
    cases z0
  | succ n ih =>
    intro v2 r z0
    rw [F_X0_isWord_28] at z0
    refine gq_iload_n C dX0_isWord_28 rfl 2 rfl ?_
    refine gq_aload_n C dX0_isWord_29 rfl 1 rfl ?_
    refine gq_strLen C k_w1 wk_4_147 dX0_isWord_30 (Nat.le_of_ble_eq_true rfl) (Nat.le_of_ble_eq_true rfl) (Nat.le_of_ble_eq_true rfl) ?_
    rcases ite_ex z0 with ⟨c5, z6⟩ | ⟨c5, z6⟩
    · refine gq_icmp_ge_t (tgt := 76) C dX0_isWord_33 (by decide) c5 ?_
      refine gq_iconst (v := 1) C dX0_isWord_76 (by decide) ?_
      cases z6
      exact gq_zret C hr (by decide) dX0_isWord_77 (Nat.le_of_ble_eq_true rfl) (Nat.le_of_ble_eq_true rfl)
    · refine gq_icmp_ge_f (tgt := 76) C dX0_isWord_33 (by decide) c5 ?_
      refine gq_aload_n C dX0_isWord_36 rfl 0 rfl ?_
      refine gq_get3 C (qn_l 45 (by decide) hN) (by decide) 6 (by decide) wk_3_5 rfl dX0_isWord_37 ?_
      refine gq_iload_n C dX0_isWord_40 rfl 2 rfl ?_
      refine gq_iadd C dX0_isWord_41 ?_
      refine gq_aload_n C dX0_isWord_42 rfl 0 rfl ?_
      refine gq_get3 C (qn_l 45 (by decide) hN) (by decide) 2 (by decide) wk_3_0 rfl dX0_isWord_43 ?_
      rcases ite_ex z6 with ⟨c7, z8⟩ | ⟨c7, z8⟩
      · refine gq_icmp_ge_t (tgt := 76) C dX0_isWord_46 (by decide) c7 ?_
        refine gq_iconst (v := 1) C dX0_isWord_76 (by decide) ?_
        cases z8
        exact gq_zret C hr (by decide) dX0_isWord_77 (Nat.le_of_ble_eq_true rfl) (Nat.le_of_ble_eq_true rfl)
      · refine gq_icmp_ge_f (tgt := 76) C dX0_isWord_46 (by decide) c7 ?_
        refine gq_aload_n C dX0_isWord_49 rfl 0 rfl ?_
        refine gq_get3 C (qn_l 45 (by decide) hN) (by decide) 0 (by decide) wk_2_236 rfl dX0_isWord_50 ?_
        refine gq_aload_n C dX0_isWord_53 rfl 0 rfl ?_
        refine gq_get3 C (qn_l 45 (by decide) hN) (by decide) 6 (by decide) wk_3_5 rfl dX0_isWord_54 ?_
        refine gq_iload_n C dX0_isWord_57 rfl 2 rfl ?_
        refine gq_iadd C dX0_isWord_58 ?_
        obtain ⟨x9, ex9, z10⟩ := bind_ex z8
        refine gq_baloadB C (qn_l 46 (by decide) hN) (by decide) ex9 dX0_isWord_59 ?_
        refine gq_aload_n C dX0_isWord_60 rfl 1 rfl ?_
        refine gq_iload_n C dX0_isWord_61 rfl 2 rfl ?_
        obtain ⟨x11, ex11, z12⟩ := bind_ex z10
        refine gq_strAt C k_w1 ex11 wk_4_148 dX0_isWord_62 (Nat.le_of_ble_eq_true rfl) (Nat.le_of_ble_eq_true rfl) (Nat.le_of_ble_eq_true rfl) ?_
        rcases ite_ex z12 with ⟨c13, z14⟩ | ⟨c13, z14⟩
        · refine gq_icmp_eq_t (tgt := 70) C dX0_isWord_65 (by decide) c13 ?_
          refine gq_iinc (v := (v2 + 1)) (lv' := [(2, .int (v2 + 1)), (0, .ref (eB E + 45)), (1, .ref (eK E w1))]) (q := 2) C dX0_isWord_70 rfl rfl (by decide) rfl ?_
          refine gq_goto (tgt := 28) C dX0_isWord_73 (by decide) ?_
          refine gq_widen (k' := 0) (n' := 0) (Nat.le_of_ble_eq_true rfl) (Nat.le_of_ble_eq_true rfl) (gq_sub [1, 2, 0] rfl ?_)
          exact ih _ _ z14
        · refine gq_icmp_eq_f (tgt := 70) C dX0_isWord_65 (by decide) c13 ?_
          refine gq_iconst (v := 0) C dX0_isWord_68 (by decide) ?_
          cases z14
          exact gq_zret C hr (by decide) dX0_isWord_69 (Nat.le_of_ble_eq_true rfl) (Nat.le_of_ble_eq_true rfl)
set_option maxHeartbeats 4000000 in
set_option maxRecDepth 100000 in
theorem c_X0_isWord {l : Launch} {E : Ev} (hN : 295 ≤ eN E) {w1 : Nat} (k_w1 : w1 < 10) {μ : Mm} {r : Int32} (z0 : F_X0_isWord w1 μ = some r) : Ct l E yX0_isWord (Cond.code yX0_isWord cX0_isWord 3 (some .boolean) :: GW) rm_X0_isWord [.ref (eB E + 45), .ref (eK E w1)] μ (some (.int r)) μ := by
  refine ct_of (by decide) (Nat.le_of_ble_eq_true rfl) (fun p e s m args below meth c C hr => ?_)
  have C : Cq E p s m args meth c cX0_isWord 3 RX0 := C
  refine gq_lv (lv' := [(0, .ref (eB E + 45)), (1, .ref (eK E w1))]) rfl ?_
  unfold F_X0_isWord at z0
  refine gq_aload_n C dX0_isWord_0 rfl 0 rfl ?_
  refine gq_get3 C (qn_l 45 (by decide) hN) (by decide) 5 (by decide) wk_3_4 rfl dX0_isWord_1 ?_
  refine gq_iconst (v := 1) C dX0_isWord_4 (by decide) ?_
  rcases ite_ex z0 with ⟨c1, z2⟩ | ⟨c1, z2⟩
  · refine gq_icmp_ne_f (tgt := 24) C dX0_isWord_5 (by decide) c1 ?_
    refine gq_aload_n C dX0_isWord_8 rfl 0 rfl ?_
    refine gq_get3 C (qn_l 45 (by decide) hN) (by decide) 7 (by decide) wk_3_6 rfl dX0_isWord_9 ?_
    refine gq_aload_n C dX0_isWord_12 rfl 0 rfl ?_
    refine gq_get3 C (qn_l 45 (by decide) hN) (by decide) 6 (by decide) wk_3_5 rfl dX0_isWord_13 ?_
    refine gq_isub C dX0_isWord_16 ?_
    refine gq_aload_n C dX0_isWord_17 rfl 1 rfl ?_
    refine gq_strLen C k_w1 wk_4_147 dX0_isWord_18 (Nat.le_of_ble_eq_true rfl) (Nat.le_of_ble_eq_true rfl) (Nat.le_of_ble_eq_true rfl) ?_
    rcases ite_ex z2 with ⟨c3, z4⟩ | ⟨c3, z4⟩
    · refine gq_icmp_eq_t (tgt := 26) C dX0_isWord_21 (by decide) c3 ?_
      refine gq_iconst (v := 0) C dX0_isWord_26 (by decide) ?_
      refine gq_istore_n (lv' := [(2, .int (0 : Int32)), (0, .ref (eB E + 45)), (1, .ref (eK E w1))]) C dX0_isWord_27 rfl (by decide) rfl ?_
      refine gq_widen (k' := 0) (n' := 0) (Nat.le_of_ble_eq_true rfl) (Nat.le_of_ble_eq_true rfl) (gq_sub [1, 2, 0] rfl ?_)
      exact l_X0_isWord_28 hN C hr k_w1 qFuel _ _ z4
    · refine gq_icmp_eq_f (tgt := 26) C dX0_isWord_21 (by decide) c3 ?_
      refine gq_iconst (v := 0) C dX0_isWord_24 (by decide) ?_
      cases z4
      exact gq_zret C hr (by decide) dX0_isWord_25 (Nat.le_of_ble_eq_true rfl) (Nat.le_of_ble_eq_true rfl)
  · refine gq_icmp_ne_t (tgt := 24) C dX0_isWord_5 (by decide) c1 ?_
    refine gq_iconst (v := 0) C dX0_isWord_24 (by decide) ?_
    cases z2
    exact gq_zret C hr (by decide) dX0_isWord_25 (Nat.le_of_ble_eq_true rfl) (Nat.le_of_ble_eq_true rfl)
abbrev rm_X0_fail : Room := { frames := 0, cells := 0, slots := 0, locals := 0 }
def F_X0_fail (p1 : Int32) (p2 : Int32) (μ : Mm) : Option Mm :=
  if (μ.1 45 4) = 0 then
  ((some (uI μ 45 4 p1)).bind fun m3 =>
  (some (uI m3 45 3 p2)).bind fun m5 =>
  some m5)
  else
  (some μ)
set_option maxHeartbeats 4000000 in
set_option maxRecDepth 100000 in
theorem c_X0_fail {l : Launch} {E : Ev} (hN : 295 ≤ eN E) {p1 : Int32} {p2 : Int32} {μ : Mm} {μ' : Mm} (z0 : F_X0_fail p1 p2 μ = some μ') : Ct l E yX0_fail (Cond.code yX0_fail cX0_fail 3 none :: GW) rm_X0_fail [.ref (eB E + 45), .int p1, .int p2] μ none μ' := by
  refine ct_of (by decide) (Nat.le_of_ble_eq_true rfl) (fun p e s m args below meth c C hr => ?_)
  have C : Cq E p s m args meth c cX0_fail 3 RX0 := C
  refine gq_lv (lv' := [(0, .ref (eB E + 45)), (1, .int p1), (2, .int p2)]) rfl ?_
  unfold F_X0_fail at z0
  refine gq_aload_n C dX0_fail_0 rfl 0 rfl ?_
  refine gq_get3 C (qn_l 45 (by decide) hN) (by decide) 4 (by decide) wk_3_2 rfl dX0_fail_1 ?_
  rcases ite_ex z0 with ⟨c1, z2⟩ | ⟨c1, z2⟩
  · refine gq_if_ne_f (tgt := 17) C dX0_fail_4 (by decide) c1 ?_
    refine gq_aload_n C dX0_fail_7 rfl 0 rfl ?_
    refine gq_iload_n C dX0_fail_8 rfl 1 rfl ?_
    obtain ⟨m3, em3, z4⟩ := bind_ex z2
    refine gq_put3_4 C (qn_l 45 (by decide) hN) (by decide) wk_3_2 (Option.some.inj em3).symm dX0_fail_9 ?_
    refine gq_aload_n C dX0_fail_12 rfl 0 rfl ?_
    refine gq_iload_n C dX0_fail_13 rfl 2 rfl ?_
    obtain ⟨m5, em5, z6⟩ := bind_ex z4
    refine gq_put3_3 C (qn_l 45 (by decide) hN) (by decide) wk_3_1 (Option.some.inj em5).symm dX0_fail_14 ?_
    cases z6
    exact gq_vret C hr dX0_fail_17 (Nat.le_of_ble_eq_true rfl) (Nat.le_of_ble_eq_true rfl)
  · refine gq_if_ne_t (tgt := 17) C dX0_fail_4 (by decide) c1 ?_
    cases z2
    exact gq_vret C hr dX0_fail_17 (Nat.le_of_ble_eq_true rfl) (Nat.le_of_ble_eq_true rfl)
abbrev rm_X0_takeRowWord : Room := { frames := 2, cells := 0, slots := 0, locals := 41 }
def F_X0_takeRowWord (q1 : Nat) (p2 : Int32) (μ : Mm) : Option Mm :=
  if (μ.1 q1 2) < p2 then
  ((F_X0_nextToken  μ).bind fun o4 =>
  some o4)
  else
  ((F_X0_fail (4 : Int32) (μ.1 45 6) μ).bind fun o7 =>
  some o7)
set_option maxHeartbeats 4000000 in
set_option maxRecDepth 100000 in
theorem c_X0_takeRowWord {l : Launch} {E : Ev} (hN : 295 ≤ eN E) {q1 : Nat} (k_q1 : kd q1 = 2) {p2 : Int32} {μ : Mm} {μ' : Mm} (z0 : F_X0_takeRowWord q1 p2 μ = some μ') : Ct l E yX0_takeRowWord (Cond.code yX0_takeRowWord cX0_takeRowWord 3 none :: GW) rm_X0_takeRowWord [.ref (eB E + 45), .ref (eB E + q1), .int p2] μ none μ' := by
  refine ct_of (by decide) (Nat.le_of_ble_eq_true rfl) (fun p e s m args below meth c C hr => ?_)
  have C : Cq E p s m args meth c cX0_takeRowWord 3 RX0 := C
  refine gq_lv (lv' := [(0, .ref (eB E + 45)), (1, .ref (eB E + q1)), (2, .int p2)]) rfl ?_
  unfold F_X0_takeRowWord at z0
  refine gq_aload_n C dX0_takeRowWord_0 rfl 1 rfl ?_
  refine gq_get2N C (tb_n0 k_q1 hN) k_q1 2 (by decide) wk_2_140 rfl dX0_takeRowWord_1 ?_
  refine gq_iload_n C dX0_takeRowWord_4 rfl 2 rfl ?_
  rcases ite_ex z0 with ⟨c1, z2⟩ | ⟨c1, z2⟩
  · refine gq_icmp_lt_t (tgt := 20) C dX0_takeRowWord_5 (by decide) c1 ?_
    refine gq_aload_n C dX0_takeRowWord_20 rfl 0 rfl ?_
    obtain ⟨m5, eo4, z3⟩ := bind_ex z2
    refine gq_V (As := []) (rest := []) (j := 3) C (c_X0_nextToken hN  eo4) (qn_l 45 (by decide) hN) (by decide) (by decide) rfl wk_4_125 wk_4_127 ws_X0_nextToken wk_1_6 wk_4_128 hd_X0_nextToken ⟨(Nat.le_of_ble_eq_true rfl), (Nat.le_of_ble_eq_true rfl)⟩ (Nat.le_of_ble_eq_true rfl) ⟨(Nat.le_of_ble_eq_true rfl), (Nat.le_of_ble_eq_true rfl)⟩ dX0_takeRowWord_21 rfl rfl ?_
    cases z3
    exact gq_vret C hr dX0_takeRowWord_24 (Nat.le_of_ble_eq_true rfl) (Nat.le_of_ble_eq_true rfl)
  · refine gq_icmp_lt_f (tgt := 20) C dX0_takeRowWord_5 (by decide) c1 ?_
    refine gq_aload_n C dX0_takeRowWord_8 rfl 0 rfl ?_
    refine gq_iconst (v := 4) C dX0_takeRowWord_9 (by decide) ?_
    refine gq_aload_n C dX0_takeRowWord_10 rfl 0 rfl ?_
    refine gq_get3 C (qn_l 45 (by decide) hN) (by decide) 6 (by decide) wk_3_5 rfl dX0_takeRowWord_11 ?_
    obtain ⟨m8, eo7, z6⟩ := bind_ex z2
    refine gq_V (As := [.int (4 : Int32), .int (μ.1 45 6)]) (rest := []) (j := 3) C (c_X0_fail hN  eo7) (qn_l 45 (by decide) hN) (by decide) (by decide) rfl wk_4_157 wk_4_159 ws_X0_fail wk_1_6 wk_4_160 hd_X0_fail ⟨(Nat.le_of_ble_eq_true rfl), (Nat.le_of_ble_eq_true rfl)⟩ (Nat.le_of_ble_eq_true rfl) ⟨(Nat.le_of_ble_eq_true rfl), (Nat.le_of_ble_eq_true rfl)⟩ dX0_takeRowWord_14 rfl rfl ?_
    refine gq_goto (tgt := 24) C dX0_takeRowWord_17 (by decide) ?_
    cases z6
    exact gq_vret C hr dX0_takeRowWord_24 (Nat.le_of_ble_eq_true rfl) (Nat.le_of_ble_eq_true rfl)
abbrev rm_X0_takeNumber : Room := { frames := 2, cells := 0, slots := 0, locals := 41 }
def F_X0_takeNumber_36 (u1 : Int32) (u2 : Int32) (μ : Mm) : Nat → Int32 → Int32 → Option Int32
  | 0, _, _ => none
  | n + 1, v3, v4 =>
  if (μ.1 45 7) ≤ v4 then
  (some v3)
  else
  (if ((μ.1 45 6) + (3 : Int32)) ≤ v4 then
  (some v3)
  else
  (if (μ.1 45 2) ≤ v4 then
  (some v3)
  else
  ((aI μ 46 v4).bind fun x11 =>
  F_X0_takeNumber_36 u1 u2 μ n ((v3 * (10 : Int32)) + (x11 - (48 : Int32))) (v4 + 1))))
def F_X0_takeNumber (p1 : Int32) (p2 : Int32) (μ : Mm) : Option (Int32 × Mm) :=
  if (μ.1 45 4) = 0 then
  (if (μ.1 45 5) = (2 : Int32) then
  ((F_X0_takeNumber_36 p1 p2 μ qFuel (0 : Int32) (μ.1 45 6)).bind fun o14 =>
  if (3 : Int32) < ((μ.1 45 7) - (μ.1 45 6)) then
  ((F_X0_fail (2 : Int32) (μ.1 45 6) μ).bind fun o19 =>
  some (p1, o19))
  else
  (if o14 < p1 then
  ((F_X0_fail (2 : Int32) (μ.1 45 6) μ).bind fun o24 =>
  some (p1, o24))
  else
  (if o14 ≤ p2 then
  ((F_X0_nextToken  μ).bind fun o29 =>
  some (o14, o29))
  else
  ((F_X0_fail (2 : Int32) (μ.1 45 6) μ).bind fun o32 =>
  some (p1, o32)))))
  else
  ((F_X0_fail (1 : Int32) (μ.1 45 6) μ).bind fun o35 =>
  some (p1, o35)))
  else
  (some (p1, μ))
set_option maxHeartbeats 4000000 in
set_option maxRecDepth 100000 in
theorem l_X0_takeNumber_36 {l : Launch} {E : Ev} (hN : 295 ≤ eN E) {p : Program} {e : Env} {s : State} {m : MethodId} {args : Array Value} {below : List Frame} {meth : Method} {c : Code} (C : Cq E p s m args meth c cX0_takeNumber 5 RX0) {Q : State → Prop} {u1 : Int32} {u2 : Int32} {μ : Mm} : ∀ (n : Nat) (v3 : Int32) (v4 : Int32) (w3 : Int32), F_X0_takeNumber_36 u1 u2 μ n v3 v4 = some w3 → Gq E p l e rm_X0_takeNumber s m args below meth c 0 0 5 Q 87 [(0, .ref (eB E + 45)), (1, .int u1), (2, .int u2), (3, .int w3)] [] μ → Gq E p l e rm_X0_takeNumber s m args below meth c 0 0 5 Q 36 [(0, .ref (eB E + 45)), (1, .int u1), (2, .int u2), (3, .int v3), (4, .int v4)] [] μ := by
  intro n
  induction n with
  | zero =>
    intro v3 v4 w3 z0 kk
    rw [F_X0_takeNumber_36] at z0
    cases z0
  | succ n ih =>
    intro v3 v4 w3 z0 kk
    rw [F_X0_takeNumber_36] at z0
    refine gq_iload C dX0_takeNumber_36 4 rfl ?_
    refine gq_aload_n C dX0_takeNumber_38 rfl 0 rfl ?_
    refine gq_get3 C (qn_l 45 (by decide) hN) (by decide) 7 (by decide) wk_3_6 rfl dX0_takeNumber_39 ?_
    rcases ite_ex z0 with ⟨c5, z6⟩ | ⟨c5, z6⟩
    · refine gq_icmp_ge_t (tgt := 87) C dX0_takeNumber_42 (by decide) c5 ?_
      cases z6
      exact gq_widen (Nat.le_of_ble_eq_true rfl) (Nat.le_of_ble_eq_true rfl) (gq_sub [0, 1, 2, 3] rfl kk)
    · refine gq_icmp_ge_f (tgt := 87) C dX0_takeNumber_42 (by decide) c5 ?_
      refine gq_iload C dX0_takeNumber_45 4 rfl ?_
      refine gq_aload_n C dX0_takeNumber_47 rfl 0 rfl ?_
      refine gq_get3 C (qn_l 45 (by decide) hN) (by decide) 6 (by decide) wk_3_5 rfl dX0_takeNumber_48 ?_
      refine gq_iconst (v := 3) C dX0_takeNumber_51 (by decide) ?_
      refine gq_iadd C dX0_takeNumber_52 ?_
      rcases ite_ex z6 with ⟨c7, z8⟩ | ⟨c7, z8⟩
      · refine gq_icmp_ge_t (tgt := 87) C dX0_takeNumber_53 (by decide) c7 ?_
        cases z8
        exact gq_widen (Nat.le_of_ble_eq_true rfl) (Nat.le_of_ble_eq_true rfl) (gq_sub [0, 1, 2, 3] rfl kk)
      · refine gq_icmp_ge_f (tgt := 87) C dX0_takeNumber_53 (by decide) c7 ?_
        refine gq_iload C dX0_takeNumber_56 4 rfl ?_
        refine gq_aload_n C dX0_takeNumber_58 rfl 0 rfl ?_
        refine gq_get3 C (qn_l 45 (by decide) hN) (by decide) 2 (by decide) wk_3_0 rfl dX0_takeNumber_59 ?_
        rcases ite_ex z8 with ⟨c9, z10⟩ | ⟨c9, z10⟩
        · refine gq_icmp_ge_t (tgt := 87) C dX0_takeNumber_62 (by decide) c9 ?_
          cases z10
          exact gq_widen (Nat.le_of_ble_eq_true rfl) (Nat.le_of_ble_eq_true rfl) (gq_sub [0, 1, 2, 3] rfl kk)
        · refine gq_icmp_ge_f (tgt := 87) C dX0_takeNumber_62 (by decide) c9 ?_
          refine gq_iload_n C dX0_takeNumber_65 rfl 3 rfl ?_
          refine gq_bipush (v := 10) C dX0_takeNumber_66 (by decide) ?_
          refine gq_imul C dX0_takeNumber_68 ?_
          refine gq_aload_n C dX0_takeNumber_69 rfl 0 rfl ?_
          refine gq_get3 C (qn_l 45 (by decide) hN) (by decide) 0 (by decide) wk_2_236 rfl dX0_takeNumber_70 ?_
          refine gq_iload C dX0_takeNumber_73 4 rfl ?_
          obtain ⟨x11, ex11, z12⟩ := bind_ex z10
          refine gq_baloadB C (qn_l 46 (by decide) hN) (by decide) ex11 dX0_takeNumber_75 ?_
          refine gq_bipush (v := 48) C dX0_takeNumber_76 (by decide) ?_
          refine gq_isub C dX0_takeNumber_78 ?_
          refine gq_iadd C dX0_takeNumber_79 ?_
          refine gq_istore_n (lv' := [(3, .int ((v3 * (10 : Int32)) + (x11 - (48 : Int32)))), (0, .ref (eB E + 45)), (1, .int u1), (2, .int u2), (4, .int v4)]) C dX0_takeNumber_80 rfl (by decide) rfl ?_
          refine gq_iinc (v := (v4 + 1)) (lv' := [(4, .int (v4 + 1)), (3, .int ((v3 * (10 : Int32)) + (x11 - (48 : Int32)))), (0, .ref (eB E + 45)), (1, .int u1), (2, .int u2)]) (q := 4) C dX0_takeNumber_81 rfl rfl (by decide) rfl ?_
          refine gq_goto (tgt := 36) C dX0_takeNumber_84 (by decide) ?_
          refine gq_widen (k' := 0) (n' := 0) (Nat.le_of_ble_eq_true rfl) (Nat.le_of_ble_eq_true rfl) (gq_sub [2, 3, 4, 1, 0] rfl ?_)
          exact ih _ _ _ z12 kk
set_option maxHeartbeats 4000000 in
set_option maxRecDepth 100000 in
theorem c_X0_takeNumber {l : Launch} {E : Ev} (hN : 295 ≤ eN E) {p1 : Int32} {p2 : Int32} {μ : Mm} {r : Int32} {μ' : Mm} (z0 : F_X0_takeNumber p1 p2 μ = some (r, μ')) : Ct l E yX0_takeNumber (Cond.code yX0_takeNumber cX0_takeNumber 5 (some .int) :: GW) rm_X0_takeNumber [.ref (eB E + 45), .int p1, .int p2] μ (some (.int r)) μ' := by
  refine ct_of (by decide) (Nat.le_of_ble_eq_true rfl) (fun p e s m args below meth c C hr => ?_)
  have C : Cq E p s m args meth c cX0_takeNumber 5 RX0 := C
  refine gq_lv (lv' := [(0, .ref (eB E + 45)), (1, .int p1), (2, .int p2)]) rfl ?_
  unfold F_X0_takeNumber at z0
  refine gq_aload_n C dX0_takeNumber_0 rfl 0 rfl ?_
  refine gq_get3 C (qn_l 45 (by decide) hN) (by decide) 4 (by decide) wk_3_2 rfl dX0_takeNumber_1 ?_
  rcases ite_ex z0 with ⟨c1, z2⟩ | ⟨c1, z2⟩
  · refine gq_if_eq_t (tgt := 9) C dX0_takeNumber_4 (by decide) c1 ?_
    refine gq_aload_n C dX0_takeNumber_9 rfl 0 rfl ?_
    refine gq_get3 C (qn_l 45 (by decide) hN) (by decide) 5 (by decide) wk_3_4 rfl dX0_takeNumber_10 ?_
    refine gq_iconst (v := 2) C dX0_takeNumber_13 (by decide) ?_
    rcases ite_ex z2 with ⟨c3, z4⟩ | ⟨c3, z4⟩
    · refine gq_icmp_eq_t (tgt := 28) C dX0_takeNumber_14 (by decide) c3 ?_
      refine gq_iconst (v := 0) C dX0_takeNumber_28 (by decide) ?_
      refine gq_istore_n (lv' := [(3, .int (0 : Int32)), (0, .ref (eB E + 45)), (1, .int p1), (2, .int p2)]) C dX0_takeNumber_29 rfl (by decide) rfl ?_
      refine gq_aload_n C dX0_takeNumber_30 rfl 1 rfl ?_
      refine gq_get3 C (qn_l 45 (by decide) hN) (by decide) 6 (by decide) wk_3_5 rfl dX0_takeNumber_31 ?_
      refine gq_istore (lv' := [(4, .int (μ.1 45 6)), (3, .int (0 : Int32)), (0, .ref (eB E + 45)), (1, .int p1), (2, .int p2)]) C dX0_takeNumber_34 (by decide) rfl ?_
      obtain ⟨x15, eo14, z13⟩ := bind_ex z4
      refine gq_widen (k' := 0) (n' := 0) (Nat.le_of_ble_eq_true rfl) (Nat.le_of_ble_eq_true rfl) (gq_sub [2, 3, 4, 1, 0] rfl ?_)
      refine l_X0_takeNumber_36 hN C  qFuel _ _ _ eo14 ?_
      refine gq_aload_n C dX0_takeNumber_87 rfl 0 rfl ?_
      refine gq_get3 C (qn_l 45 (by decide) hN) (by decide) 7 (by decide) wk_3_6 rfl dX0_takeNumber_88 ?_
      refine gq_aload_n C dX0_takeNumber_91 rfl 0 rfl ?_
      refine gq_get3 C (qn_l 45 (by decide) hN) (by decide) 6 (by decide) wk_3_5 rfl dX0_takeNumber_92 ?_
      refine gq_isub C dX0_takeNumber_95 ?_
      refine gq_iconst (v := 3) C dX0_takeNumber_96 (by decide) ?_
      rcases ite_ex z13 with ⟨c16, z17⟩ | ⟨c16, z17⟩
      · refine gq_icmp_gt_t (tgt := 110) C dX0_takeNumber_97 (by decide) c16 ?_
        refine gq_aload_n C dX0_takeNumber_110 rfl 0 rfl ?_
        refine gq_iconst (v := 2) C dX0_takeNumber_111 (by decide) ?_
        refine gq_aload_n C dX0_takeNumber_112 rfl 0 rfl ?_
        refine gq_get3 C (qn_l 45 (by decide) hN) (by decide) 6 (by decide) wk_3_5 rfl dX0_takeNumber_113 ?_
        obtain ⟨m20, eo19, z18⟩ := bind_ex z17
        refine gq_V (As := [.int (2 : Int32), .int (μ.1 45 6)]) (rest := []) (j := 3) C (c_X0_fail hN  eo19) (qn_l 45 (by decide) hN) (by decide) (by decide) rfl wk_4_157 wk_4_159 ws_X0_fail wk_1_6 wk_4_160 hd_X0_fail ⟨(Nat.le_of_ble_eq_true rfl), (Nat.le_of_ble_eq_true rfl)⟩ (Nat.le_of_ble_eq_true rfl) ⟨(Nat.le_of_ble_eq_true rfl), (Nat.le_of_ble_eq_true rfl)⟩ dX0_takeNumber_116 rfl rfl ?_
        refine gq_iload_n C dX0_takeNumber_119 rfl 1 rfl ?_
        cases z18
        exact gq_iret C hr dX0_takeNumber_120 (Nat.le_of_ble_eq_true rfl) (Nat.le_of_ble_eq_true rfl)
      · refine gq_icmp_gt_f (tgt := 110) C dX0_takeNumber_97 (by decide) c16 ?_
        refine gq_iload_n C dX0_takeNumber_100 rfl 3 rfl ?_
        refine gq_iload_n C dX0_takeNumber_101 rfl 1 rfl ?_
        rcases ite_ex z17 with ⟨c21, z22⟩ | ⟨c21, z22⟩
        · refine gq_icmp_lt_t (tgt := 110) C dX0_takeNumber_102 (by decide) c21 ?_
          refine gq_aload_n C dX0_takeNumber_110 rfl 0 rfl ?_
          refine gq_iconst (v := 2) C dX0_takeNumber_111 (by decide) ?_
          refine gq_aload_n C dX0_takeNumber_112 rfl 0 rfl ?_
          refine gq_get3 C (qn_l 45 (by decide) hN) (by decide) 6 (by decide) wk_3_5 rfl dX0_takeNumber_113 ?_
          obtain ⟨m25, eo24, z23⟩ := bind_ex z22
          refine gq_V (As := [.int (2 : Int32), .int (μ.1 45 6)]) (rest := []) (j := 3) C (c_X0_fail hN  eo24) (qn_l 45 (by decide) hN) (by decide) (by decide) rfl wk_4_157 wk_4_159 ws_X0_fail wk_1_6 wk_4_160 hd_X0_fail ⟨(Nat.le_of_ble_eq_true rfl), (Nat.le_of_ble_eq_true rfl)⟩ (Nat.le_of_ble_eq_true rfl) ⟨(Nat.le_of_ble_eq_true rfl), (Nat.le_of_ble_eq_true rfl)⟩ dX0_takeNumber_116 rfl rfl ?_
          refine gq_iload_n C dX0_takeNumber_119 rfl 1 rfl ?_
          cases z23
          exact gq_iret C hr dX0_takeNumber_120 (Nat.le_of_ble_eq_true rfl) (Nat.le_of_ble_eq_true rfl)
        · refine gq_icmp_lt_f (tgt := 110) C dX0_takeNumber_102 (by decide) c21 ?_
          refine gq_iload_n C dX0_takeNumber_105 rfl 3 rfl ?_
          refine gq_iload_n C dX0_takeNumber_106 rfl 2 rfl ?_
          rcases ite_ex z22 with ⟨c26, z27⟩ | ⟨c26, z27⟩
          · refine gq_icmp_le_t (tgt := 121) C dX0_takeNumber_107 (by decide) c26 ?_
            refine gq_aload_n C dX0_takeNumber_121 rfl 0 rfl ?_
            obtain ⟨m30, eo29, z28⟩ := bind_ex z27
            refine gq_V (As := []) (rest := []) (j := 3) C (c_X0_nextToken hN  eo29) (qn_l 45 (by decide) hN) (by decide) (by decide) rfl wk_4_125 wk_4_127 ws_X0_nextToken wk_1_6 wk_4_128 hd_X0_nextToken ⟨(Nat.le_of_ble_eq_true rfl), (Nat.le_of_ble_eq_true rfl)⟩ (Nat.le_of_ble_eq_true rfl) ⟨(Nat.le_of_ble_eq_true rfl), (Nat.le_of_ble_eq_true rfl)⟩ dX0_takeNumber_122 rfl rfl ?_
            refine gq_iload_n C dX0_takeNumber_125 rfl 3 rfl ?_
            cases z28
            exact gq_iret C hr dX0_takeNumber_126 (Nat.le_of_ble_eq_true rfl) (Nat.le_of_ble_eq_true rfl)
          · refine gq_icmp_le_f (tgt := 121) C dX0_takeNumber_107 (by decide) c26 ?_
            refine gq_aload_n C dX0_takeNumber_110 rfl 0 rfl ?_
            refine gq_iconst (v := 2) C dX0_takeNumber_111 (by decide) ?_
            refine gq_aload_n C dX0_takeNumber_112 rfl 0 rfl ?_
            refine gq_get3 C (qn_l 45 (by decide) hN) (by decide) 6 (by decide) wk_3_5 rfl dX0_takeNumber_113 ?_
            obtain ⟨m33, eo32, z31⟩ := bind_ex z27
            refine gq_V (As := [.int (2 : Int32), .int (μ.1 45 6)]) (rest := []) (j := 3) C (c_X0_fail hN  eo32) (qn_l 45 (by decide) hN) (by decide) (by decide) rfl wk_4_157 wk_4_159 ws_X0_fail wk_1_6 wk_4_160 hd_X0_fail ⟨(Nat.le_of_ble_eq_true rfl), (Nat.le_of_ble_eq_true rfl)⟩ (Nat.le_of_ble_eq_true rfl) ⟨(Nat.le_of_ble_eq_true rfl), (Nat.le_of_ble_eq_true rfl)⟩ dX0_takeNumber_116 rfl rfl ?_
            refine gq_iload_n C dX0_takeNumber_119 rfl 1 rfl ?_
            cases z31
            exact gq_iret C hr dX0_takeNumber_120 (Nat.le_of_ble_eq_true rfl) (Nat.le_of_ble_eq_true rfl)
    · refine gq_icmp_eq_f (tgt := 28) C dX0_takeNumber_14 (by decide) c3 ?_
      refine gq_aload_n C dX0_takeNumber_17 rfl 0 rfl ?_
      refine gq_iconst (v := 1) C dX0_takeNumber_18 (by decide) ?_
      refine gq_aload_n C dX0_takeNumber_19 rfl 0 rfl ?_
      refine gq_get3 C (qn_l 45 (by decide) hN) (by decide) 6 (by decide) wk_3_5 rfl dX0_takeNumber_20 ?_
      obtain ⟨m36, eo35, z34⟩ := bind_ex z4
      refine gq_V (As := [.int (1 : Int32), .int (μ.1 45 6)]) (rest := []) (j := 3) C (c_X0_fail hN  eo35) (qn_l 45 (by decide) hN) (by decide) (by decide) rfl wk_4_157 wk_4_159 ws_X0_fail wk_1_6 wk_4_160 hd_X0_fail ⟨(Nat.le_of_ble_eq_true rfl), (Nat.le_of_ble_eq_true rfl)⟩ (Nat.le_of_ble_eq_true rfl) ⟨(Nat.le_of_ble_eq_true rfl), (Nat.le_of_ble_eq_true rfl)⟩ dX0_takeNumber_23 rfl rfl ?_
      refine gq_iload_n C dX0_takeNumber_26 rfl 1 rfl ?_
      cases z34
      exact gq_iret C hr dX0_takeNumber_27 (Nat.le_of_ble_eq_true rfl) (Nat.le_of_ble_eq_true rfl)
  · refine gq_if_eq_f (tgt := 9) C dX0_takeNumber_4 (by decide) c1 ?_
    refine gq_iload_n C dX0_takeNumber_7 rfl 1 rfl ?_
    cases z2
    exact gq_iret C hr dX0_takeNumber_8 (Nat.le_of_ble_eq_true rfl) (Nat.le_of_ble_eq_true rfl)
abbrev rm_X0_readReach : Room := { frames := 3, cells := 0, slots := 0, locals := 65 }
def F_X0_readReach  (μ : Mm) : Option Mm :=
  (F_X0_takeRowWord 48 (6 : Int32) μ).bind fun o2 =>
  (F_X0_takeNumber (0 : Int32) (999 : Int32) o2).bind fun o5 =>
  (F_X0_takeNumber (0 : Int32) (999 : Int32) o5.2).bind fun o9 =>
  (F_X2_addRow 48 o9.2).bind fun o13 =>
  (F_X2_put 48 o13.1 (0 : Int32) o5.1 o13.2).bind fun o17 =>
  (F_X2_put 48 o13.1 (1 : Int32) o9.1 o17).bind fun o20 =>
  some o20
set_option maxHeartbeats 4000000 in
set_option maxRecDepth 100000 in
theorem c_X0_readReach {l : Launch} {E : Ev} (hN : 295 ≤ eN E) {μ : Mm} {μ' : Mm} (z0 : F_X0_readReach  μ = some μ') : Ct l E yX0_readReach (Cond.code yX0_readReach cX0_readReach 4 none :: GW) rm_X0_readReach [.ref (eB E + 45)] μ none μ' := by
  refine ct_of (by decide) (Nat.le_of_ble_eq_true rfl) (fun p e s m args below meth c C hr => ?_)
  have C : Cq E p s m args meth c cX0_readReach 4 RX0 := C
  refine gq_lv (lv' := [(0, .ref (eB E + 45))]) rfl ?_
  unfold F_X0_readReach at z0
  refine gq_aload_n C dX0_readReach_0 rfl 0 rfl ?_
  refine gq_aload_n C dX0_readReach_1 rfl 0 rfl ?_
  refine gq_get3 C (qn_l 45 (by decide) hN) (by decide) 1 (by decide) wk_2_237 rfl dX0_readReach_2 ?_
  refine gq_get1N C (qn_l 47 (by decide) hN) (by decide) 0 (by decide) wk_2_152 rfl dX0_readReach_5 ?_
  refine gq_bipush (v := 6) C dX0_readReach_8 (by decide) ?_
  obtain ⟨m3, eo2, z1⟩ := bind_ex z0
  refine gq_V (As := [.ref (eB E + 48), .int (6 : Int32)]) (rest := []) (j := 3) C (c_X0_takeRowWord hN (show kd 48 = 2 by decide) eo2) (qn_l 45 (by decide) hN) (by decide) (by decide) rfl wk_4_153 wk_4_155 ws_X0_takeRowWord wk_1_6 wk_4_156 hd_X0_takeRowWord ⟨(Nat.le_of_ble_eq_true rfl), (Nat.le_of_ble_eq_true rfl)⟩ (Nat.le_of_ble_eq_true rfl) ⟨(Nat.le_of_ble_eq_true rfl), (Nat.le_of_ble_eq_true rfl)⟩ dX0_readReach_10 rfl rfl ?_
  refine gq_aload_n C dX0_readReach_13 rfl 0 rfl ?_
  refine gq_iconst (v := 0) C dX0_readReach_14 (by decide) ?_
  refine gq_sipush (v := 999) C dX0_readReach_15 (by decide) ?_
  obtain ⟨⟨x6, m7⟩, eo5, z4⟩ := bind_ex z1
  dsimp only at z4
  refine gq_V (As := [.int (0 : Int32), .int (999 : Int32)]) (rest := []) (j := 3) C (c_X0_takeNumber hN  eo5) (qn_l 45 (by decide) hN) (by decide) (by decide) rfl wk_4_161 wk_4_163 ws_X0_takeNumber wk_1_6 wk_4_164 hd_X0_takeNumber ⟨(Nat.le_of_ble_eq_true rfl), (Nat.le_of_ble_eq_true rfl)⟩ (Nat.le_of_ble_eq_true rfl) ⟨(Nat.le_of_ble_eq_true rfl), (Nat.le_of_ble_eq_true rfl)⟩ dX0_readReach_18 rfl rfl ?_
  refine gq_istore_n (lv' := [(1, .int x6), (0, .ref (eB E + 45))]) C dX0_readReach_21 rfl (by decide) rfl ?_
  refine gq_aload_n C dX0_readReach_22 rfl 1 rfl ?_
  refine gq_iconst (v := 0) C dX0_readReach_23 (by decide) ?_
  refine gq_sipush (v := 999) C dX0_readReach_24 (by decide) ?_
  obtain ⟨⟨x10, m11⟩, eo9, z8⟩ := bind_ex z4
  dsimp only at z8
  refine gq_V (As := [.int (0 : Int32), .int (999 : Int32)]) (rest := []) (j := 3) C (c_X0_takeNumber hN  eo9) (qn_l 45 (by decide) hN) (by decide) (by decide) rfl wk_4_161 wk_4_163 ws_X0_takeNumber wk_1_6 wk_4_164 hd_X0_takeNumber ⟨(Nat.le_of_ble_eq_true rfl), (Nat.le_of_ble_eq_true rfl)⟩ (Nat.le_of_ble_eq_true rfl) ⟨(Nat.le_of_ble_eq_true rfl), (Nat.le_of_ble_eq_true rfl)⟩ dX0_readReach_27 rfl rfl ?_
  refine gq_istore_n (lv' := [(2, .int x10), (1, .int x6), (0, .ref (eB E + 45))]) C dX0_readReach_30 rfl (by decide) rfl ?_
  refine gq_aload_n C dX0_readReach_31 rfl 2 rfl ?_
  refine gq_get3 C (qn_l 45 (by decide) hN) (by decide) 1 (by decide) wk_2_237 rfl dX0_readReach_32 ?_
  refine gq_get1N C (qn_l 47 (by decide) hN) (by decide) 0 (by decide) wk_2_152 rfl dX0_readReach_35 ?_
  obtain ⟨⟨x14, m15⟩, eo13, z12⟩ := bind_ex z8
  dsimp only at z12
  refine gq_V (As := []) (rest := []) (j := 2) C (c_X2_addRow hN (show kd 48 = 2 by decide) eo13) (qn_l 48 (by decide) hN) (by decide) (by decide) rfl wk_4_165 wk_2_7 wk_2_8 wk_1_5 wk_2_9 hd_X2_addRow ⟨(Nat.le_of_ble_eq_true rfl), (Nat.le_of_ble_eq_true rfl)⟩ (Nat.le_of_ble_eq_true rfl) ⟨(Nat.le_of_ble_eq_true rfl), (Nat.le_of_ble_eq_true rfl)⟩ dX0_readReach_38 rfl rfl ?_
  refine gq_istore_n (lv' := [(3, .int x14), (2, .int x10), (1, .int x6), (0, .ref (eB E + 45))]) C dX0_readReach_41 rfl (by decide) rfl ?_
  refine gq_aload_n C dX0_readReach_42 rfl 3 rfl ?_
  refine gq_get3 C (qn_l 45 (by decide) hN) (by decide) 1 (by decide) wk_2_237 rfl dX0_readReach_43 ?_
  refine gq_get1N C (qn_l 47 (by decide) hN) (by decide) 0 (by decide) wk_2_152 rfl dX0_readReach_46 ?_
  refine gq_iload_n C dX0_readReach_49 rfl 0 rfl ?_
  refine gq_iconst (v := 0) C dX0_readReach_50 (by decide) ?_
  refine gq_iload_n C dX0_readReach_51 rfl 2 rfl ?_
  obtain ⟨m18, eo17, z16⟩ := bind_ex z12
  refine gq_V (As := [.int x14, .int (0 : Int32), .int x6]) (rest := []) (j := 2) C (c_X2_put hN (show kd 48 = 2 by decide) eo17) (qn_l 48 (by decide) hN) (by decide) (by decide) rfl wk_4_166 wk_2_11 wk_2_12 wk_1_5 wk_2_13 hd_X2_put ⟨(Nat.le_of_ble_eq_true rfl), (Nat.le_of_ble_eq_true rfl)⟩ (Nat.le_of_ble_eq_true rfl) ⟨(Nat.le_of_ble_eq_true rfl), (Nat.le_of_ble_eq_true rfl)⟩ dX0_readReach_52 rfl rfl ?_
  refine gq_aload_n C dX0_readReach_55 rfl 3 rfl ?_
  refine gq_get3 C (qn_l 45 (by decide) hN) (by decide) 1 (by decide) wk_2_237 rfl dX0_readReach_56 ?_
  refine gq_get1N C (qn_l 47 (by decide) hN) (by decide) 0 (by decide) wk_2_152 rfl dX0_readReach_59 ?_
  refine gq_iload_n C dX0_readReach_62 rfl 0 rfl ?_
  refine gq_iconst (v := 1) C dX0_readReach_63 (by decide) ?_
  refine gq_iload_n C dX0_readReach_64 rfl 1 rfl ?_
  obtain ⟨m21, eo20, z19⟩ := bind_ex z16
  refine gq_V (As := [.int x14, .int (1 : Int32), .int x10]) (rest := []) (j := 2) C (c_X2_put hN (show kd 48 = 2 by decide) eo20) (qn_l 48 (by decide) hN) (by decide) (by decide) rfl wk_4_166 wk_2_11 wk_2_12 wk_1_5 wk_2_13 hd_X2_put ⟨(Nat.le_of_ble_eq_true rfl), (Nat.le_of_ble_eq_true rfl)⟩ (Nat.le_of_ble_eq_true rfl) ⟨(Nat.le_of_ble_eq_true rfl), (Nat.le_of_ble_eq_true rfl)⟩ dX0_readReach_65 rfl rfl ?_
  cases z19
  exact gq_vret C hr dX0_readReach_68 (Nat.le_of_ble_eq_true rfl) (Nat.le_of_ble_eq_true rfl)
abbrev rm_X0_readSeason : Room := { frames := 3, cells := 0, slots := 0, locals := 65 }
def F_X0_readSeason_23  : Nat → Int32 → Mm → Option Mm
  | 0, _, _ => none
  | n + 1, v1, μ =>
  if (12 : Int32) ≤ v1 then
  (some μ)
  else
  (if (μ.1 45 5) = (2 : Int32) then
  (if (μ.1 45 4) = 0 then
  ((F_X0_takeNumber (0 : Int32) (200 : Int32) μ).bind fun o17 =>
  (sI o17.2 50 v1 o17.1).bind fun m20 =>
  F_X0_readSeason_23 n (v1 + 1) m20)
  else
  (some μ))
  else
  (some μ))
def F_X0_readSeason  (μ : Mm) : Option Mm :=
  (F_X0_nextToken  μ).bind fun o2 =>
  (F_X0_takeNumber (0 : Int32) (200 : Int32) o2).bind fun o5 =>
  (sI o5.2 50 (0 : Int32) o5.1).bind fun m8 =>
  (F_X0_readSeason_23 qFuel (1 : Int32) m8).bind fun o23 =>
  if (o23.1 45 5) = (2 : Int32) then
  ((F_X0_fail (4 : Int32) (o23.1 45 6) o23).bind fun o28 =>
  some o28)
  else
  (some o23)
set_option maxHeartbeats 4000000 in
set_option maxRecDepth 100000 in
theorem l_X0_readSeason_23 {l : Launch} {E : Ev} (hN : 295 ≤ eN E) {p : Program} {e : Env} {s : State} {m : MethodId} {args : Array Value} {below : List Frame} {meth : Method} {c : Code} (C : Cq E p s m args meth c cX0_readSeason 2 RX0) {Q : State → Prop} : ∀ (n : Nat) (v1 : Int32) (μ : Mm) (μx : Mm), F_X0_readSeason_23 n v1 μ = some μx → Gq E p l e rm_X0_readSeason s m args below meth c 0 0 2 Q 67 [(0, .ref (eB E + 45))] [] μx → Gq E p l e rm_X0_readSeason s m args below meth c 0 0 2 Q 23 [(0, .ref (eB E + 45)), (1, .int v1)] [] μ := by
  intro n
  induction n with
  | zero =>
    intro v1 μ μx z0 kk
    rw [F_X0_readSeason_23] at z0
    cases z0
  | succ n ih =>
    intro v1 μ μx z0 kk
    rw [F_X0_readSeason_23] at z0
    refine gq_iload_n C dX0_readSeason_23 rfl 1 rfl ?_
    refine gq_bipush (v := 12) C dX0_readSeason_24 (by decide) ?_
    rcases ite_ex z0 with ⟨c10, z11⟩ | ⟨c10, z11⟩
    · refine gq_icmp_ge_t (tgt := 67) C dX0_readSeason_26 (by decide) c10 ?_
      cases z11
      exact gq_widen (Nat.le_of_ble_eq_true rfl) (Nat.le_of_ble_eq_true rfl) (gq_sub [0] rfl kk)
    · refine gq_icmp_ge_f (tgt := 67) C dX0_readSeason_26 (by decide) c10 ?_
      refine gq_aload_n C dX0_readSeason_29 rfl 0 rfl ?_
      refine gq_get3 C (qn_l 45 (by decide) hN) (by decide) 5 (by decide) wk_3_4 rfl dX0_readSeason_30 ?_
      refine gq_iconst (v := 2) C dX0_readSeason_33 (by decide) ?_
      rcases ite_ex z11 with ⟨c12, z13⟩ | ⟨c12, z13⟩
      · refine gq_icmp_ne_f (tgt := 67) C dX0_readSeason_34 (by decide) c12 ?_
        refine gq_aload_n C dX0_readSeason_37 rfl 0 rfl ?_
        refine gq_get3 C (qn_l 45 (by decide) hN) (by decide) 4 (by decide) wk_3_2 rfl dX0_readSeason_38 ?_
        rcases ite_ex z13 with ⟨c14, z15⟩ | ⟨c14, z15⟩
        · refine gq_if_ne_f (tgt := 67) C dX0_readSeason_41 (by decide) c14 ?_
          refine gq_aload_n C dX0_readSeason_44 rfl 0 rfl ?_
          refine gq_get3 C (qn_l 45 (by decide) hN) (by decide) 1 (by decide) wk_2_237 rfl dX0_readSeason_45 ?_
          refine gq_get1N C (qn_l 47 (by decide) hN) (by decide) 1 (by decide) wk_2_154 rfl dX0_readSeason_48 ?_
          refine gq_iload_n C dX0_readSeason_51 rfl 1 rfl ?_
          refine gq_aload_n C dX0_readSeason_52 rfl 0 rfl ?_
          refine gq_iconst (v := 0) C dX0_readSeason_53 (by decide) ?_
          refine gq_sipush (v := 200) C dX0_readSeason_54 (by decide) ?_
          obtain ⟨⟨x18, m19⟩, eo17, z16⟩ := bind_ex z15
          dsimp only at z16
          refine gq_V (As := [.int (0 : Int32), .int (200 : Int32)]) (rest := [.int v1, .ref (eB E + 50)]) (j := 3) C (c_X0_takeNumber hN  eo17) (qn_l 45 (by decide) hN) (by decide) (by decide) rfl wk_4_161 wk_4_163 ws_X0_takeNumber wk_1_6 wk_4_164 hd_X0_takeNumber ⟨(Nat.le_of_ble_eq_true rfl), (Nat.le_of_ble_eq_true rfl)⟩ (Nat.le_of_ble_eq_true rfl) ⟨(Nat.le_of_ble_eq_true rfl), (Nat.le_of_ble_eq_true rfl)⟩ dX0_readSeason_57 rfl rfl ?_
          obtain ⟨m20, em20, z21⟩ := bind_ex z16
          refine gq_iastore C (qn_l 50 (by decide) hN) (by decide) em20 dX0_readSeason_60 ?_
          refine gq_iinc (v := (v1 + 1)) (lv' := [(1, .int (v1 + 1)), (0, .ref (eB E + 45))]) (q := 1) C dX0_readSeason_61 rfl rfl (by decide) rfl ?_
          refine gq_goto (tgt := 23) C dX0_readSeason_64 (by decide) ?_
          refine gq_widen (k' := 0) (n' := 0) (Nat.le_of_ble_eq_true rfl) (Nat.le_of_ble_eq_true rfl) (gq_sub [1, 0] rfl ?_)
          exact ih _ _ _ z21 kk
        · refine gq_if_ne_t (tgt := 67) C dX0_readSeason_41 (by decide) c14 ?_
          cases z15
          exact gq_widen (Nat.le_of_ble_eq_true rfl) (Nat.le_of_ble_eq_true rfl) (gq_sub [0] rfl kk)
      · refine gq_icmp_ne_t (tgt := 67) C dX0_readSeason_34 (by decide) c12 ?_
        cases z13
        exact gq_widen (Nat.le_of_ble_eq_true rfl) (Nat.le_of_ble_eq_true rfl) (gq_sub [0] rfl kk)
set_option maxHeartbeats 4000000 in
set_option maxRecDepth 100000 in
theorem c_X0_readSeason {l : Launch} {E : Ev} (hN : 295 ≤ eN E) {μ : Mm} {μ' : Mm} (z0 : F_X0_readSeason  μ = some μ') : Ct l E yX0_readSeason (Cond.code yX0_readSeason cX0_readSeason 2 none :: GW) rm_X0_readSeason [.ref (eB E + 45)] μ none μ' := by
  refine ct_of (by decide) (Nat.le_of_ble_eq_true rfl) (fun p e s m args below meth c C hr => ?_)
  have C : Cq E p s m args meth c cX0_readSeason 2 RX0 := C
  refine gq_lv (lv' := [(0, .ref (eB E + 45))]) rfl ?_
  unfold F_X0_readSeason at z0
  refine gq_aload_n C dX0_readSeason_0 rfl 0 rfl ?_
  obtain ⟨m3, eo2, z1⟩ := bind_ex z0
  refine gq_V (As := []) (rest := []) (j := 3) C (c_X0_nextToken hN  eo2) (qn_l 45 (by decide) hN) (by decide) (by decide) rfl wk_4_125 wk_4_127 ws_X0_nextToken wk_1_6 wk_4_128 hd_X0_nextToken ⟨(Nat.le_of_ble_eq_true rfl), (Nat.le_of_ble_eq_true rfl)⟩ (Nat.le_of_ble_eq_true rfl) ⟨(Nat.le_of_ble_eq_true rfl), (Nat.le_of_ble_eq_true rfl)⟩ dX0_readSeason_1 rfl rfl ?_
  refine gq_aload_n C dX0_readSeason_4 rfl 0 rfl ?_
  refine gq_get3 C (qn_l 45 (by decide) hN) (by decide) 1 (by decide) wk_2_237 rfl dX0_readSeason_5 ?_
  refine gq_get1N C (qn_l 47 (by decide) hN) (by decide) 1 (by decide) wk_2_154 rfl dX0_readSeason_8 ?_
  refine gq_iconst (v := 0) C dX0_readSeason_11 (by decide) ?_
  refine gq_aload_n C dX0_readSeason_12 rfl 0 rfl ?_
  refine gq_iconst (v := 0) C dX0_readSeason_13 (by decide) ?_
  refine gq_sipush (v := 200) C dX0_readSeason_14 (by decide) ?_
  obtain ⟨⟨x6, m7⟩, eo5, z4⟩ := bind_ex z1
  dsimp only at z4
  refine gq_V (As := [.int (0 : Int32), .int (200 : Int32)]) (rest := [.int (0 : Int32), .ref (eB E + 50)]) (j := 3) C (c_X0_takeNumber hN  eo5) (qn_l 45 (by decide) hN) (by decide) (by decide) rfl wk_4_161 wk_4_163 ws_X0_takeNumber wk_1_6 wk_4_164 hd_X0_takeNumber ⟨(Nat.le_of_ble_eq_true rfl), (Nat.le_of_ble_eq_true rfl)⟩ (Nat.le_of_ble_eq_true rfl) ⟨(Nat.le_of_ble_eq_true rfl), (Nat.le_of_ble_eq_true rfl)⟩ dX0_readSeason_17 rfl rfl ?_
  obtain ⟨m8, em8, z9⟩ := bind_ex z4
  refine gq_iastore C (qn_l 50 (by decide) hN) (by decide) em8 dX0_readSeason_20 ?_
  refine gq_iconst (v := 1) C dX0_readSeason_21 (by decide) ?_
  refine gq_istore_n (lv' := [(1, .int (1 : Int32)), (0, .ref (eB E + 45))]) C dX0_readSeason_22 rfl (by decide) rfl ?_
  obtain ⟨m24, eo23, z22⟩ := bind_ex z9
  refine gq_widen (k' := 0) (n' := 0) (Nat.le_of_ble_eq_true rfl) (Nat.le_of_ble_eq_true rfl) (gq_sub [1, 0] rfl ?_)
  refine l_X0_readSeason_23 hN C  qFuel _ _ _ eo23 ?_
  refine gq_aload_n C dX0_readSeason_67 rfl 0 rfl ?_
  refine gq_get3 C (qn_l 45 (by decide) hN) (by decide) 5 (by decide) wk_3_4 rfl dX0_readSeason_68 ?_
  refine gq_iconst (v := 2) C dX0_readSeason_71 (by decide) ?_
  rcases ite_ex z22 with ⟨c25, z26⟩ | ⟨c25, z26⟩
  · refine gq_icmp_ne_f (tgt := 84) C dX0_readSeason_72 (by decide) c25 ?_
    refine gq_aload_n C dX0_readSeason_75 rfl 0 rfl ?_
    refine gq_iconst (v := 4) C dX0_readSeason_76 (by decide) ?_
    refine gq_aload_n C dX0_readSeason_77 rfl 0 rfl ?_
    refine gq_get3 C (qn_l 45 (by decide) hN) (by decide) 6 (by decide) wk_3_5 rfl dX0_readSeason_78 ?_
    obtain ⟨m29, eo28, z27⟩ := bind_ex z26
    refine gq_V (As := [.int (4 : Int32), .int (m24.1 45 6)]) (rest := []) (j := 3) C (c_X0_fail hN  eo28) (qn_l 45 (by decide) hN) (by decide) (by decide) rfl wk_4_157 wk_4_159 ws_X0_fail wk_1_6 wk_4_160 hd_X0_fail ⟨(Nat.le_of_ble_eq_true rfl), (Nat.le_of_ble_eq_true rfl)⟩ (Nat.le_of_ble_eq_true rfl) ⟨(Nat.le_of_ble_eq_true rfl), (Nat.le_of_ble_eq_true rfl)⟩ dX0_readSeason_81 rfl rfl ?_
    cases z27
    exact gq_vret C hr dX0_readSeason_84 (Nat.le_of_ble_eq_true rfl) (Nat.le_of_ble_eq_true rfl)
  · refine gq_icmp_ne_t (tgt := 84) C dX0_readSeason_72 (by decide) c25 ?_
    cases z26
    exact gq_vret C hr dX0_readSeason_84 (Nat.le_of_ble_eq_true rfl) (Nat.le_of_ble_eq_true rfl)
abbrev rm_X0_readYears : Room := { frames := 3, cells := 0, slots := 0, locals := 65 }
def F_X0_readYears_31  : Nat → Int32 → Mm → Option Mm
  | 0, _, _ => none
  | n + 1, v1, μ =>
  if (5 : Int32) ≤ v1 then
  (some μ)
  else
  (if (μ.1 45 5) = (2 : Int32) then
  (if (μ.1 45 4) = 0 then
  ((F_X0_takeNumber (0 : Int32) (200 : Int32) μ).bind fun o19 =>
  (sI o19.2 51 v1 o19.1).bind fun m22 =>
  (some (uI m22 47 3 (v1 + (1 : Int32)))).bind fun m24 =>
  F_X0_readYears_31 n (v1 + 1) m24)
  else
  (some μ))
  else
  (some μ))
def F_X0_readYears  (μ : Mm) : Option Mm :=
  (F_X0_nextToken  μ).bind fun o2 =>
  (F_X0_takeNumber (0 : Int32) (200 : Int32) o2).bind fun o5 =>
  (sI o5.2 51 (0 : Int32) o5.1).bind fun m8 =>
  (some (uI m8 47 3 (1 : Int32))).bind fun m10 =>
  (F_X0_readYears_31 qFuel (1 : Int32) m10).bind fun o27 =>
  if (o27.1 45 5) = (2 : Int32) then
  ((F_X0_fail (4 : Int32) (o27.1 45 6) o27).bind fun o32 =>
  some o32)
  else
  (some o27)
set_option maxHeartbeats 4000000 in
set_option maxRecDepth 100000 in
theorem l_X0_readYears_31 {l : Launch} {E : Ev} (hN : 295 ≤ eN E) {p : Program} {e : Env} {s : State} {m : MethodId} {args : Array Value} {below : List Frame} {meth : Method} {c : Code} (C : Cq E p s m args meth c cX0_readYears 2 RX0) {Q : State → Prop} : ∀ (n : Nat) (v1 : Int32) (μ : Mm) (μx : Mm), F_X0_readYears_31 n v1 μ = some μx → Gq E p l e rm_X0_readYears s m args below meth c 0 0 2 Q 84 [(0, .ref (eB E + 45))] [] μx → Gq E p l e rm_X0_readYears s m args below meth c 0 0 2 Q 31 [(0, .ref (eB E + 45)), (1, .int v1)] [] μ := by
  intro n
  induction n with
  | zero =>
    intro v1 μ μx z0 kk
    rw [F_X0_readYears_31] at z0
    cases z0
  | succ n ih =>
    intro v1 μ μx z0 kk
    rw [F_X0_readYears_31] at z0
    refine gq_iload_n C dX0_readYears_31 rfl 1 rfl ?_
    refine gq_iconst (v := 5) C dX0_readYears_32 (by decide) ?_
    rcases ite_ex z0 with ⟨c12, z13⟩ | ⟨c12, z13⟩
    · refine gq_icmp_ge_t (tgt := 84) C dX0_readYears_33 (by decide) c12 ?_
      cases z13
      exact gq_widen (Nat.le_of_ble_eq_true rfl) (Nat.le_of_ble_eq_true rfl) (gq_sub [0] rfl kk)
    · refine gq_icmp_ge_f (tgt := 84) C dX0_readYears_33 (by decide) c12 ?_
      refine gq_aload_n C dX0_readYears_36 rfl 0 rfl ?_
      refine gq_get3 C (qn_l 45 (by decide) hN) (by decide) 5 (by decide) wk_3_4 rfl dX0_readYears_37 ?_
      refine gq_iconst (v := 2) C dX0_readYears_40 (by decide) ?_
      rcases ite_ex z13 with ⟨c14, z15⟩ | ⟨c14, z15⟩
      · refine gq_icmp_ne_f (tgt := 84) C dX0_readYears_41 (by decide) c14 ?_
        refine gq_aload_n C dX0_readYears_44 rfl 0 rfl ?_
        refine gq_get3 C (qn_l 45 (by decide) hN) (by decide) 4 (by decide) wk_3_2 rfl dX0_readYears_45 ?_
        rcases ite_ex z15 with ⟨c16, z17⟩ | ⟨c16, z17⟩
        · refine gq_if_ne_f (tgt := 84) C dX0_readYears_48 (by decide) c16 ?_
          refine gq_aload_n C dX0_readYears_51 rfl 0 rfl ?_
          refine gq_get3 C (qn_l 45 (by decide) hN) (by decide) 1 (by decide) wk_2_237 rfl dX0_readYears_52 ?_
          refine gq_get1N C (qn_l 47 (by decide) hN) (by decide) 2 (by decide) wk_2_156 rfl dX0_readYears_55 ?_
          refine gq_iload_n C dX0_readYears_58 rfl 1 rfl ?_
          refine gq_aload_n C dX0_readYears_59 rfl 0 rfl ?_
          refine gq_iconst (v := 0) C dX0_readYears_60 (by decide) ?_
          refine gq_sipush (v := 200) C dX0_readYears_61 (by decide) ?_
          obtain ⟨⟨x20, m21⟩, eo19, z18⟩ := bind_ex z17
          dsimp only at z18
          refine gq_V (As := [.int (0 : Int32), .int (200 : Int32)]) (rest := [.int v1, .ref (eB E + 51)]) (j := 3) C (c_X0_takeNumber hN  eo19) (qn_l 45 (by decide) hN) (by decide) (by decide) rfl wk_4_161 wk_4_163 ws_X0_takeNumber wk_1_6 wk_4_164 hd_X0_takeNumber ⟨(Nat.le_of_ble_eq_true rfl), (Nat.le_of_ble_eq_true rfl)⟩ (Nat.le_of_ble_eq_true rfl) ⟨(Nat.le_of_ble_eq_true rfl), (Nat.le_of_ble_eq_true rfl)⟩ dX0_readYears_64 rfl rfl ?_
          obtain ⟨m22, em22, z23⟩ := bind_ex z18
          refine gq_iastore C (qn_l 51 (by decide) hN) (by decide) em22 dX0_readYears_67 ?_
          refine gq_aload_n C dX0_readYears_68 rfl 0 rfl ?_
          refine gq_get3 C (qn_l 45 (by decide) hN) (by decide) 1 (by decide) wk_2_237 rfl dX0_readYears_69 ?_
          refine gq_iload_n C dX0_readYears_72 rfl 1 rfl ?_
          refine gq_iconst (v := 1) C dX0_readYears_73 (by decide) ?_
          refine gq_iadd C dX0_readYears_74 ?_
          obtain ⟨m24, em24, z25⟩ := bind_ex z23
          refine gq_put1_3N C (qn_l 47 (by decide) hN) (by decide) wk_2_159 (Option.some.inj em24).symm dX0_readYears_75 ?_
          refine gq_iinc (v := (v1 + 1)) (lv' := [(1, .int (v1 + 1)), (0, .ref (eB E + 45))]) (q := 1) C dX0_readYears_78 rfl rfl (by decide) rfl ?_
          refine gq_goto (tgt := 31) C dX0_readYears_81 (by decide) ?_
          refine gq_widen (k' := 0) (n' := 0) (Nat.le_of_ble_eq_true rfl) (Nat.le_of_ble_eq_true rfl) (gq_sub [1, 0] rfl ?_)
          exact ih _ _ _ z25 kk
        · refine gq_if_ne_t (tgt := 84) C dX0_readYears_48 (by decide) c16 ?_
          cases z17
          exact gq_widen (Nat.le_of_ble_eq_true rfl) (Nat.le_of_ble_eq_true rfl) (gq_sub [0] rfl kk)
      · refine gq_icmp_ne_t (tgt := 84) C dX0_readYears_41 (by decide) c14 ?_
        cases z15
        exact gq_widen (Nat.le_of_ble_eq_true rfl) (Nat.le_of_ble_eq_true rfl) (gq_sub [0] rfl kk)
set_option maxHeartbeats 4000000 in
set_option maxRecDepth 100000 in
theorem c_X0_readYears {l : Launch} {E : Ev} (hN : 295 ≤ eN E) {μ : Mm} {μ' : Mm} (z0 : F_X0_readYears  μ = some μ') : Ct l E yX0_readYears (Cond.code yX0_readYears cX0_readYears 2 none :: GW) rm_X0_readYears [.ref (eB E + 45)] μ none μ' := by
  refine ct_of (by decide) (Nat.le_of_ble_eq_true rfl) (fun p e s m args below meth c C hr => ?_)
  have C : Cq E p s m args meth c cX0_readYears 2 RX0 := C
  refine gq_lv (lv' := [(0, .ref (eB E + 45))]) rfl ?_
  unfold F_X0_readYears at z0
  refine gq_aload_n C dX0_readYears_0 rfl 0 rfl ?_
  obtain ⟨m3, eo2, z1⟩ := bind_ex z0
  refine gq_V (As := []) (rest := []) (j := 3) C (c_X0_nextToken hN  eo2) (qn_l 45 (by decide) hN) (by decide) (by decide) rfl wk_4_125 wk_4_127 ws_X0_nextToken wk_1_6 wk_4_128 hd_X0_nextToken ⟨(Nat.le_of_ble_eq_true rfl), (Nat.le_of_ble_eq_true rfl)⟩ (Nat.le_of_ble_eq_true rfl) ⟨(Nat.le_of_ble_eq_true rfl), (Nat.le_of_ble_eq_true rfl)⟩ dX0_readYears_1 rfl rfl ?_
  refine gq_aload_n C dX0_readYears_4 rfl 0 rfl ?_
  refine gq_get3 C (qn_l 45 (by decide) hN) (by decide) 1 (by decide) wk_2_237 rfl dX0_readYears_5 ?_
  refine gq_get1N C (qn_l 47 (by decide) hN) (by decide) 2 (by decide) wk_2_156 rfl dX0_readYears_8 ?_
  refine gq_iconst (v := 0) C dX0_readYears_11 (by decide) ?_
  refine gq_aload_n C dX0_readYears_12 rfl 0 rfl ?_
  refine gq_iconst (v := 0) C dX0_readYears_13 (by decide) ?_
  refine gq_sipush (v := 200) C dX0_readYears_14 (by decide) ?_
  obtain ⟨⟨x6, m7⟩, eo5, z4⟩ := bind_ex z1
  dsimp only at z4
  refine gq_V (As := [.int (0 : Int32), .int (200 : Int32)]) (rest := [.int (0 : Int32), .ref (eB E + 51)]) (j := 3) C (c_X0_takeNumber hN  eo5) (qn_l 45 (by decide) hN) (by decide) (by decide) rfl wk_4_161 wk_4_163 ws_X0_takeNumber wk_1_6 wk_4_164 hd_X0_takeNumber ⟨(Nat.le_of_ble_eq_true rfl), (Nat.le_of_ble_eq_true rfl)⟩ (Nat.le_of_ble_eq_true rfl) ⟨(Nat.le_of_ble_eq_true rfl), (Nat.le_of_ble_eq_true rfl)⟩ dX0_readYears_17 rfl rfl ?_
  obtain ⟨m8, em8, z9⟩ := bind_ex z4
  refine gq_iastore C (qn_l 51 (by decide) hN) (by decide) em8 dX0_readYears_20 ?_
  refine gq_aload_n C dX0_readYears_21 rfl 0 rfl ?_
  refine gq_get3 C (qn_l 45 (by decide) hN) (by decide) 1 (by decide) wk_2_237 rfl dX0_readYears_22 ?_
  refine gq_iconst (v := 1) C dX0_readYears_25 (by decide) ?_
  obtain ⟨m10, em10, z11⟩ := bind_ex z9
  refine gq_put1_3N C (qn_l 47 (by decide) hN) (by decide) wk_2_159 (Option.some.inj em10).symm dX0_readYears_26 ?_
  refine gq_iconst (v := 1) C dX0_readYears_29 (by decide) ?_
  refine gq_istore_n (lv' := [(1, .int (1 : Int32)), (0, .ref (eB E + 45))]) C dX0_readYears_30 rfl (by decide) rfl ?_
  obtain ⟨m28, eo27, z26⟩ := bind_ex z11
  refine gq_widen (k' := 0) (n' := 0) (Nat.le_of_ble_eq_true rfl) (Nat.le_of_ble_eq_true rfl) (gq_sub [1, 0] rfl ?_)
  refine l_X0_readYears_31 hN C  qFuel _ _ _ eo27 ?_
  refine gq_aload_n C dX0_readYears_84 rfl 0 rfl ?_
  refine gq_get3 C (qn_l 45 (by decide) hN) (by decide) 5 (by decide) wk_3_4 rfl dX0_readYears_85 ?_
  refine gq_iconst (v := 2) C dX0_readYears_88 (by decide) ?_
  rcases ite_ex z26 with ⟨c29, z30⟩ | ⟨c29, z30⟩
  · refine gq_icmp_ne_f (tgt := 101) C dX0_readYears_89 (by decide) c29 ?_
    refine gq_aload_n C dX0_readYears_92 rfl 0 rfl ?_
    refine gq_iconst (v := 4) C dX0_readYears_93 (by decide) ?_
    refine gq_aload_n C dX0_readYears_94 rfl 0 rfl ?_
    refine gq_get3 C (qn_l 45 (by decide) hN) (by decide) 6 (by decide) wk_3_5 rfl dX0_readYears_95 ?_
    obtain ⟨m33, eo32, z31⟩ := bind_ex z30
    refine gq_V (As := [.int (4 : Int32), .int (m28.1 45 6)]) (rest := []) (j := 3) C (c_X0_fail hN  eo32) (qn_l 45 (by decide) hN) (by decide) (by decide) rfl wk_4_157 wk_4_159 ws_X0_fail wk_1_6 wk_4_160 hd_X0_fail ⟨(Nat.le_of_ble_eq_true rfl), (Nat.le_of_ble_eq_true rfl)⟩ (Nat.le_of_ble_eq_true rfl) ⟨(Nat.le_of_ble_eq_true rfl), (Nat.le_of_ble_eq_true rfl)⟩ dX0_readYears_98 rfl rfl ?_
    cases z31
    exact gq_vret C hr dX0_readYears_101 (Nat.le_of_ble_eq_true rfl) (Nat.le_of_ble_eq_true rfl)
  · refine gq_icmp_ne_t (tgt := 101) C dX0_readYears_89 (by decide) c29 ?_
    cases z30
    exact gq_vret C hr dX0_readYears_101 (Nat.le_of_ble_eq_true rfl) (Nat.le_of_ble_eq_true rfl)
abbrev rm_X0_readAccounts : Room := { frames := 3, cells := 0, slots := 0, locals := 65 }
def F_X0_readAccounts_46 (u1 : Int32) : Nat → Int32 → Mm → Option Mm
  | 0, _, _ => none
  | n + 1, v2, μ =>
  if u1 ≤ v2 then
  (some μ)
  else
  ((F_X2_addRow 52 μ).bind fun o16 =>
  F_X0_readAccounts_46 u1 n (v2 + 1) o16.2)
def F_X0_readAccounts  (μ : Mm) : Option Mm :=
  if (μ.1 55 2) ≤ 0 then
  ((F_X0_nextToken  μ).bind fun o4 =>
  (F_X0_takeNumber (1 : Int32) (5 : Int32) o4).bind fun o7 =>
  (F_X2_removeAll 52 o7.2).bind fun o11 =>
  (F_X0_readAccounts_46 o7.1 qFuel (0 : Int32) o11).bind fun o20 =>
  some o20)
  else
  ((F_X0_fail (1 : Int32) (μ.1 45 6) μ).bind fun o23 =>
  some o23)
set_option maxHeartbeats 4000000 in
set_option maxRecDepth 100000 in
theorem l_X0_readAccounts_46 {l : Launch} {E : Ev} (hN : 295 ≤ eN E) {p : Program} {e : Env} {s : State} {m : MethodId} {args : Array Value} {below : List Frame} {meth : Method} {c : Code} (C : Cq E p s m args meth c cX0_readAccounts 3 RX0) {Q : State → Prop} {u1 : Int32} : ∀ (n : Nat) (v2 : Int32) (μ : Mm) (μx : Mm), F_X0_readAccounts_46 u1 n v2 μ = some μx → Gq E p l e rm_X0_readAccounts s m args below meth c 0 0 3 Q 68 [] [] μx → Gq E p l e rm_X0_readAccounts s m args below meth c 0 0 3 Q 46 [(0, .ref (eB E + 45)), (1, .int u1), (2, .int v2)] [] μ := by
  intro n
  induction n with
  | zero =>
    intro v2 μ μx z0 kk
    rw [F_X0_readAccounts_46] at z0
    cases z0
  | succ n ih =>
    intro v2 μ μx z0 kk
    rw [F_X0_readAccounts_46] at z0
    refine gq_iload_n C dX0_readAccounts_46 rfl 2 rfl ?_
    refine gq_iload_n C dX0_readAccounts_47 rfl 1 rfl ?_
    rcases ite_ex z0 with ⟨c13, z14⟩ | ⟨c13, z14⟩
    · refine gq_icmp_ge_t (tgt := 68) C dX0_readAccounts_48 (by decide) c13 ?_
      cases z14
      exact gq_widen (Nat.le_of_ble_eq_true rfl) (Nat.le_of_ble_eq_true rfl) (gq_sub [] rfl kk)
    · refine gq_icmp_ge_f (tgt := 68) C dX0_readAccounts_48 (by decide) c13 ?_
      refine gq_aload_n C dX0_readAccounts_51 rfl 0 rfl ?_
      refine gq_get3 C (qn_l 45 (by decide) hN) (by decide) 1 (by decide) wk_2_237 rfl dX0_readAccounts_52 ?_
      refine gq_get1N C (qn_l 47 (by decide) hN) (by decide) 4 (by decide) wk_2_162 rfl dX0_readAccounts_55 ?_
      obtain ⟨⟨x17, m18⟩, eo16, z15⟩ := bind_ex z14
      dsimp only at z15
      refine gq_V (As := []) (rest := []) (j := 2) C (c_X2_addRow hN (show kd 52 = 2 by decide) eo16) (qn_l 52 (by decide) hN) (by decide) (by decide) rfl wk_4_165 wk_2_7 wk_2_8 wk_1_5 wk_2_9 hd_X2_addRow ⟨(Nat.le_of_ble_eq_true rfl), (Nat.le_of_ble_eq_true rfl)⟩ (Nat.le_of_ble_eq_true rfl) ⟨(Nat.le_of_ble_eq_true rfl), (Nat.le_of_ble_eq_true rfl)⟩ dX0_readAccounts_58 rfl rfl ?_
      refine gq_popi C dX0_readAccounts_61 ?_
      refine gq_iinc (v := (v2 + 1)) (lv' := [(2, .int (v2 + 1)), (0, .ref (eB E + 45)), (1, .int u1)]) (q := 2) C dX0_readAccounts_62 rfl rfl (by decide) rfl ?_
      refine gq_goto (tgt := 46) C dX0_readAccounts_65 (by decide) ?_
      refine gq_widen (k' := 0) (n' := 0) (Nat.le_of_ble_eq_true rfl) (Nat.le_of_ble_eq_true rfl) (gq_sub [1, 2, 0] rfl ?_)
      exact ih _ _ _ z15 kk
set_option maxHeartbeats 4000000 in
set_option maxRecDepth 100000 in
theorem c_X0_readAccounts {l : Launch} {E : Ev} (hN : 295 ≤ eN E) {μ : Mm} {μ' : Mm} (z0 : F_X0_readAccounts  μ = some μ') : Ct l E yX0_readAccounts (Cond.code yX0_readAccounts cX0_readAccounts 3 none :: GW) rm_X0_readAccounts [.ref (eB E + 45)] μ none μ' := by
  refine ct_of (by decide) (Nat.le_of_ble_eq_true rfl) (fun p e s m args below meth c C hr => ?_)
  have C : Cq E p s m args meth c cX0_readAccounts 3 RX0 := C
  refine gq_lv (lv' := [(0, .ref (eB E + 45))]) rfl ?_
  unfold F_X0_readAccounts at z0
  refine gq_aload_n C dX0_readAccounts_0 rfl 0 rfl ?_
  refine gq_get3 C (qn_l 45 (by decide) hN) (by decide) 1 (by decide) wk_2_237 rfl dX0_readAccounts_1 ?_
  refine gq_get1N C (qn_l 47 (by decide) hN) (by decide) 6 (by decide) wk_2_166 rfl dX0_readAccounts_4 ?_
  refine gq_get2N C (qn_l 55 (by decide) hN) (by decide) 2 (by decide) wk_2_140 rfl dX0_readAccounts_7 ?_
  rcases ite_ex z0 with ⟨c1, z2⟩ | ⟨c1, z2⟩
  · refine gq_if_le_t (tgt := 23) C dX0_readAccounts_10 (by decide) c1 ?_
    refine gq_aload_n C dX0_readAccounts_23 rfl 0 rfl ?_
    obtain ⟨m5, eo4, z3⟩ := bind_ex z2
    refine gq_V (As := []) (rest := []) (j := 3) C (c_X0_nextToken hN  eo4) (qn_l 45 (by decide) hN) (by decide) (by decide) rfl wk_4_125 wk_4_127 ws_X0_nextToken wk_1_6 wk_4_128 hd_X0_nextToken ⟨(Nat.le_of_ble_eq_true rfl), (Nat.le_of_ble_eq_true rfl)⟩ (Nat.le_of_ble_eq_true rfl) ⟨(Nat.le_of_ble_eq_true rfl), (Nat.le_of_ble_eq_true rfl)⟩ dX0_readAccounts_24 rfl rfl ?_
    refine gq_aload_n C dX0_readAccounts_27 rfl 0 rfl ?_
    refine gq_iconst (v := 1) C dX0_readAccounts_28 (by decide) ?_
    refine gq_iconst (v := 5) C dX0_readAccounts_29 (by decide) ?_
    obtain ⟨⟨x8, m9⟩, eo7, z6⟩ := bind_ex z3
    dsimp only at z6
    refine gq_V (As := [.int (1 : Int32), .int (5 : Int32)]) (rest := []) (j := 3) C (c_X0_takeNumber hN  eo7) (qn_l 45 (by decide) hN) (by decide) (by decide) rfl wk_4_161 wk_4_163 ws_X0_takeNumber wk_1_6 wk_4_164 hd_X0_takeNumber ⟨(Nat.le_of_ble_eq_true rfl), (Nat.le_of_ble_eq_true rfl)⟩ (Nat.le_of_ble_eq_true rfl) ⟨(Nat.le_of_ble_eq_true rfl), (Nat.le_of_ble_eq_true rfl)⟩ dX0_readAccounts_30 rfl rfl ?_
    refine gq_istore_n (lv' := [(1, .int x8), (0, .ref (eB E + 45))]) C dX0_readAccounts_33 rfl (by decide) rfl ?_
    refine gq_aload_n C dX0_readAccounts_34 rfl 1 rfl ?_
    refine gq_get3 C (qn_l 45 (by decide) hN) (by decide) 1 (by decide) wk_2_237 rfl dX0_readAccounts_35 ?_
    refine gq_get1N C (qn_l 47 (by decide) hN) (by decide) 4 (by decide) wk_2_162 rfl dX0_readAccounts_38 ?_
    obtain ⟨m12, eo11, z10⟩ := bind_ex z6
    refine gq_V (As := []) (rest := []) (j := 2) C (c_X2_removeAll hN (show kd 52 = 2 by decide) eo11) (qn_l 52 (by decide) hN) (by decide) (by decide) rfl wk_4_183 wk_2_2 wk_2_3 wk_1_5 wk_2_4 hd_X2_removeAll ⟨(Nat.le_of_ble_eq_true rfl), (Nat.le_of_ble_eq_true rfl)⟩ (Nat.le_of_ble_eq_true rfl) ⟨(Nat.le_of_ble_eq_true rfl), (Nat.le_of_ble_eq_true rfl)⟩ dX0_readAccounts_41 rfl rfl ?_
    refine gq_iconst (v := 0) C dX0_readAccounts_44 (by decide) ?_
    refine gq_istore_n (lv' := [(2, .int (0 : Int32)), (1, .int x8), (0, .ref (eB E + 45))]) C dX0_readAccounts_45 rfl (by decide) rfl ?_
    obtain ⟨m21, eo20, z19⟩ := bind_ex z10
    refine gq_widen (k' := 0) (n' := 0) (Nat.le_of_ble_eq_true rfl) (Nat.le_of_ble_eq_true rfl) (gq_sub [2, 1, 0] rfl ?_)
    refine l_X0_readAccounts_46 hN C  qFuel _ _ _ eo20 ?_
    cases z19
    exact gq_vret C hr dX0_readAccounts_68 (Nat.le_of_ble_eq_true rfl) (Nat.le_of_ble_eq_true rfl)
  · refine gq_if_le_f (tgt := 23) C dX0_readAccounts_10 (by decide) c1 ?_
    refine gq_aload_n C dX0_readAccounts_13 rfl 0 rfl ?_
    refine gq_iconst (v := 1) C dX0_readAccounts_14 (by decide) ?_
    refine gq_aload_n C dX0_readAccounts_15 rfl 0 rfl ?_
    refine gq_get3 C (qn_l 45 (by decide) hN) (by decide) 6 (by decide) wk_3_5 rfl dX0_readAccounts_16 ?_
    obtain ⟨m24, eo23, z22⟩ := bind_ex z2
    refine gq_V (As := [.int (1 : Int32), .int (μ.1 45 6)]) (rest := []) (j := 3) C (c_X0_fail hN  eo23) (qn_l 45 (by decide) hN) (by decide) (by decide) rfl wk_4_157 wk_4_159 ws_X0_fail wk_1_6 wk_4_160 hd_X0_fail ⟨(Nat.le_of_ble_eq_true rfl), (Nat.le_of_ble_eq_true rfl)⟩ (Nat.le_of_ble_eq_true rfl) ⟨(Nat.le_of_ble_eq_true rfl), (Nat.le_of_ble_eq_true rfl)⟩ dX0_readAccounts_19 rfl rfl ?_
    cases z22
    exact gq_vret C hr dX0_readAccounts_22 (Nat.le_of_ble_eq_true rfl) (Nat.le_of_ble_eq_true rfl)
abbrev rm_X0_failIfTaken : Room := { frames := 1, cells := 0, slots := 0, locals := 22 }
def F_X0_failIfTaken_3 (q1 : Nat) (u2 : Int32) (u3 : Int32) (u4 : Int32) : Nat → Int32 → Mm → Option Mm
  | 0, _, _ => none
  | n + 1, v5, μ =>
  if (μ.1 q1 2) ≤ v5 then
  (some μ)
  else
  ((F_X2_get q1 v5 u2 μ).bind fun o4 =>
  (if o4 = u3 then
  ((F_X0_fail (3 : Int32) u4 μ).bind fun o12 =>
  some o12)
  else
  (some μ)).bind fun o14 =>
  F_X0_failIfTaken_3 q1 u2 u3 u4 n (v5 + 1) o14)
def F_X0_failIfTaken (q1 : Nat) (p2 : Int32) (p3 : Int32) (p4 : Int32) (μ : Mm) : Option Mm :=
  (F_X0_failIfTaken_3 q1 p2 p3 p4 qFuel (0 : Int32) μ).bind fun o16 =>
  some o16
set_option maxHeartbeats 4000000 in
set_option maxRecDepth 100000 in
theorem l_X0_failIfTaken_3 {l : Launch} {E : Ev} (hN : 295 ≤ eN E) {p : Program} {e : Env} {s : State} {m : MethodId} {args : Array Value} {below : List Frame} {meth : Method} {c : Code} (C : Cq E p s m args meth c cX0_failIfTaken 6 RX0) {Q : State → Prop} {q1 : Nat} (k_q1 : kd q1 = 2) {u2 : Int32} {u3 : Int32} {u4 : Int32} : ∀ (n : Nat) (v5 : Int32) (μ : Mm) (μx : Mm), F_X0_failIfTaken_3 q1 u2 u3 u4 n v5 μ = some μx → Gq E p l e rm_X0_failIfTaken s m args below meth c 0 0 6 Q 36 [] [] μx → Gq E p l e rm_X0_failIfTaken s m args below meth c 0 0 6 Q 3 [(0, .ref (eB E + 45)), (1, .ref (eB E + q1)), (2, .int u2), (3, .int u3), (4, .int u4), (5, .int v5)] [] μ := by
  intro n
  induction n with
  | zero =>
    intro v5 μ μx z0 kk
    rw [F_X0_failIfTaken_3] at z0
    cases z0
  | succ n ih =>
    intro v5 μ μx z0 kk
    rw [F_X0_failIfTaken_3] at z0
    refine gq_iload C dX0_failIfTaken_3 5 rfl ?_
    refine gq_aload_n C dX0_failIfTaken_5 rfl 1 rfl ?_
    refine gq_get2N C (tb_n0 k_q1 hN) k_q1 2 (by decide) wk_2_140 rfl dX0_failIfTaken_6 ?_
    rcases ite_ex z0 with ⟨c1, z2⟩ | ⟨c1, z2⟩
    · refine gq_icmp_ge_t (tgt := 36) C dX0_failIfTaken_9 (by decide) c1 ?_
      cases z2
      exact gq_widen (Nat.le_of_ble_eq_true rfl) (Nat.le_of_ble_eq_true rfl) (gq_sub [] rfl kk)
    · refine gq_icmp_ge_f (tgt := 36) C dX0_failIfTaken_9 (by decide) c1 ?_
      refine gq_aload_n C dX0_failIfTaken_12 rfl 1 rfl ?_
      refine gq_iload C dX0_failIfTaken_13 5 rfl ?_
      refine gq_iload_n C dX0_failIfTaken_15 rfl 2 rfl ?_
      obtain ⟨x5, eo4, z3⟩ := bind_ex z2
      refine gq_V (As := [.int v5, .int u2]) (rest := []) C (c_X2_get hN k_q1 eo4) (tb_n0 k_q1 hN) k_q1 (by decide) rfl wk_4_193 wk_1_133 wk_1_134 wk_1_5 wk_1_135 hd_X2_get ⟨(Nat.le_of_ble_eq_true rfl), (Nat.le_of_ble_eq_true rfl)⟩ (Nat.le_of_ble_eq_true rfl) ⟨(Nat.le_of_ble_eq_true rfl), (Nat.le_of_ble_eq_true rfl)⟩ dX0_failIfTaken_16 rfl rfl ?_
      refine gq_iload_n C dX0_failIfTaken_19 rfl 3 rfl ?_
      obtain ⟨m6, z7, z8⟩ := bind_ex z3
      refine gq_join (k' := 0) (n' := 0) (pc' := 30) (lv' := [(0, .ref (eB E + 45)), (1, .ref (eB E + q1)), (2, .int u2), (3, .int u3), (4, .int u4), (5, .int v5)]) (st' := []) (μ' := m6) ?_ (fun J30 => ?_)
      · refine gq_iinc (v := (v5 + 1)) (lv' := [(5, .int (v5 + 1)), (0, .ref (eB E + 45)), (1, .ref (eB E + q1)), (2, .int u2), (3, .int u3), (4, .int u4)]) (q := 5) C dX0_failIfTaken_30 rfl rfl (by decide) rfl ?_
        refine gq_goto (tgt := 3) C dX0_failIfTaken_33 (by decide) ?_
        refine gq_widen (k' := 0) (n' := 0) (Nat.le_of_ble_eq_true rfl) (Nat.le_of_ble_eq_true rfl) (gq_sub [1, 2, 3, 4, 5, 0] rfl ?_)
        exact ih _ _ _ z8 kk
      · rcases ite_ex z7 with ⟨c9, z10⟩ | ⟨c9, z10⟩
        · refine gq_icmp_ne_f (tgt := 30) C dX0_failIfTaken_20 (by decide) c9 ?_
          refine gq_aload_n C dX0_failIfTaken_23 rfl 0 rfl ?_
          refine gq_iconst (v := 3) C dX0_failIfTaken_24 (by decide) ?_
          refine gq_iload C dX0_failIfTaken_25 4 rfl ?_
          obtain ⟨m13, eo12, z11⟩ := bind_ex z10
          refine gq_V (As := [.int (3 : Int32), .int u4]) (rest := []) (j := 3) C (c_X0_fail hN  eo12) (qn_l 45 (by decide) hN) (by decide) (by decide) rfl wk_4_157 wk_4_159 ws_X0_fail wk_1_6 wk_4_160 hd_X0_fail ⟨(Nat.le_of_ble_eq_true rfl), (Nat.le_of_ble_eq_true rfl)⟩ (Nat.le_of_ble_eq_true rfl) ⟨(Nat.le_of_ble_eq_true rfl), (Nat.le_of_ble_eq_true rfl)⟩ dX0_failIfTaken_27 rfl rfl ?_
          cases z11
          exact gq_widen (Nat.le_of_ble_eq_true rfl) (Nat.le_of_ble_eq_true rfl) (gq_sub [0, 1, 2, 3, 4, 5] rfl J30)
        · refine gq_icmp_ne_t (tgt := 30) C dX0_failIfTaken_20 (by decide) c9 ?_
          cases z10
          exact gq_widen (Nat.le_of_ble_eq_true rfl) (Nat.le_of_ble_eq_true rfl) (gq_sub [0, 1, 2, 3, 4, 5] rfl J30)
set_option maxHeartbeats 4000000 in
set_option maxRecDepth 100000 in
theorem c_X0_failIfTaken {l : Launch} {E : Ev} (hN : 295 ≤ eN E) {q1 : Nat} (k_q1 : kd q1 = 2) {p2 : Int32} {p3 : Int32} {p4 : Int32} {μ : Mm} {μ' : Mm} (z0 : F_X0_failIfTaken q1 p2 p3 p4 μ = some μ') : Ct l E yX0_failIfTaken (Cond.code yX0_failIfTaken cX0_failIfTaken 6 none :: GW) rm_X0_failIfTaken [.ref (eB E + 45), .ref (eB E + q1), .int p2, .int p3, .int p4] μ none μ' := by
  refine ct_of (by decide) (Nat.le_of_ble_eq_true rfl) (fun p e s m args below meth c C hr => ?_)
  have C : Cq E p s m args meth c cX0_failIfTaken 6 RX0 := C
  refine gq_lv (lv' := [(0, .ref (eB E + 45)), (1, .ref (eB E + q1)), (2, .int p2), (3, .int p3), (4, .int p4)]) rfl ?_
  unfold F_X0_failIfTaken at z0
  refine gq_iconst (v := 0) C dX0_failIfTaken_0 (by decide) ?_
  refine gq_istore (lv' := [(5, .int (0 : Int32)), (0, .ref (eB E + 45)), (1, .ref (eB E + q1)), (2, .int p2), (3, .int p3), (4, .int p4)]) C dX0_failIfTaken_1 (by decide) rfl ?_
  obtain ⟨m17, eo16, z15⟩ := bind_ex z0
  refine gq_widen (k' := 0) (n' := 0) (Nat.le_of_ble_eq_true rfl) (Nat.le_of_ble_eq_true rfl) (gq_sub [1, 2, 3, 4, 5, 0] rfl ?_)
  refine l_X0_failIfTaken_3 hN C k_q1 qFuel _ _ _ eo16 ?_
  cases z15
  exact gq_vret C hr dX0_failIfTaken_36 (Nat.le_of_ble_eq_true rfl) (Nat.le_of_ble_eq_true rfl)
abbrev rm_X0_readRight : Room := { frames := 7, cells := 0, slots := 0, locals := 230 }
def F_X0_readRight  (μ : Mm) : Option Mm :=
  (F_X0_takeRowWord 55 (10 : Int32) μ).bind fun o2 =>
  (F_X0_takeNumber (0 : Int32) ((o2.1 52 2) - (1 : Int32)) o2).bind fun o5 =>
  (F_X0_takeNumber (0 : Int32) ((o5.2.1 48 2) - (1 : Int32)) o5.2).bind fun o9 =>
  (F_X0_takeNumber (1 : Int32) (99 : Int32) o9.2).bind fun o13 =>
  (F_X0_failIfTaken 55 (2 : Int32) o13.1 (o9.2.1 45 6) o13.2).bind fun o17 =>
  (F_X0_takeNumber (1 : Int32) (999 : Int32) o17).bind fun o20 =>
  (F_X0_isWord 6 o20.2).bind fun o24 =>
  (if o24 = 0 then
  (some ((0 : Int32), o9.1, o20.2))
  else
  ((F_X0_nextToken  o20.2).bind fun o34 =>
  (F_X0_takeNumber (0 : Int32) (90 : Int32) o34).bind fun o37 =>
  (F_X0_takeNumber o9.1 ((o37.2.1 48 2) - (1 : Int32)) o37.2).bind fun o41 =>
  some (o37.1, o41.1, o41.2))).bind fun o44 =>
  (F_X0_isWord 7 o44.2.2).bind fun o46 =>
  (if o46 = 0 then
  (some ((0 : Int32), o44.2.2))
  else
  ((F_X0_nextToken  o44.2.2).bind fun o55 =>
  (F_X0_takeNumber (0 : Int32) (100 : Int32) o55).bind fun o58 =>
  some (o58.1, o58.2))).bind fun o61 =>
  (F_X2_addRow 55 o61.2).bind fun o63 =>
  (F_X2_put 55 o63.1 (0 : Int32) o5.1 o63.2).bind fun o67 =>
  (F_X2_put 55 o63.1 (1 : Int32) o9.1 o67).bind fun o70 =>
  (F_X2_put 55 o63.1 (2 : Int32) o13.1 o70).bind fun o73 =>
  (F_X2_put 55 o63.1 (3 : Int32) o20.1 o73).bind fun o76 =>
  (F_X2_put 55 o63.1 (4 : Int32) o44.1 o76).bind fun o79 =>
  (F_X2_put 55 o63.1 (5 : Int32) o44.2.1 o79).bind fun o82 =>
  (F_X2_put 55 o63.1 (6 : Int32) o61.1 o82).bind fun o85 =>
  some o85
set_option maxHeartbeats 4000000 in
set_option maxRecDepth 100000 in
theorem c_X0_readRight {l : Launch} {E : Ev} (hN : 295 ≤ eN E) {μ : Mm} {μ' : Mm} (z0 : F_X0_readRight  μ = some μ') : Ct l E yX0_readRight (Cond.code yX0_readRight cX0_readRight 10 none :: GW) rm_X0_readRight [.ref (eB E + 45)] μ none μ' := by
  refine ct_of (by decide) (Nat.le_of_ble_eq_true rfl) (fun p e s m args below meth c C hr => ?_)
  have C : Cq E p s m args meth c cX0_readRight 10 RX0 := C
  refine gq_lv (lv' := [(0, .ref (eB E + 45))]) rfl ?_
  unfold F_X0_readRight at z0
  refine gq_aload_n C dX0_readRight_0 rfl 0 rfl ?_
  refine gq_aload_n C dX0_readRight_1 rfl 0 rfl ?_
  refine gq_get3 C (qn_l 45 (by decide) hN) (by decide) 1 (by decide) wk_2_237 rfl dX0_readRight_2 ?_
  refine gq_get1N C (qn_l 47 (by decide) hN) (by decide) 6 (by decide) wk_2_166 rfl dX0_readRight_5 ?_
  refine gq_bipush (v := 10) C dX0_readRight_8 (by decide) ?_
  obtain ⟨m3, eo2, z1⟩ := bind_ex z0
  refine gq_V (As := [.ref (eB E + 55), .int (10 : Int32)]) (rest := []) (j := 3) C (c_X0_takeRowWord hN (show kd 55 = 2 by decide) eo2) (qn_l 45 (by decide) hN) (by decide) (by decide) rfl wk_4_153 wk_4_155 ws_X0_takeRowWord wk_1_6 wk_4_156 hd_X0_takeRowWord ⟨(Nat.le_of_ble_eq_true rfl), (Nat.le_of_ble_eq_true rfl)⟩ (Nat.le_of_ble_eq_true rfl) ⟨(Nat.le_of_ble_eq_true rfl), (Nat.le_of_ble_eq_true rfl)⟩ dX0_readRight_10 rfl rfl ?_
  refine gq_aload_n C dX0_readRight_13 rfl 0 rfl ?_
  refine gq_iconst (v := 0) C dX0_readRight_14 (by decide) ?_
  refine gq_aload_n C dX0_readRight_15 rfl 0 rfl ?_
  refine gq_get3 C (qn_l 45 (by decide) hN) (by decide) 1 (by decide) wk_2_237 rfl dX0_readRight_16 ?_
  refine gq_get1N C (qn_l 47 (by decide) hN) (by decide) 4 (by decide) wk_2_162 rfl dX0_readRight_19 ?_
  refine gq_get2N C (qn_l 52 (by decide) hN) (by decide) 2 (by decide) wk_2_140 rfl dX0_readRight_22 ?_
  refine gq_iconst (v := 1) C dX0_readRight_25 (by decide) ?_
  refine gq_isub C dX0_readRight_26 ?_
  obtain ⟨⟨x6, m7⟩, eo5, z4⟩ := bind_ex z1
  dsimp only at z4
  refine gq_V (As := [.int (0 : Int32), .int ((m3.1 52 2) - (1 : Int32))]) (rest := []) (j := 3) C (c_X0_takeNumber hN  eo5) (qn_l 45 (by decide) hN) (by decide) (by decide) rfl wk_4_161 wk_4_163 ws_X0_takeNumber wk_1_6 wk_4_164 hd_X0_takeNumber ⟨(Nat.le_of_ble_eq_true rfl), (Nat.le_of_ble_eq_true rfl)⟩ (Nat.le_of_ble_eq_true rfl) ⟨(Nat.le_of_ble_eq_true rfl), (Nat.le_of_ble_eq_true rfl)⟩ dX0_readRight_27 rfl rfl ?_
  refine gq_istore_n (lv' := [(1, .int x6), (0, .ref (eB E + 45))]) C dX0_readRight_30 rfl (by decide) rfl ?_
  refine gq_aload_n C dX0_readRight_31 rfl 1 rfl ?_
  refine gq_iconst (v := 0) C dX0_readRight_32 (by decide) ?_
  refine gq_aload_n C dX0_readRight_33 rfl 1 rfl ?_
  refine gq_get3 C (qn_l 45 (by decide) hN) (by decide) 1 (by decide) wk_2_237 rfl dX0_readRight_34 ?_
  refine gq_get1N C (qn_l 47 (by decide) hN) (by decide) 0 (by decide) wk_2_152 rfl dX0_readRight_37 ?_
  refine gq_get2N C (qn_l 48 (by decide) hN) (by decide) 2 (by decide) wk_2_140 rfl dX0_readRight_40 ?_
  refine gq_iconst (v := 1) C dX0_readRight_43 (by decide) ?_
  refine gq_isub C dX0_readRight_44 ?_
  obtain ⟨⟨x10, m11⟩, eo9, z8⟩ := bind_ex z4
  dsimp only at z8
  refine gq_V (As := [.int (0 : Int32), .int ((m7.1 48 2) - (1 : Int32))]) (rest := []) (j := 3) C (c_X0_takeNumber hN  eo9) (qn_l 45 (by decide) hN) (by decide) (by decide) rfl wk_4_161 wk_4_163 ws_X0_takeNumber wk_1_6 wk_4_164 hd_X0_takeNumber ⟨(Nat.le_of_ble_eq_true rfl), (Nat.le_of_ble_eq_true rfl)⟩ (Nat.le_of_ble_eq_true rfl) ⟨(Nat.le_of_ble_eq_true rfl), (Nat.le_of_ble_eq_true rfl)⟩ dX0_readRight_45 rfl rfl ?_
  refine gq_istore_n (lv' := [(2, .int x10), (1, .int x6), (0, .ref (eB E + 45))]) C dX0_readRight_48 rfl (by decide) rfl ?_
  refine gq_aload_n C dX0_readRight_49 rfl 2 rfl ?_
  refine gq_get3 C (qn_l 45 (by decide) hN) (by decide) 6 (by decide) wk_3_5 rfl dX0_readRight_50 ?_
  refine gq_istore_n (lv' := [(3, .int (m11.1 45 6)), (2, .int x10), (1, .int x6), (0, .ref (eB E + 45))]) C dX0_readRight_53 rfl (by decide) rfl ?_
  refine gq_aload_n C dX0_readRight_54 rfl 3 rfl ?_
  refine gq_iconst (v := 1) C dX0_readRight_55 (by decide) ?_
  refine gq_bipush (v := 99) C dX0_readRight_56 (by decide) ?_
  obtain ⟨⟨x14, m15⟩, eo13, z12⟩ := bind_ex z8
  dsimp only at z12
  refine gq_V (As := [.int (1 : Int32), .int (99 : Int32)]) (rest := []) (j := 3) C (c_X0_takeNumber hN  eo13) (qn_l 45 (by decide) hN) (by decide) (by decide) rfl wk_4_161 wk_4_163 ws_X0_takeNumber wk_1_6 wk_4_164 hd_X0_takeNumber ⟨(Nat.le_of_ble_eq_true rfl), (Nat.le_of_ble_eq_true rfl)⟩ (Nat.le_of_ble_eq_true rfl) ⟨(Nat.le_of_ble_eq_true rfl), (Nat.le_of_ble_eq_true rfl)⟩ dX0_readRight_58 rfl rfl ?_
  refine gq_istore (lv' := [(4, .int x14), (3, .int (m11.1 45 6)), (2, .int x10), (1, .int x6), (0, .ref (eB E + 45))]) C dX0_readRight_61 (by decide) rfl ?_
  refine gq_aload_n C dX0_readRight_63 rfl 4 rfl ?_
  refine gq_aload_n C dX0_readRight_64 rfl 4 rfl ?_
  refine gq_get3 C (qn_l 45 (by decide) hN) (by decide) 1 (by decide) wk_2_237 rfl dX0_readRight_65 ?_
  refine gq_get1N C (qn_l 47 (by decide) hN) (by decide) 6 (by decide) wk_2_166 rfl dX0_readRight_68 ?_
  refine gq_iconst (v := 2) C dX0_readRight_71 (by decide) ?_
  refine gq_iload C dX0_readRight_72 0 rfl ?_
  refine gq_iload_n C dX0_readRight_74 rfl 1 rfl ?_
  obtain ⟨m18, eo17, z16⟩ := bind_ex z12
  refine gq_V (As := [.ref (eB E + 55), .int (2 : Int32), .int x14, .int (m11.1 45 6)]) (rest := []) (j := 3) C (c_X0_failIfTaken hN (show kd 55 = 2 by decide) eo17) (qn_l 45 (by decide) hN) (by decide) (by decide) rfl wk_4_189 wk_4_191 ws_X0_failIfTaken wk_1_6 wk_4_192 hd_X0_failIfTaken ⟨(Nat.le_of_ble_eq_true rfl), (Nat.le_of_ble_eq_true rfl)⟩ (Nat.le_of_ble_eq_true rfl) ⟨(Nat.le_of_ble_eq_true rfl), (Nat.le_of_ble_eq_true rfl)⟩ dX0_readRight_75 rfl rfl ?_
  refine gq_aload_n C dX0_readRight_78 rfl 4 rfl ?_
  refine gq_iconst (v := 1) C dX0_readRight_79 (by decide) ?_
  refine gq_sipush (v := 999) C dX0_readRight_80 (by decide) ?_
  obtain ⟨⟨x21, m22⟩, eo20, z19⟩ := bind_ex z16
  dsimp only at z19
  refine gq_V (As := [.int (1 : Int32), .int (999 : Int32)]) (rest := []) (j := 3) C (c_X0_takeNumber hN  eo20) (qn_l 45 (by decide) hN) (by decide) (by decide) rfl wk_4_161 wk_4_163 ws_X0_takeNumber wk_1_6 wk_4_164 hd_X0_takeNumber ⟨(Nat.le_of_ble_eq_true rfl), (Nat.le_of_ble_eq_true rfl)⟩ (Nat.le_of_ble_eq_true rfl) ⟨(Nat.le_of_ble_eq_true rfl), (Nat.le_of_ble_eq_true rfl)⟩ dX0_readRight_83 rfl rfl ?_
  refine gq_istore (lv' := [(5, .int x21), (4, .int x14), (3, .int (m11.1 45 6)), (2, .int x10), (1, .int x6), (0, .ref (eB E + 45))]) C dX0_readRight_86 (by decide) rfl ?_
  refine gq_iconst (v := 0) C dX0_readRight_88 (by decide) ?_
  refine gq_istore (lv' := [(6, .int (0 : Int32)), (5, .int x21), (4, .int x14), (3, .int (m11.1 45 6)), (2, .int x10), (1, .int x6), (0, .ref (eB E + 45))]) C dX0_readRight_89 (by decide) rfl ?_
  refine gq_iload_n C dX0_readRight_91 rfl 4 rfl ?_
  refine gq_istore (lv' := [(7, .int x10), (6, .int (0 : Int32)), (5, .int x21), (4, .int x14), (3, .int (m11.1 45 6)), (2, .int x10), (1, .int x6), (0, .ref (eB E + 45))]) C dX0_readRight_92 (by decide) rfl ?_
  refine gq_aload_n C dX0_readRight_94 rfl 7 rfl ?_
  refine gq_ldcS (j := 6) (tx := "returns") C (by decide +kernel) dX0_readRight_95 ?_
  obtain ⟨x25, eo24, z23⟩ := bind_ex z19
  refine gq_V (As := [.ref (eK E 6)]) (rest := []) (j := 3) C (c_X0_isWord hN (by decide) eo24) (qn_l 45 (by decide) hN) (by decide) (by decide) rfl wk_4_143 wk_4_145 ws_X0_isWord wk_1_6 wk_4_146 hd_X0_isWord ⟨(Nat.le_of_ble_eq_true rfl), (Nat.le_of_ble_eq_true rfl)⟩ (Nat.le_of_ble_eq_true rfl) ⟨(Nat.le_of_ble_eq_true rfl), (Nat.le_of_ble_eq_true rfl)⟩ dX0_readRight_97 rfl rfl ?_
  obtain ⟨⟨x26, x27, m28⟩, z29, z30⟩ := bind_ex z23
  dsimp only at z30
  refine gq_join (k' := 0) (n' := 0) (pc' := 135) (lv' := [(0, .ref (eB E + 45)), (1, .int x6), (2, .int x10), (4, .int x14), (5, .int x21), (6, .int x26), (7, .int x27)]) (st' := []) (μ' := m28) ?_ (fun J135 => ?_)
  · refine gq_iconst (v := 0) C dX0_readRight_135 (by decide) ?_
    refine gq_istore (lv' := [(8, .int (0 : Int32)), (0, .ref (eB E + 45)), (1, .int x6), (2, .int x10), (4, .int x14), (5, .int x21), (6, .int x26), (7, .int x27)]) C dX0_readRight_136 (by decide) rfl ?_
    refine gq_aload_n C dX0_readRight_138 rfl 1 rfl ?_
    refine gq_ldcS (j := 7) (tx := "keeps") C (by decide +kernel) dX0_readRight_139 ?_
    obtain ⟨x47, eo46, z45⟩ := bind_ex z30
    refine gq_V (As := [.ref (eK E 7)]) (rest := []) (j := 3) C (c_X0_isWord hN (by decide) eo46) (qn_l 45 (by decide) hN) (by decide) (by decide) rfl wk_4_143 wk_4_145 ws_X0_isWord wk_1_6 wk_4_146 hd_X0_isWord ⟨(Nat.le_of_ble_eq_true rfl), (Nat.le_of_ble_eq_true rfl)⟩ (Nat.le_of_ble_eq_true rfl) ⟨(Nat.le_of_ble_eq_true rfl), (Nat.le_of_ble_eq_true rfl)⟩ dX0_readRight_141 rfl rfl ?_
    obtain ⟨⟨x48, m49⟩, z50, z51⟩ := bind_ex z45
    dsimp only at z51
    refine gq_join (k' := 0) (n' := 0) (pc' := 160) (lv' := [(0, .ref (eB E + 45)), (1, .int x6), (2, .int x10), (4, .int x14), (5, .int x21), (6, .int x26), (7, .int x27), (8, .int x48)]) (st' := []) (μ' := m49) ?_ (fun J160 => ?_)
    · refine gq_aload_n C dX0_readRight_160 rfl 0 rfl ?_
      refine gq_get3 C (qn_l 45 (by decide) hN) (by decide) 1 (by decide) wk_2_237 rfl dX0_readRight_161 ?_
      refine gq_get1N C (qn_l 47 (by decide) hN) (by decide) 6 (by decide) wk_2_166 rfl dX0_readRight_164 ?_
      obtain ⟨⟨x64, m65⟩, eo63, z62⟩ := bind_ex z51
      dsimp only at z62
      refine gq_V (As := []) (rest := []) (j := 2) C (c_X2_addRow hN (show kd 55 = 2 by decide) eo63) (qn_l 55 (by decide) hN) (by decide) (by decide) rfl wk_4_165 wk_2_7 wk_2_8 wk_1_5 wk_2_9 hd_X2_addRow ⟨(Nat.le_of_ble_eq_true rfl), (Nat.le_of_ble_eq_true rfl)⟩ (Nat.le_of_ble_eq_true rfl) ⟨(Nat.le_of_ble_eq_true rfl), (Nat.le_of_ble_eq_true rfl)⟩ dX0_readRight_167 rfl rfl ?_
      refine gq_istore (lv' := [(9, .int x64), (0, .ref (eB E + 45)), (1, .int x6), (2, .int x10), (4, .int x14), (5, .int x21), (6, .int x26), (7, .int x27), (8, .int x48)]) C dX0_readRight_170 (by decide) rfl ?_
      refine gq_aload_n C dX0_readRight_172 rfl 1 rfl ?_
      refine gq_get3 C (qn_l 45 (by decide) hN) (by decide) 1 (by decide) wk_2_237 rfl dX0_readRight_173 ?_
      refine gq_get1N C (qn_l 47 (by decide) hN) (by decide) 6 (by decide) wk_2_166 rfl dX0_readRight_176 ?_
      refine gq_iload C dX0_readRight_179 0 rfl ?_
      refine gq_iconst (v := 0) C dX0_readRight_181 (by decide) ?_
      refine gq_iload_n C dX0_readRight_182 rfl 2 rfl ?_
      obtain ⟨m68, eo67, z66⟩ := bind_ex z62
      refine gq_V (As := [.int x64, .int (0 : Int32), .int x6]) (rest := []) (j := 2) C (c_X2_put hN (show kd 55 = 2 by decide) eo67) (qn_l 55 (by decide) hN) (by decide) (by decide) rfl wk_4_166 wk_2_11 wk_2_12 wk_1_5 wk_2_13 hd_X2_put ⟨(Nat.le_of_ble_eq_true rfl), (Nat.le_of_ble_eq_true rfl)⟩ (Nat.le_of_ble_eq_true rfl) ⟨(Nat.le_of_ble_eq_true rfl), (Nat.le_of_ble_eq_true rfl)⟩ dX0_readRight_183 rfl rfl ?_
      refine gq_aload_n C dX0_readRight_186 rfl 1 rfl ?_
      refine gq_get3 C (qn_l 45 (by decide) hN) (by decide) 1 (by decide) wk_2_237 rfl dX0_readRight_187 ?_
      refine gq_get1N C (qn_l 47 (by decide) hN) (by decide) 6 (by decide) wk_2_166 rfl dX0_readRight_190 ?_
      refine gq_iload C dX0_readRight_193 0 rfl ?_
      refine gq_iconst (v := 1) C dX0_readRight_195 (by decide) ?_
      refine gq_iload_n C dX0_readRight_196 rfl 3 rfl ?_
      obtain ⟨m71, eo70, z69⟩ := bind_ex z66
      refine gq_V (As := [.int x64, .int (1 : Int32), .int x10]) (rest := []) (j := 2) C (c_X2_put hN (show kd 55 = 2 by decide) eo70) (qn_l 55 (by decide) hN) (by decide) (by decide) rfl wk_4_166 wk_2_11 wk_2_12 wk_1_5 wk_2_13 hd_X2_put ⟨(Nat.le_of_ble_eq_true rfl), (Nat.le_of_ble_eq_true rfl)⟩ (Nat.le_of_ble_eq_true rfl) ⟨(Nat.le_of_ble_eq_true rfl), (Nat.le_of_ble_eq_true rfl)⟩ dX0_readRight_197 rfl rfl ?_
      refine gq_aload_n C dX0_readRight_200 rfl 1 rfl ?_
      refine gq_get3 C (qn_l 45 (by decide) hN) (by decide) 1 (by decide) wk_2_237 rfl dX0_readRight_201 ?_
      refine gq_get1N C (qn_l 47 (by decide) hN) (by decide) 6 (by decide) wk_2_166 rfl dX0_readRight_204 ?_
      refine gq_iload C dX0_readRight_207 0 rfl ?_
      refine gq_iconst (v := 2) C dX0_readRight_209 (by decide) ?_
      refine gq_iload C dX0_readRight_210 4 rfl ?_
      obtain ⟨m74, eo73, z72⟩ := bind_ex z69
      refine gq_V (As := [.int x64, .int (2 : Int32), .int x14]) (rest := []) (j := 2) C (c_X2_put hN (show kd 55 = 2 by decide) eo73) (qn_l 55 (by decide) hN) (by decide) (by decide) rfl wk_4_166 wk_2_11 wk_2_12 wk_1_5 wk_2_13 hd_X2_put ⟨(Nat.le_of_ble_eq_true rfl), (Nat.le_of_ble_eq_true rfl)⟩ (Nat.le_of_ble_eq_true rfl) ⟨(Nat.le_of_ble_eq_true rfl), (Nat.le_of_ble_eq_true rfl)⟩ dX0_readRight_212 rfl rfl ?_
      refine gq_aload_n C dX0_readRight_215 rfl 1 rfl ?_
      refine gq_get3 C (qn_l 45 (by decide) hN) (by decide) 1 (by decide) wk_2_237 rfl dX0_readRight_216 ?_
      refine gq_get1N C (qn_l 47 (by decide) hN) (by decide) 6 (by decide) wk_2_166 rfl dX0_readRight_219 ?_
      refine gq_iload C dX0_readRight_222 0 rfl ?_
      refine gq_iconst (v := 3) C dX0_readRight_224 (by decide) ?_
      refine gq_iload C dX0_readRight_225 5 rfl ?_
      obtain ⟨m77, eo76, z75⟩ := bind_ex z72
      refine gq_V (As := [.int x64, .int (3 : Int32), .int x21]) (rest := []) (j := 2) C (c_X2_put hN (show kd 55 = 2 by decide) eo76) (qn_l 55 (by decide) hN) (by decide) (by decide) rfl wk_4_166 wk_2_11 wk_2_12 wk_1_5 wk_2_13 hd_X2_put ⟨(Nat.le_of_ble_eq_true rfl), (Nat.le_of_ble_eq_true rfl)⟩ (Nat.le_of_ble_eq_true rfl) ⟨(Nat.le_of_ble_eq_true rfl), (Nat.le_of_ble_eq_true rfl)⟩ dX0_readRight_227 rfl rfl ?_
      refine gq_aload_n C dX0_readRight_230 rfl 1 rfl ?_
      refine gq_get3 C (qn_l 45 (by decide) hN) (by decide) 1 (by decide) wk_2_237 rfl dX0_readRight_231 ?_
      refine gq_get1N C (qn_l 47 (by decide) hN) (by decide) 6 (by decide) wk_2_166 rfl dX0_readRight_234 ?_
      refine gq_iload C dX0_readRight_237 0 rfl ?_
      refine gq_iconst (v := 4) C dX0_readRight_239 (by decide) ?_
      refine gq_iload C dX0_readRight_240 6 rfl ?_
      obtain ⟨m80, eo79, z78⟩ := bind_ex z75
      refine gq_V (As := [.int x64, .int (4 : Int32), .int x26]) (rest := []) (j := 2) C (c_X2_put hN (show kd 55 = 2 by decide) eo79) (qn_l 55 (by decide) hN) (by decide) (by decide) rfl wk_4_166 wk_2_11 wk_2_12 wk_1_5 wk_2_13 hd_X2_put ⟨(Nat.le_of_ble_eq_true rfl), (Nat.le_of_ble_eq_true rfl)⟩ (Nat.le_of_ble_eq_true rfl) ⟨(Nat.le_of_ble_eq_true rfl), (Nat.le_of_ble_eq_true rfl)⟩ dX0_readRight_242 rfl rfl ?_
      refine gq_aload_n C dX0_readRight_245 rfl 1 rfl ?_
      refine gq_get3 C (qn_l 45 (by decide) hN) (by decide) 1 (by decide) wk_2_237 rfl dX0_readRight_246 ?_
      refine gq_get1N C (qn_l 47 (by decide) hN) (by decide) 6 (by decide) wk_2_166 rfl dX0_readRight_249 ?_
      refine gq_iload C dX0_readRight_252 0 rfl ?_
      refine gq_iconst (v := 5) C dX0_readRight_254 (by decide) ?_
      refine gq_iload C dX0_readRight_255 7 rfl ?_
      obtain ⟨m83, eo82, z81⟩ := bind_ex z78
      refine gq_V (As := [.int x64, .int (5 : Int32), .int x27]) (rest := []) (j := 2) C (c_X2_put hN (show kd 55 = 2 by decide) eo82) (qn_l 55 (by decide) hN) (by decide) (by decide) rfl wk_4_166 wk_2_11 wk_2_12 wk_1_5 wk_2_13 hd_X2_put ⟨(Nat.le_of_ble_eq_true rfl), (Nat.le_of_ble_eq_true rfl)⟩ (Nat.le_of_ble_eq_true rfl) ⟨(Nat.le_of_ble_eq_true rfl), (Nat.le_of_ble_eq_true rfl)⟩ dX0_readRight_257 rfl rfl ?_
      refine gq_aload_n C dX0_readRight_260 rfl 1 rfl ?_
      refine gq_get3 C (qn_l 45 (by decide) hN) (by decide) 1 (by decide) wk_2_237 rfl dX0_readRight_261 ?_
      refine gq_get1N C (qn_l 47 (by decide) hN) (by decide) 6 (by decide) wk_2_166 rfl dX0_readRight_264 ?_
      refine gq_iload C dX0_readRight_267 0 rfl ?_
      refine gq_bipush (v := 6) C dX0_readRight_269 (by decide) ?_
      refine gq_iload C dX0_readRight_271 8 rfl ?_
      obtain ⟨m86, eo85, z84⟩ := bind_ex z81
      refine gq_V (As := [.int x64, .int (6 : Int32), .int x48]) (rest := []) (j := 2) C (c_X2_put hN (show kd 55 = 2 by decide) eo85) (qn_l 55 (by decide) hN) (by decide) (by decide) rfl wk_4_166 wk_2_11 wk_2_12 wk_1_5 wk_2_13 hd_X2_put ⟨(Nat.le_of_ble_eq_true rfl), (Nat.le_of_ble_eq_true rfl)⟩ (Nat.le_of_ble_eq_true rfl) ⟨(Nat.le_of_ble_eq_true rfl), (Nat.le_of_ble_eq_true rfl)⟩ dX0_readRight_273 rfl rfl ?_
      cases z84
      exact gq_vret C hr dX0_readRight_276 (Nat.le_of_ble_eq_true rfl) (Nat.le_of_ble_eq_true rfl)
    · rcases ite_ex z50 with ⟨c52, z53⟩ | ⟨c52, z53⟩
      · refine gq_if_eq_t (tgt := 160) C dX0_readRight_144 (by decide) c52 ?_
        cases z53
        exact gq_widen (Nat.le_of_ble_eq_true rfl) (Nat.le_of_ble_eq_true rfl) (gq_sub [1, 2, 3, 4, 5, 6, 7, 0] rfl J160)
      · refine gq_if_eq_f (tgt := 160) C dX0_readRight_144 (by decide) c52 ?_
        refine gq_aload_n C dX0_readRight_147 rfl 1 rfl ?_
        obtain ⟨m56, eo55, z54⟩ := bind_ex z53
        refine gq_V (As := []) (rest := []) (j := 3) C (c_X0_nextToken hN  eo55) (qn_l 45 (by decide) hN) (by decide) (by decide) rfl wk_4_125 wk_4_127 ws_X0_nextToken wk_1_6 wk_4_128 hd_X0_nextToken ⟨(Nat.le_of_ble_eq_true rfl), (Nat.le_of_ble_eq_true rfl)⟩ (Nat.le_of_ble_eq_true rfl) ⟨(Nat.le_of_ble_eq_true rfl), (Nat.le_of_ble_eq_true rfl)⟩ dX0_readRight_148 rfl rfl ?_
        refine gq_aload_n C dX0_readRight_151 rfl 1 rfl ?_
        refine gq_iconst (v := 0) C dX0_readRight_152 (by decide) ?_
        refine gq_bipush (v := 100) C dX0_readRight_153 (by decide) ?_
        obtain ⟨⟨x59, m60⟩, eo58, z57⟩ := bind_ex z54
        dsimp only at z57
        refine gq_V (As := [.int (0 : Int32), .int (100 : Int32)]) (rest := []) (j := 3) C (c_X0_takeNumber hN  eo58) (qn_l 45 (by decide) hN) (by decide) (by decide) rfl wk_4_161 wk_4_163 ws_X0_takeNumber wk_1_6 wk_4_164 hd_X0_takeNumber ⟨(Nat.le_of_ble_eq_true rfl), (Nat.le_of_ble_eq_true rfl)⟩ (Nat.le_of_ble_eq_true rfl) ⟨(Nat.le_of_ble_eq_true rfl), (Nat.le_of_ble_eq_true rfl)⟩ dX0_readRight_155 rfl rfl ?_
        refine gq_istore (lv' := [(8, .int x59), (0, .ref (eB E + 45)), (1, .int x6), (2, .int x10), (4, .int x14), (5, .int x21), (6, .int x26), (7, .int x27)]) C dX0_readRight_158 (by decide) rfl ?_
        cases z57
        exact gq_widen (Nat.le_of_ble_eq_true rfl) (Nat.le_of_ble_eq_true rfl) (gq_sub [1, 2, 3, 4, 5, 6, 7, 0] rfl J160)
  · rcases ite_ex z29 with ⟨c31, z32⟩ | ⟨c31, z32⟩
    · refine gq_if_eq_t (tgt := 135) C dX0_readRight_100 (by decide) c31 ?_
      cases z32
      exact gq_widen (Nat.le_of_ble_eq_true rfl) (Nat.le_of_ble_eq_true rfl) (gq_sub [7, 6, 5, 3, 2, 1, 0] rfl J135)
    · refine gq_if_eq_f (tgt := 135) C dX0_readRight_100 (by decide) c31 ?_
      refine gq_aload_n C dX0_readRight_103 rfl 7 rfl ?_
      obtain ⟨m35, eo34, z33⟩ := bind_ex z32
      refine gq_V (As := []) (rest := []) (j := 3) C (c_X0_nextToken hN  eo34) (qn_l 45 (by decide) hN) (by decide) (by decide) rfl wk_4_125 wk_4_127 ws_X0_nextToken wk_1_6 wk_4_128 hd_X0_nextToken ⟨(Nat.le_of_ble_eq_true rfl), (Nat.le_of_ble_eq_true rfl)⟩ (Nat.le_of_ble_eq_true rfl) ⟨(Nat.le_of_ble_eq_true rfl), (Nat.le_of_ble_eq_true rfl)⟩ dX0_readRight_104 rfl rfl ?_
      refine gq_aload_n C dX0_readRight_107 rfl 7 rfl ?_
      refine gq_iconst (v := 0) C dX0_readRight_108 (by decide) ?_
      refine gq_bipush (v := 90) C dX0_readRight_109 (by decide) ?_
      obtain ⟨⟨x38, m39⟩, eo37, z36⟩ := bind_ex z33
      dsimp only at z36
      refine gq_V (As := [.int (0 : Int32), .int (90 : Int32)]) (rest := []) (j := 3) C (c_X0_takeNumber hN  eo37) (qn_l 45 (by decide) hN) (by decide) (by decide) rfl wk_4_161 wk_4_163 ws_X0_takeNumber wk_1_6 wk_4_164 hd_X0_takeNumber ⟨(Nat.le_of_ble_eq_true rfl), (Nat.le_of_ble_eq_true rfl)⟩ (Nat.le_of_ble_eq_true rfl) ⟨(Nat.le_of_ble_eq_true rfl), (Nat.le_of_ble_eq_true rfl)⟩ dX0_readRight_111 rfl rfl ?_
      refine gq_istore (lv' := [(6, .int x38), (7, .int x10), (5, .int x21), (4, .int x14), (3, .int (m11.1 45 6)), (2, .int x10), (1, .int x6), (0, .ref (eB E + 45))]) C dX0_readRight_114 (by decide) rfl ?_
      refine gq_aload_n C dX0_readRight_116 rfl 7 rfl ?_
      refine gq_iload_n C dX0_readRight_117 rfl 5 rfl ?_
      refine gq_aload_n C dX0_readRight_118 rfl 7 rfl ?_
      refine gq_get3 C (qn_l 45 (by decide) hN) (by decide) 1 (by decide) wk_2_237 rfl dX0_readRight_119 ?_
      refine gq_get1N C (qn_l 47 (by decide) hN) (by decide) 0 (by decide) wk_2_152 rfl dX0_readRight_122 ?_
      refine gq_get2N C (qn_l 48 (by decide) hN) (by decide) 2 (by decide) wk_2_140 rfl dX0_readRight_125 ?_
      refine gq_iconst (v := 1) C dX0_readRight_128 (by decide) ?_
      refine gq_isub C dX0_readRight_129 ?_
      obtain ⟨⟨x42, m43⟩, eo41, z40⟩ := bind_ex z36
      dsimp only at z40
      refine gq_V (As := [.int x10, .int ((m39.1 48 2) - (1 : Int32))]) (rest := []) (j := 3) C (c_X0_takeNumber hN  eo41) (qn_l 45 (by decide) hN) (by decide) (by decide) rfl wk_4_161 wk_4_163 ws_X0_takeNumber wk_1_6 wk_4_164 hd_X0_takeNumber ⟨(Nat.le_of_ble_eq_true rfl), (Nat.le_of_ble_eq_true rfl)⟩ (Nat.le_of_ble_eq_true rfl) ⟨(Nat.le_of_ble_eq_true rfl), (Nat.le_of_ble_eq_true rfl)⟩ dX0_readRight_130 rfl rfl ?_
      refine gq_istore (lv' := [(7, .int x42), (6, .int x38), (5, .int x21), (4, .int x14), (3, .int (m11.1 45 6)), (2, .int x10), (1, .int x6), (0, .ref (eB E + 45))]) C dX0_readRight_133 (by decide) rfl ?_
      cases z40
      exact gq_widen (Nat.le_of_ble_eq_true rfl) (Nat.le_of_ble_eq_true rfl) (gq_sub [7, 6, 5, 3, 2, 1, 0] rfl J135)
abbrev rm_X0_readLease : Room := { frames := 3, cells := 0, slots := 0, locals := 65 }
def F_X0_readLease  (μ : Mm) : Option Mm :=
  (F_X0_takeRowWord 59 (8 : Int32) μ).bind fun o2 =>
  (F_X0_takeNumber (0 : Int32) ((o2.1 55 2) - (1 : Int32)) o2).bind fun o5 =>
  (F_X0_takeNumber (0 : Int32) ((o5.2.1 52 2) - (1 : Int32)) o5.2).bind fun o9 =>
  (F_X0_takeNumber (0 : Int32) ((o9.2.1 48 2) - (1 : Int32)) o9.2).bind fun o13 =>
  (F_X0_takeNumber (1 : Int32) (999 : Int32) o13.2).bind fun o17 =>
  (F_X0_takeNumber (0 : Int32) (99 : Int32) o17.2).bind fun o21 =>
  (F_X0_takeNumber (1 : Int32) (36 : Int32) o21.2).bind fun o25 =>
  (F_X1_addLease 47 o5.1 o9.1 o13.1 o17.1 o21.1 o25.1 o25.2).bind fun o29 =>
  some o29.2
set_option maxHeartbeats 4000000 in
set_option maxRecDepth 100000 in
theorem c_X0_readLease {l : Launch} {E : Ev} (hN : 295 ≤ eN E) {μ : Mm} {μ' : Mm} (z0 : F_X0_readLease  μ = some μ') : Ct l E yX0_readLease (Cond.code yX0_readLease cX0_readLease 7 none :: GW) rm_X0_readLease [.ref (eB E + 45)] μ none μ' := by
  refine ct_of (by decide) (Nat.le_of_ble_eq_true rfl) (fun p e s m args below meth c C hr => ?_)
  have C : Cq E p s m args meth c cX0_readLease 7 RX0 := C
  refine gq_lv (lv' := [(0, .ref (eB E + 45))]) rfl ?_
  unfold F_X0_readLease at z0
  refine gq_aload_n C dX0_readLease_0 rfl 0 rfl ?_
  refine gq_aload_n C dX0_readLease_1 rfl 0 rfl ?_
  refine gq_get3 C (qn_l 45 (by decide) hN) (by decide) 1 (by decide) wk_2_237 rfl dX0_readLease_2 ?_
  refine gq_get1N C (qn_l 47 (by decide) hN) (by decide) 9 (by decide) wk_2_171 rfl dX0_readLease_5 ?_
  refine gq_bipush (v := 8) C dX0_readLease_8 (by decide) ?_
  obtain ⟨m3, eo2, z1⟩ := bind_ex z0
  refine gq_V (As := [.ref (eB E + 59), .int (8 : Int32)]) (rest := []) (j := 3) C (c_X0_takeRowWord hN (show kd 59 = 2 by decide) eo2) (qn_l 45 (by decide) hN) (by decide) (by decide) rfl wk_4_153 wk_4_155 ws_X0_takeRowWord wk_1_6 wk_4_156 hd_X0_takeRowWord ⟨(Nat.le_of_ble_eq_true rfl), (Nat.le_of_ble_eq_true rfl)⟩ (Nat.le_of_ble_eq_true rfl) ⟨(Nat.le_of_ble_eq_true rfl), (Nat.le_of_ble_eq_true rfl)⟩ dX0_readLease_10 rfl rfl ?_
  refine gq_aload_n C dX0_readLease_13 rfl 0 rfl ?_
  refine gq_iconst (v := 0) C dX0_readLease_14 (by decide) ?_
  refine gq_aload_n C dX0_readLease_15 rfl 0 rfl ?_
  refine gq_get3 C (qn_l 45 (by decide) hN) (by decide) 1 (by decide) wk_2_237 rfl dX0_readLease_16 ?_
  refine gq_get1N C (qn_l 47 (by decide) hN) (by decide) 6 (by decide) wk_2_166 rfl dX0_readLease_19 ?_
  refine gq_get2N C (qn_l 55 (by decide) hN) (by decide) 2 (by decide) wk_2_140 rfl dX0_readLease_22 ?_
  refine gq_iconst (v := 1) C dX0_readLease_25 (by decide) ?_
  refine gq_isub C dX0_readLease_26 ?_
  obtain ⟨⟨x6, m7⟩, eo5, z4⟩ := bind_ex z1
  dsimp only at z4
  refine gq_V (As := [.int (0 : Int32), .int ((m3.1 55 2) - (1 : Int32))]) (rest := []) (j := 3) C (c_X0_takeNumber hN  eo5) (qn_l 45 (by decide) hN) (by decide) (by decide) rfl wk_4_161 wk_4_163 ws_X0_takeNumber wk_1_6 wk_4_164 hd_X0_takeNumber ⟨(Nat.le_of_ble_eq_true rfl), (Nat.le_of_ble_eq_true rfl)⟩ (Nat.le_of_ble_eq_true rfl) ⟨(Nat.le_of_ble_eq_true rfl), (Nat.le_of_ble_eq_true rfl)⟩ dX0_readLease_27 rfl rfl ?_
  refine gq_istore_n (lv' := [(1, .int x6), (0, .ref (eB E + 45))]) C dX0_readLease_30 rfl (by decide) rfl ?_
  refine gq_aload_n C dX0_readLease_31 rfl 1 rfl ?_
  refine gq_iconst (v := 0) C dX0_readLease_32 (by decide) ?_
  refine gq_aload_n C dX0_readLease_33 rfl 1 rfl ?_
  refine gq_get3 C (qn_l 45 (by decide) hN) (by decide) 1 (by decide) wk_2_237 rfl dX0_readLease_34 ?_
  refine gq_get1N C (qn_l 47 (by decide) hN) (by decide) 4 (by decide) wk_2_162 rfl dX0_readLease_37 ?_
  refine gq_get2N C (qn_l 52 (by decide) hN) (by decide) 2 (by decide) wk_2_140 rfl dX0_readLease_40 ?_
  refine gq_iconst (v := 1) C dX0_readLease_43 (by decide) ?_
  refine gq_isub C dX0_readLease_44 ?_
  obtain ⟨⟨x10, m11⟩, eo9, z8⟩ := bind_ex z4
  dsimp only at z8
  refine gq_V (As := [.int (0 : Int32), .int ((m7.1 52 2) - (1 : Int32))]) (rest := []) (j := 3) C (c_X0_takeNumber hN  eo9) (qn_l 45 (by decide) hN) (by decide) (by decide) rfl wk_4_161 wk_4_163 ws_X0_takeNumber wk_1_6 wk_4_164 hd_X0_takeNumber ⟨(Nat.le_of_ble_eq_true rfl), (Nat.le_of_ble_eq_true rfl)⟩ (Nat.le_of_ble_eq_true rfl) ⟨(Nat.le_of_ble_eq_true rfl), (Nat.le_of_ble_eq_true rfl)⟩ dX0_readLease_45 rfl rfl ?_
  refine gq_istore_n (lv' := [(2, .int x10), (1, .int x6), (0, .ref (eB E + 45))]) C dX0_readLease_48 rfl (by decide) rfl ?_
  refine gq_aload_n C dX0_readLease_49 rfl 2 rfl ?_
  refine gq_iconst (v := 0) C dX0_readLease_50 (by decide) ?_
  refine gq_aload_n C dX0_readLease_51 rfl 2 rfl ?_
  refine gq_get3 C (qn_l 45 (by decide) hN) (by decide) 1 (by decide) wk_2_237 rfl dX0_readLease_52 ?_
  refine gq_get1N C (qn_l 47 (by decide) hN) (by decide) 0 (by decide) wk_2_152 rfl dX0_readLease_55 ?_
  refine gq_get2N C (qn_l 48 (by decide) hN) (by decide) 2 (by decide) wk_2_140 rfl dX0_readLease_58 ?_
  refine gq_iconst (v := 1) C dX0_readLease_61 (by decide) ?_
  refine gq_isub C dX0_readLease_62 ?_
  obtain ⟨⟨x14, m15⟩, eo13, z12⟩ := bind_ex z8
  dsimp only at z12
  refine gq_V (As := [.int (0 : Int32), .int ((m11.1 48 2) - (1 : Int32))]) (rest := []) (j := 3) C (c_X0_takeNumber hN  eo13) (qn_l 45 (by decide) hN) (by decide) (by decide) rfl wk_4_161 wk_4_163 ws_X0_takeNumber wk_1_6 wk_4_164 hd_X0_takeNumber ⟨(Nat.le_of_ble_eq_true rfl), (Nat.le_of_ble_eq_true rfl)⟩ (Nat.le_of_ble_eq_true rfl) ⟨(Nat.le_of_ble_eq_true rfl), (Nat.le_of_ble_eq_true rfl)⟩ dX0_readLease_63 rfl rfl ?_
  refine gq_istore_n (lv' := [(3, .int x14), (2, .int x10), (1, .int x6), (0, .ref (eB E + 45))]) C dX0_readLease_66 rfl (by decide) rfl ?_
  refine gq_aload_n C dX0_readLease_67 rfl 3 rfl ?_
  refine gq_iconst (v := 1) C dX0_readLease_68 (by decide) ?_
  refine gq_sipush (v := 999) C dX0_readLease_69 (by decide) ?_
  obtain ⟨⟨x18, m19⟩, eo17, z16⟩ := bind_ex z12
  dsimp only at z16
  refine gq_V (As := [.int (1 : Int32), .int (999 : Int32)]) (rest := []) (j := 3) C (c_X0_takeNumber hN  eo17) (qn_l 45 (by decide) hN) (by decide) (by decide) rfl wk_4_161 wk_4_163 ws_X0_takeNumber wk_1_6 wk_4_164 hd_X0_takeNumber ⟨(Nat.le_of_ble_eq_true rfl), (Nat.le_of_ble_eq_true rfl)⟩ (Nat.le_of_ble_eq_true rfl) ⟨(Nat.le_of_ble_eq_true rfl), (Nat.le_of_ble_eq_true rfl)⟩ dX0_readLease_72 rfl rfl ?_
  refine gq_istore (lv' := [(4, .int x18), (3, .int x14), (2, .int x10), (1, .int x6), (0, .ref (eB E + 45))]) C dX0_readLease_75 (by decide) rfl ?_
  refine gq_aload_n C dX0_readLease_77 rfl 4 rfl ?_
  refine gq_iconst (v := 0) C dX0_readLease_78 (by decide) ?_
  refine gq_bipush (v := 99) C dX0_readLease_79 (by decide) ?_
  obtain ⟨⟨x22, m23⟩, eo21, z20⟩ := bind_ex z16
  dsimp only at z20
  refine gq_V (As := [.int (0 : Int32), .int (99 : Int32)]) (rest := []) (j := 3) C (c_X0_takeNumber hN  eo21) (qn_l 45 (by decide) hN) (by decide) (by decide) rfl wk_4_161 wk_4_163 ws_X0_takeNumber wk_1_6 wk_4_164 hd_X0_takeNumber ⟨(Nat.le_of_ble_eq_true rfl), (Nat.le_of_ble_eq_true rfl)⟩ (Nat.le_of_ble_eq_true rfl) ⟨(Nat.le_of_ble_eq_true rfl), (Nat.le_of_ble_eq_true rfl)⟩ dX0_readLease_81 rfl rfl ?_
  refine gq_istore (lv' := [(5, .int x22), (4, .int x18), (3, .int x14), (2, .int x10), (1, .int x6), (0, .ref (eB E + 45))]) C dX0_readLease_84 (by decide) rfl ?_
  refine gq_aload_n C dX0_readLease_86 rfl 5 rfl ?_
  refine gq_iconst (v := 1) C dX0_readLease_87 (by decide) ?_
  refine gq_bipush (v := 36) C dX0_readLease_88 (by decide) ?_
  obtain ⟨⟨x26, m27⟩, eo25, z24⟩ := bind_ex z20
  dsimp only at z24
  refine gq_V (As := [.int (1 : Int32), .int (36 : Int32)]) (rest := []) (j := 3) C (c_X0_takeNumber hN  eo25) (qn_l 45 (by decide) hN) (by decide) (by decide) rfl wk_4_161 wk_4_163 ws_X0_takeNumber wk_1_6 wk_4_164 hd_X0_takeNumber ⟨(Nat.le_of_ble_eq_true rfl), (Nat.le_of_ble_eq_true rfl)⟩ (Nat.le_of_ble_eq_true rfl) ⟨(Nat.le_of_ble_eq_true rfl), (Nat.le_of_ble_eq_true rfl)⟩ dX0_readLease_90 rfl rfl ?_
  refine gq_istore (lv' := [(6, .int x26), (5, .int x22), (4, .int x18), (3, .int x14), (2, .int x10), (1, .int x6), (0, .ref (eB E + 45))]) C dX0_readLease_93 (by decide) rfl ?_
  refine gq_aload_n C dX0_readLease_95 rfl 6 rfl ?_
  refine gq_get3 C (qn_l 45 (by decide) hN) (by decide) 1 (by decide) wk_2_237 rfl dX0_readLease_96 ?_
  refine gq_iload_n C dX0_readLease_99 rfl 5 rfl ?_
  refine gq_iload_n C dX0_readLease_100 rfl 4 rfl ?_
  refine gq_iload_n C dX0_readLease_101 rfl 3 rfl ?_
  refine gq_iload C dX0_readLease_102 2 rfl ?_
  refine gq_iload C dX0_readLease_104 1 rfl ?_
  refine gq_iload C dX0_readLease_106 0 rfl ?_
  obtain ⟨⟨x30, m31⟩, eo29, z28⟩ := bind_ex z24
  dsimp only at z28
  refine gq_V (As := [.int x6, .int x10, .int x14, .int x18, .int x22, .int x26]) (rest := []) (j := 1) C (c_X1_addLease hN (show kd 47 = 1 by decide) eo29) (qn_l 47 (by decide) hN) (by decide) (by decide) rfl wk_4_201 wk_4_202 wk_4_203 wk_1_4 wk_4_204 hd_X1_addLease ⟨(Nat.le_of_ble_eq_true rfl), (Nat.le_of_ble_eq_true rfl)⟩ (Nat.le_of_ble_eq_true rfl) ⟨(Nat.le_of_ble_eq_true rfl), (Nat.le_of_ble_eq_true rfl)⟩ dX0_readLease_108 rfl rfl ?_
  refine gq_popi C dX0_readLease_111 ?_
  cases z28
  exact gq_vret C hr dX0_readLease_112 (Nat.le_of_ble_eq_true rfl) (Nat.le_of_ble_eq_true rfl)
abbrev rm_X0_readOption : Room := { frames := 3, cells := 0, slots := 0, locals := 65 }
def F_X0_readOption  (μ : Mm) : Option Mm :=
  (F_X0_takeRowWord 61 (6 : Int32) μ).bind fun o2 =>
  (F_X0_takeNumber (0 : Int32) ((o2.1 55 2) - (1 : Int32)) o2).bind fun o5 =>
  (F_X0_failIfTaken 61 (0 : Int32) o5.1 (o2.1 45 6) o5.2).bind fun o9 =>
  (F_X0_takeNumber (0 : Int32) ((o9.1 52 2) - (1 : Int32)) o9).bind fun o12 =>
  (F_X0_takeNumber (0 : Int32) ((o12.2.1 48 2) - (1 : Int32)) o12.2).bind fun o16 =>
  (F_X0_takeNumber (1 : Int32) (200 : Int32) o16.2).bind fun o20 =>
  (F_X0_takeNumber (0 : Int32) (999 : Int32) o20.2).bind fun o24 =>
  (F_X0_takeNumber (0 : Int32) (99 : Int32) o24.2).bind fun o28 =>
  (F_X2_addRow 61 o28.2).bind fun o32 =>
  (F_X2_put 61 o32.1 (0 : Int32) o5.1 o32.2).bind fun o36 =>
  (F_X2_put 61 o32.1 (1 : Int32) o12.1 o36).bind fun o39 =>
  (F_X2_put 61 o32.1 (2 : Int32) o16.1 o39).bind fun o42 =>
  (F_X2_put 61 o32.1 (3 : Int32) o20.1 o42).bind fun o45 =>
  (F_X2_put 61 o32.1 (4 : Int32) o24.1 o45).bind fun o48 =>
  (F_X2_put 61 o32.1 (5 : Int32) o28.1 o48).bind fun o51 =>
  some o51
set_option maxHeartbeats 4000000 in
set_option maxRecDepth 100000 in
theorem c_X0_readOption {l : Launch} {E : Ev} (hN : 295 ≤ eN E) {μ : Mm} {μ' : Mm} (z0 : F_X0_readOption  μ = some μ') : Ct l E yX0_readOption (Cond.code yX0_readOption cX0_readOption 9 none :: GW) rm_X0_readOption [.ref (eB E + 45)] μ none μ' := by
  refine ct_of (by decide) (Nat.le_of_ble_eq_true rfl) (fun p e s m args below meth c C hr => ?_)
  have C : Cq E p s m args meth c cX0_readOption 9 RX0 := C
  refine gq_lv (lv' := [(0, .ref (eB E + 45))]) rfl ?_
  unfold F_X0_readOption at z0
  refine gq_aload_n C dX0_readOption_0 rfl 0 rfl ?_
  refine gq_aload_n C dX0_readOption_1 rfl 0 rfl ?_
  refine gq_get3 C (qn_l 45 (by decide) hN) (by decide) 1 (by decide) wk_2_237 rfl dX0_readOption_2 ?_
  refine gq_get1N C (qn_l 47 (by decide) hN) (by decide) 10 (by decide) wk_2_174 rfl dX0_readOption_5 ?_
  refine gq_bipush (v := 6) C dX0_readOption_8 (by decide) ?_
  obtain ⟨m3, eo2, z1⟩ := bind_ex z0
  refine gq_V (As := [.ref (eB E + 61), .int (6 : Int32)]) (rest := []) (j := 3) C (c_X0_takeRowWord hN (show kd 61 = 2 by decide) eo2) (qn_l 45 (by decide) hN) (by decide) (by decide) rfl wk_4_153 wk_4_155 ws_X0_takeRowWord wk_1_6 wk_4_156 hd_X0_takeRowWord ⟨(Nat.le_of_ble_eq_true rfl), (Nat.le_of_ble_eq_true rfl)⟩ (Nat.le_of_ble_eq_true rfl) ⟨(Nat.le_of_ble_eq_true rfl), (Nat.le_of_ble_eq_true rfl)⟩ dX0_readOption_10 rfl rfl ?_
  refine gq_aload_n C dX0_readOption_13 rfl 0 rfl ?_
  refine gq_get3 C (qn_l 45 (by decide) hN) (by decide) 6 (by decide) wk_3_5 rfl dX0_readOption_14 ?_
  refine gq_istore_n (lv' := [(1, .int (m3.1 45 6)), (0, .ref (eB E + 45))]) C dX0_readOption_17 rfl (by decide) rfl ?_
  refine gq_aload_n C dX0_readOption_18 rfl 1 rfl ?_
  refine gq_iconst (v := 0) C dX0_readOption_19 (by decide) ?_
  refine gq_aload_n C dX0_readOption_20 rfl 1 rfl ?_
  refine gq_get3 C (qn_l 45 (by decide) hN) (by decide) 1 (by decide) wk_2_237 rfl dX0_readOption_21 ?_
  refine gq_get1N C (qn_l 47 (by decide) hN) (by decide) 6 (by decide) wk_2_166 rfl dX0_readOption_24 ?_
  refine gq_get2N C (qn_l 55 (by decide) hN) (by decide) 2 (by decide) wk_2_140 rfl dX0_readOption_27 ?_
  refine gq_iconst (v := 1) C dX0_readOption_30 (by decide) ?_
  refine gq_isub C dX0_readOption_31 ?_
  obtain ⟨⟨x6, m7⟩, eo5, z4⟩ := bind_ex z1
  dsimp only at z4
  refine gq_V (As := [.int (0 : Int32), .int ((m3.1 55 2) - (1 : Int32))]) (rest := []) (j := 3) C (c_X0_takeNumber hN  eo5) (qn_l 45 (by decide) hN) (by decide) (by decide) rfl wk_4_161 wk_4_163 ws_X0_takeNumber wk_1_6 wk_4_164 hd_X0_takeNumber ⟨(Nat.le_of_ble_eq_true rfl), (Nat.le_of_ble_eq_true rfl)⟩ (Nat.le_of_ble_eq_true rfl) ⟨(Nat.le_of_ble_eq_true rfl), (Nat.le_of_ble_eq_true rfl)⟩ dX0_readOption_32 rfl rfl ?_
  refine gq_istore_n (lv' := [(2, .int x6), (1, .int (m3.1 45 6)), (0, .ref (eB E + 45))]) C dX0_readOption_35 rfl (by decide) rfl ?_
  refine gq_aload_n C dX0_readOption_36 rfl 2 rfl ?_
  refine gq_aload_n C dX0_readOption_37 rfl 2 rfl ?_
  refine gq_get3 C (qn_l 45 (by decide) hN) (by decide) 1 (by decide) wk_2_237 rfl dX0_readOption_38 ?_
  refine gq_get1N C (qn_l 47 (by decide) hN) (by decide) 10 (by decide) wk_2_174 rfl dX0_readOption_41 ?_
  refine gq_iconst (v := 0) C dX0_readOption_44 (by decide) ?_
  refine gq_iload_n C dX0_readOption_45 rfl 0 rfl ?_
  refine gq_iload_n C dX0_readOption_46 rfl 1 rfl ?_
  obtain ⟨m10, eo9, z8⟩ := bind_ex z4
  refine gq_V (As := [.ref (eB E + 61), .int (0 : Int32), .int x6, .int (m3.1 45 6)]) (rest := []) (j := 3) C (c_X0_failIfTaken hN (show kd 61 = 2 by decide) eo9) (qn_l 45 (by decide) hN) (by decide) (by decide) rfl wk_4_189 wk_4_191 ws_X0_failIfTaken wk_1_6 wk_4_192 hd_X0_failIfTaken ⟨(Nat.le_of_ble_eq_true rfl), (Nat.le_of_ble_eq_true rfl)⟩ (Nat.le_of_ble_eq_true rfl) ⟨(Nat.le_of_ble_eq_true rfl), (Nat.le_of_ble_eq_true rfl)⟩ dX0_readOption_47 rfl rfl ?_
  refine gq_aload_n C dX0_readOption_50 rfl 2 rfl ?_
  refine gq_iconst (v := 0) C dX0_readOption_51 (by decide) ?_
  refine gq_aload_n C dX0_readOption_52 rfl 2 rfl ?_
  refine gq_get3 C (qn_l 45 (by decide) hN) (by decide) 1 (by decide) wk_2_237 rfl dX0_readOption_53 ?_
  refine gq_get1N C (qn_l 47 (by decide) hN) (by decide) 4 (by decide) wk_2_162 rfl dX0_readOption_56 ?_
  refine gq_get2N C (qn_l 52 (by decide) hN) (by decide) 2 (by decide) wk_2_140 rfl dX0_readOption_59 ?_
  refine gq_iconst (v := 1) C dX0_readOption_62 (by decide) ?_
  refine gq_isub C dX0_readOption_63 ?_
  obtain ⟨⟨x13, m14⟩, eo12, z11⟩ := bind_ex z8
  dsimp only at z11
  refine gq_V (As := [.int (0 : Int32), .int ((m10.1 52 2) - (1 : Int32))]) (rest := []) (j := 3) C (c_X0_takeNumber hN  eo12) (qn_l 45 (by decide) hN) (by decide) (by decide) rfl wk_4_161 wk_4_163 ws_X0_takeNumber wk_1_6 wk_4_164 hd_X0_takeNumber ⟨(Nat.le_of_ble_eq_true rfl), (Nat.le_of_ble_eq_true rfl)⟩ (Nat.le_of_ble_eq_true rfl) ⟨(Nat.le_of_ble_eq_true rfl), (Nat.le_of_ble_eq_true rfl)⟩ dX0_readOption_64 rfl rfl ?_
  refine gq_istore_n (lv' := [(3, .int x13), (2, .int x6), (1, .int (m3.1 45 6)), (0, .ref (eB E + 45))]) C dX0_readOption_67 rfl (by decide) rfl ?_
  refine gq_aload_n C dX0_readOption_68 rfl 3 rfl ?_
  refine gq_iconst (v := 0) C dX0_readOption_69 (by decide) ?_
  refine gq_aload_n C dX0_readOption_70 rfl 3 rfl ?_
  refine gq_get3 C (qn_l 45 (by decide) hN) (by decide) 1 (by decide) wk_2_237 rfl dX0_readOption_71 ?_
  refine gq_get1N C (qn_l 47 (by decide) hN) (by decide) 0 (by decide) wk_2_152 rfl dX0_readOption_74 ?_
  refine gq_get2N C (qn_l 48 (by decide) hN) (by decide) 2 (by decide) wk_2_140 rfl dX0_readOption_77 ?_
  refine gq_iconst (v := 1) C dX0_readOption_80 (by decide) ?_
  refine gq_isub C dX0_readOption_81 ?_
  obtain ⟨⟨x17, m18⟩, eo16, z15⟩ := bind_ex z11
  dsimp only at z15
  refine gq_V (As := [.int (0 : Int32), .int ((m14.1 48 2) - (1 : Int32))]) (rest := []) (j := 3) C (c_X0_takeNumber hN  eo16) (qn_l 45 (by decide) hN) (by decide) (by decide) rfl wk_4_161 wk_4_163 ws_X0_takeNumber wk_1_6 wk_4_164 hd_X0_takeNumber ⟨(Nat.le_of_ble_eq_true rfl), (Nat.le_of_ble_eq_true rfl)⟩ (Nat.le_of_ble_eq_true rfl) ⟨(Nat.le_of_ble_eq_true rfl), (Nat.le_of_ble_eq_true rfl)⟩ dX0_readOption_82 rfl rfl ?_
  refine gq_istore (lv' := [(4, .int x17), (3, .int x13), (2, .int x6), (1, .int (m3.1 45 6)), (0, .ref (eB E + 45))]) C dX0_readOption_85 (by decide) rfl ?_
  refine gq_aload_n C dX0_readOption_87 rfl 4 rfl ?_
  refine gq_iconst (v := 1) C dX0_readOption_88 (by decide) ?_
  refine gq_sipush (v := 200) C dX0_readOption_89 (by decide) ?_
  obtain ⟨⟨x21, m22⟩, eo20, z19⟩ := bind_ex z15
  dsimp only at z19
  refine gq_V (As := [.int (1 : Int32), .int (200 : Int32)]) (rest := []) (j := 3) C (c_X0_takeNumber hN  eo20) (qn_l 45 (by decide) hN) (by decide) (by decide) rfl wk_4_161 wk_4_163 ws_X0_takeNumber wk_1_6 wk_4_164 hd_X0_takeNumber ⟨(Nat.le_of_ble_eq_true rfl), (Nat.le_of_ble_eq_true rfl)⟩ (Nat.le_of_ble_eq_true rfl) ⟨(Nat.le_of_ble_eq_true rfl), (Nat.le_of_ble_eq_true rfl)⟩ dX0_readOption_92 rfl rfl ?_
  refine gq_istore (lv' := [(5, .int x21), (4, .int x17), (3, .int x13), (2, .int x6), (1, .int (m3.1 45 6)), (0, .ref (eB E + 45))]) C dX0_readOption_95 (by decide) rfl ?_
  refine gq_aload_n C dX0_readOption_97 rfl 5 rfl ?_
  refine gq_iconst (v := 0) C dX0_readOption_98 (by decide) ?_
  refine gq_sipush (v := 999) C dX0_readOption_99 (by decide) ?_
  obtain ⟨⟨x25, m26⟩, eo24, z23⟩ := bind_ex z19
  dsimp only at z23
  refine gq_V (As := [.int (0 : Int32), .int (999 : Int32)]) (rest := []) (j := 3) C (c_X0_takeNumber hN  eo24) (qn_l 45 (by decide) hN) (by decide) (by decide) rfl wk_4_161 wk_4_163 ws_X0_takeNumber wk_1_6 wk_4_164 hd_X0_takeNumber ⟨(Nat.le_of_ble_eq_true rfl), (Nat.le_of_ble_eq_true rfl)⟩ (Nat.le_of_ble_eq_true rfl) ⟨(Nat.le_of_ble_eq_true rfl), (Nat.le_of_ble_eq_true rfl)⟩ dX0_readOption_102 rfl rfl ?_
  refine gq_istore (lv' := [(6, .int x25), (5, .int x21), (4, .int x17), (3, .int x13), (2, .int x6), (1, .int (m3.1 45 6)), (0, .ref (eB E + 45))]) C dX0_readOption_105 (by decide) rfl ?_
  refine gq_aload_n C dX0_readOption_107 rfl 6 rfl ?_
  refine gq_iconst (v := 0) C dX0_readOption_108 (by decide) ?_
  refine gq_bipush (v := 99) C dX0_readOption_109 (by decide) ?_
  obtain ⟨⟨x29, m30⟩, eo28, z27⟩ := bind_ex z23
  dsimp only at z27
  refine gq_V (As := [.int (0 : Int32), .int (99 : Int32)]) (rest := []) (j := 3) C (c_X0_takeNumber hN  eo28) (qn_l 45 (by decide) hN) (by decide) (by decide) rfl wk_4_161 wk_4_163 ws_X0_takeNumber wk_1_6 wk_4_164 hd_X0_takeNumber ⟨(Nat.le_of_ble_eq_true rfl), (Nat.le_of_ble_eq_true rfl)⟩ (Nat.le_of_ble_eq_true rfl) ⟨(Nat.le_of_ble_eq_true rfl), (Nat.le_of_ble_eq_true rfl)⟩ dX0_readOption_111 rfl rfl ?_
  refine gq_istore (lv' := [(7, .int x29), (6, .int x25), (5, .int x21), (4, .int x17), (3, .int x13), (2, .int x6), (1, .int (m3.1 45 6)), (0, .ref (eB E + 45))]) C dX0_readOption_114 (by decide) rfl ?_
  refine gq_aload_n C dX0_readOption_116 rfl 7 rfl ?_
  refine gq_get3 C (qn_l 45 (by decide) hN) (by decide) 1 (by decide) wk_2_237 rfl dX0_readOption_117 ?_
  refine gq_get1N C (qn_l 47 (by decide) hN) (by decide) 10 (by decide) wk_2_174 rfl dX0_readOption_120 ?_
  obtain ⟨⟨x33, m34⟩, eo32, z31⟩ := bind_ex z27
  dsimp only at z31
  refine gq_V (As := []) (rest := []) (j := 2) C (c_X2_addRow hN (show kd 61 = 2 by decide) eo32) (qn_l 61 (by decide) hN) (by decide) (by decide) rfl wk_4_165 wk_2_7 wk_2_8 wk_1_5 wk_2_9 hd_X2_addRow ⟨(Nat.le_of_ble_eq_true rfl), (Nat.le_of_ble_eq_true rfl)⟩ (Nat.le_of_ble_eq_true rfl) ⟨(Nat.le_of_ble_eq_true rfl), (Nat.le_of_ble_eq_true rfl)⟩ dX0_readOption_123 rfl rfl ?_
  refine gq_istore (lv' := [(8, .int x33), (7, .int x29), (6, .int x25), (5, .int x21), (4, .int x17), (3, .int x13), (2, .int x6), (1, .int (m3.1 45 6)), (0, .ref (eB E + 45))]) C dX0_readOption_126 (by decide) rfl ?_
  refine gq_aload_n C dX0_readOption_128 rfl 8 rfl ?_
  refine gq_get3 C (qn_l 45 (by decide) hN) (by decide) 1 (by decide) wk_2_237 rfl dX0_readOption_129 ?_
  refine gq_get1N C (qn_l 47 (by decide) hN) (by decide) 10 (by decide) wk_2_174 rfl dX0_readOption_132 ?_
  refine gq_iload C dX0_readOption_135 0 rfl ?_
  refine gq_iconst (v := 0) C dX0_readOption_137 (by decide) ?_
  refine gq_iload_n C dX0_readOption_138 rfl 6 rfl ?_
  obtain ⟨m37, eo36, z35⟩ := bind_ex z31
  refine gq_V (As := [.int x33, .int (0 : Int32), .int x6]) (rest := []) (j := 2) C (c_X2_put hN (show kd 61 = 2 by decide) eo36) (qn_l 61 (by decide) hN) (by decide) (by decide) rfl wk_4_166 wk_2_11 wk_2_12 wk_1_5 wk_2_13 hd_X2_put ⟨(Nat.le_of_ble_eq_true rfl), (Nat.le_of_ble_eq_true rfl)⟩ (Nat.le_of_ble_eq_true rfl) ⟨(Nat.le_of_ble_eq_true rfl), (Nat.le_of_ble_eq_true rfl)⟩ dX0_readOption_139 rfl rfl ?_
  refine gq_aload_n C dX0_readOption_142 rfl 8 rfl ?_
  refine gq_get3 C (qn_l 45 (by decide) hN) (by decide) 1 (by decide) wk_2_237 rfl dX0_readOption_143 ?_
  refine gq_get1N C (qn_l 47 (by decide) hN) (by decide) 10 (by decide) wk_2_174 rfl dX0_readOption_146 ?_
  refine gq_iload C dX0_readOption_149 0 rfl ?_
  refine gq_iconst (v := 1) C dX0_readOption_151 (by decide) ?_
  refine gq_iload_n C dX0_readOption_152 rfl 5 rfl ?_
  obtain ⟨m40, eo39, z38⟩ := bind_ex z35
  refine gq_V (As := [.int x33, .int (1 : Int32), .int x13]) (rest := []) (j := 2) C (c_X2_put hN (show kd 61 = 2 by decide) eo39) (qn_l 61 (by decide) hN) (by decide) (by decide) rfl wk_4_166 wk_2_11 wk_2_12 wk_1_5 wk_2_13 hd_X2_put ⟨(Nat.le_of_ble_eq_true rfl), (Nat.le_of_ble_eq_true rfl)⟩ (Nat.le_of_ble_eq_true rfl) ⟨(Nat.le_of_ble_eq_true rfl), (Nat.le_of_ble_eq_true rfl)⟩ dX0_readOption_153 rfl rfl ?_
  refine gq_aload_n C dX0_readOption_156 rfl 8 rfl ?_
  refine gq_get3 C (qn_l 45 (by decide) hN) (by decide) 1 (by decide) wk_2_237 rfl dX0_readOption_157 ?_
  refine gq_get1N C (qn_l 47 (by decide) hN) (by decide) 10 (by decide) wk_2_174 rfl dX0_readOption_160 ?_
  refine gq_iload C dX0_readOption_163 0 rfl ?_
  refine gq_iconst (v := 2) C dX0_readOption_165 (by decide) ?_
  refine gq_iload C dX0_readOption_166 4 rfl ?_
  obtain ⟨m43, eo42, z41⟩ := bind_ex z38
  refine gq_V (As := [.int x33, .int (2 : Int32), .int x17]) (rest := []) (j := 2) C (c_X2_put hN (show kd 61 = 2 by decide) eo42) (qn_l 61 (by decide) hN) (by decide) (by decide) rfl wk_4_166 wk_2_11 wk_2_12 wk_1_5 wk_2_13 hd_X2_put ⟨(Nat.le_of_ble_eq_true rfl), (Nat.le_of_ble_eq_true rfl)⟩ (Nat.le_of_ble_eq_true rfl) ⟨(Nat.le_of_ble_eq_true rfl), (Nat.le_of_ble_eq_true rfl)⟩ dX0_readOption_168 rfl rfl ?_
  refine gq_aload_n C dX0_readOption_171 rfl 8 rfl ?_
  refine gq_get3 C (qn_l 45 (by decide) hN) (by decide) 1 (by decide) wk_2_237 rfl dX0_readOption_172 ?_
  refine gq_get1N C (qn_l 47 (by decide) hN) (by decide) 10 (by decide) wk_2_174 rfl dX0_readOption_175 ?_
  refine gq_iload C dX0_readOption_178 0 rfl ?_
  refine gq_iconst (v := 3) C dX0_readOption_180 (by decide) ?_
  refine gq_iload C dX0_readOption_181 3 rfl ?_
  obtain ⟨m46, eo45, z44⟩ := bind_ex z41
  refine gq_V (As := [.int x33, .int (3 : Int32), .int x21]) (rest := []) (j := 2) C (c_X2_put hN (show kd 61 = 2 by decide) eo45) (qn_l 61 (by decide) hN) (by decide) (by decide) rfl wk_4_166 wk_2_11 wk_2_12 wk_1_5 wk_2_13 hd_X2_put ⟨(Nat.le_of_ble_eq_true rfl), (Nat.le_of_ble_eq_true rfl)⟩ (Nat.le_of_ble_eq_true rfl) ⟨(Nat.le_of_ble_eq_true rfl), (Nat.le_of_ble_eq_true rfl)⟩ dX0_readOption_183 rfl rfl ?_
  refine gq_aload_n C dX0_readOption_186 rfl 8 rfl ?_
  refine gq_get3 C (qn_l 45 (by decide) hN) (by decide) 1 (by decide) wk_2_237 rfl dX0_readOption_187 ?_
  refine gq_get1N C (qn_l 47 (by decide) hN) (by decide) 10 (by decide) wk_2_174 rfl dX0_readOption_190 ?_
  refine gq_iload C dX0_readOption_193 0 rfl ?_
  refine gq_iconst (v := 4) C dX0_readOption_195 (by decide) ?_
  refine gq_iload C dX0_readOption_196 2 rfl ?_
  obtain ⟨m49, eo48, z47⟩ := bind_ex z44
  refine gq_V (As := [.int x33, .int (4 : Int32), .int x25]) (rest := []) (j := 2) C (c_X2_put hN (show kd 61 = 2 by decide) eo48) (qn_l 61 (by decide) hN) (by decide) (by decide) rfl wk_4_166 wk_2_11 wk_2_12 wk_1_5 wk_2_13 hd_X2_put ⟨(Nat.le_of_ble_eq_true rfl), (Nat.le_of_ble_eq_true rfl)⟩ (Nat.le_of_ble_eq_true rfl) ⟨(Nat.le_of_ble_eq_true rfl), (Nat.le_of_ble_eq_true rfl)⟩ dX0_readOption_198 rfl rfl ?_
  refine gq_aload_n C dX0_readOption_201 rfl 8 rfl ?_
  refine gq_get3 C (qn_l 45 (by decide) hN) (by decide) 1 (by decide) wk_2_237 rfl dX0_readOption_202 ?_
  refine gq_get1N C (qn_l 47 (by decide) hN) (by decide) 10 (by decide) wk_2_174 rfl dX0_readOption_205 ?_
  refine gq_iload C dX0_readOption_208 0 rfl ?_
  refine gq_iconst (v := 5) C dX0_readOption_210 (by decide) ?_
  refine gq_iload C dX0_readOption_211 1 rfl ?_
  obtain ⟨m52, eo51, z50⟩ := bind_ex z47
  refine gq_V (As := [.int x33, .int (5 : Int32), .int x29]) (rest := []) (j := 2) C (c_X2_put hN (show kd 61 = 2 by decide) eo51) (qn_l 61 (by decide) hN) (by decide) (by decide) rfl wk_4_166 wk_2_11 wk_2_12 wk_1_5 wk_2_13 hd_X2_put ⟨(Nat.le_of_ble_eq_true rfl), (Nat.le_of_ble_eq_true rfl)⟩ (Nat.le_of_ble_eq_true rfl) ⟨(Nat.le_of_ble_eq_true rfl), (Nat.le_of_ble_eq_true rfl)⟩ dX0_readOption_213 rfl rfl ?_
  cases z50
  exact gq_vret C hr dX0_readOption_216 (Nat.le_of_ble_eq_true rfl) (Nat.le_of_ble_eq_true rfl)
