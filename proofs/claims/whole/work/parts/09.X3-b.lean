abbrev rm_X3_nextExercise : Room := { frames := 2, cells := 0, slots := 0, locals := 44 }
def F_X3_nextExercise_10 (u1 : Int32) (μ : Mm) : Nat → Int32 → Option (Int32 ⊕ Unit)
  | 0, _ => none
  | n + 1, v2 =>
  if (μ.1 15 2) ≤ v2 then
  (some (.inr ()))
  else
  ((F_X1_isExercised 1 v2 ((μ.1 1 14) + u1) μ).bind fun o6 =>
  if o6 = 0 then
  (F_X3_nextExercise_10 u1 μ n (v2 + 1))
  else
  (some (.inl u1)))
def F_X3_nextExercise_2  (μ : Mm) : Nat → Int32 → Option Int32
  | 0, _ => none
  | n + 1, v1 =>
  if (60 : Int32) < v1 then
  (some (-1 : Int32))
  else
  ((F_X3_nextExercise_10 v1 μ qFuel (0 : Int32)).bind fun o11 => match o11 with
  | .inl r => some r
  | .inr _ =>
  (F_X3_nextExercise_2 μ n (v1 + 1)))
def F_X3_nextExercise  (μ : Mm) : Option Int32 :=
  F_X3_nextExercise_2 μ qFuel (0 : Int32)
set_option maxHeartbeats 4000000 in
set_option maxRecDepth 100000 in
theorem l_X3_nextExercise_10 {l : Launch} {E : Ev} (hN : 295 ≤ eN E) {p : Program} {e : Env} {s : State} {m : MethodId} {args : Array Value} {below : List Frame} {meth : Method} {c : Code} (C : Cq E p s m args meth c cX3_nextExercise 3 RX3) (hr : meth.sig.returnType = (some .int)) {Q : State → Prop} {u1 : Int32} {μ : Mm} : ∀ (n : Nat) (v2 : Int32) (w : (Int32 ⊕ Unit)), F_X3_nextExercise_10 u1 μ n v2 = some w → (∀ r, w = .inl r → Q = (MQ below (qQ E (some (.int r)) μ) args s rm_X3_nextExercise.cells rm_X3_nextExercise.slots (eA E))) → (∀ u, w = .inr u → Gq E p l e rm_X3_nextExercise s m args below meth c 0 0 3 Q 52 [(0, .ref (eB E + 0)), (1, .int u1)] [] μ) → Gq E p l e rm_X3_nextExercise s m args below meth c 0 0 3 Q 10 [(0, .ref (eB E + 0)), (1, .int u1), (2, .int v2)] [] μ := by
  intro n
  induction n with
  | zero =>
    intro v2 w z0 hq1 kk
    rw [F_X3_nextExercise_10] at z0
    cases z0
  | succ n ih =>
    intro v2 w z0 hq1 kk
    rw [F_X3_nextExercise_10] at z0
    refine gq_iload_n C dX3_nextExercise_10 rfl 2 rfl ?_
    refine gq_aload_n C dX3_nextExercise_11 rfl 0 rfl ?_
    refine gq_get0 C (qn_l 0 (by decide) hN) (by decide) 0 (by decide) wk_1_227 rfl dX3_nextExercise_12 ?_
    refine gq_get1N C (qn_l 1 (by decide) hN) (by decide) 10 (by decide) wk_1_84 rfl dX3_nextExercise_15 ?_
    refine gq_get2N C (qn_l 15 (by decide) hN) (by decide) 2 (by decide) wk_1_50 rfl dX3_nextExercise_18 ?_
    rcases ite_ex z0 with ⟨c3, z4⟩ | ⟨c3, z4⟩
    · refine gq_icmp_ge_t (tgt := 52) C dX3_nextExercise_21 (by decide) c3 ?_
      exact gq_widen (Nat.le_of_ble_eq_true rfl) (Nat.le_of_ble_eq_true rfl) (gq_sub [0, 1] rfl (kk _ (Option.some.inj z4).symm))
    · refine gq_icmp_ge_f (tgt := 52) C dX3_nextExercise_21 (by decide) c3 ?_
      refine gq_aload_n C dX3_nextExercise_24 rfl 0 rfl ?_
      refine gq_get0 C (qn_l 0 (by decide) hN) (by decide) 0 (by decide) wk_1_227 rfl dX3_nextExercise_25 ?_
      refine gq_iload_n C dX3_nextExercise_28 rfl 2 rfl ?_
      refine gq_aload_n C dX3_nextExercise_29 rfl 0 rfl ?_
      refine gq_get0 C (qn_l 0 (by decide) hN) (by decide) 0 (by decide) wk_1_227 rfl dX3_nextExercise_30 ?_
      refine gq_get1N C (qn_l 1 (by decide) hN) (by decide) 14 (by decide) wk_1_93 rfl dX3_nextExercise_33 ?_
      refine gq_iload_n C dX3_nextExercise_36 rfl 1 rfl ?_
      refine gq_iadd C dX3_nextExercise_37 ?_
      obtain ⟨x7, eo6, z5⟩ := bind_ex z4
      refine gq_V (As := [.int v2, .int ((μ.1 1 14) + u1)]) (rest := []) (j := 1) C (c_X1_isExercised hN (show kd 1 = 1 by decide) eo6) (qn_l 1 (by decide) hN) (by decide) (by decide) rfl wk_2_121 wk_2_122 wk_2_123 wk_1_2 wk_2_124 hd_X1_isExercised ⟨(Nat.le_of_ble_eq_true rfl), (Nat.le_of_ble_eq_true rfl)⟩ (Nat.le_of_ble_eq_true rfl) ⟨(Nat.le_of_ble_eq_true rfl), (Nat.le_of_ble_eq_true rfl)⟩ dX3_nextExercise_38 rfl rfl ?_
      rcases ite_ex z5 with ⟨c8, z9⟩ | ⟨c8, z9⟩
      · refine gq_if_eq_t (tgt := 46) C dX3_nextExercise_41 (by decide) c8 ?_
        refine gq_iinc (v := (v2 + 1)) (lv' := [(2, .int (v2 + 1)), (0, .ref (eB E + 0)), (1, .int u1)]) (q := 2) C dX3_nextExercise_46 rfl rfl (by decide) rfl ?_
        refine gq_goto (tgt := 10) C dX3_nextExercise_49 (by decide) ?_
        refine gq_widen (k' := 0) (n' := 0) (Nat.le_of_ble_eq_true rfl) (Nat.le_of_ble_eq_true rfl) (gq_sub [1, 2, 0] rfl ?_)
        exact ih _ _ z9 hq1 kk
      · refine gq_if_eq_f (tgt := 46) C dX3_nextExercise_41 (by decide) c8 ?_
        refine gq_iload_n C dX3_nextExercise_44 rfl 1 rfl ?_
        have hQ := hq1 _ (Option.some.inj z9).symm
        rw [hQ]
        exact gq_iret C hr dX3_nextExercise_45 (Nat.le_of_ble_eq_true rfl) (Nat.le_of_ble_eq_true rfl)
set_option maxHeartbeats 4000000 in
set_option maxRecDepth 100000 in
theorem l_X3_nextExercise_2 {l : Launch} {E : Ev} (hN : 295 ≤ eN E) {p : Program} {e : Env} {s : State} {m : MethodId} {args : Array Value} {below : List Frame} {meth : Method} {c : Code} (C : Cq E p s m args meth c cX3_nextExercise 3 RX3) (hr : meth.sig.returnType = (some .int)) {μ : Mm} : ∀ (n : Nat) (v1 : Int32) (r : Int32), F_X3_nextExercise_2 μ n v1 = some r → Gq E p l e rm_X3_nextExercise s m args below meth c 0 0 3 (MQ below (qQ E (some (.int r)) μ) args s rm_X3_nextExercise.cells rm_X3_nextExercise.slots (eA E)) 2 [(0, .ref (eB E + 0)), (1, .int v1)] [] μ := by
  intro n
  induction n with
  | zero =>
    intro v1 r z0
    rw [F_X3_nextExercise_2] at z0
    cases z0
  | succ n ih =>
    intro v1 r z0
    rw [F_X3_nextExercise_2] at z0
    refine gq_iload_n C dX3_nextExercise_2 rfl 1 rfl ?_
    refine gq_bipush (v := 60) C dX3_nextExercise_3 (by decide) ?_
    rcases ite_ex z0 with ⟨c1, z2⟩ | ⟨c1, z2⟩
    · refine gq_icmp_gt_t (tgt := 58) C dX3_nextExercise_5 (by decide) c1 ?_
      refine gq_iconst (v := -1) C dX3_nextExercise_58 (by decide) ?_
      cases z2
      exact gq_iret C hr dX3_nextExercise_59 (Nat.le_of_ble_eq_true rfl) (Nat.le_of_ble_eq_true rfl)
    · refine gq_icmp_gt_f (tgt := 58) C dX3_nextExercise_5 (by decide) c1 ?_
      refine gq_iconst (v := 0) C dX3_nextExercise_8 (by decide) ?_
      refine gq_istore_n (lv' := [(2, .int (0 : Int32)), (0, .ref (eB E + 0)), (1, .int v1)]) C dX3_nextExercise_9 rfl (by decide) rfl ?_
      obtain ⟨o11, eo11, z10⟩ := bind_ex z2
      refine gq_widen (k' := 0) (n' := 0) (Nat.le_of_ble_eq_true rfl) (Nat.le_of_ble_eq_true rfl) (gq_sub [1, 2, 0] rfl ?_)
      refine l_X3_nextExercise_10 hN C hr  qFuel _ o11 eo11 (fun r9 h9 => ?_) (fun u9 h9 => ?_)
      · subst h9
        cases z10
        rfl
      · subst h9
        dsimp only at z10
        refine gq_iinc (v := (v1 + 1)) (lv' := [(1, .int (v1 + 1)), (0, .ref (eB E + 0))]) (q := 1) C dX3_nextExercise_52 rfl rfl (by decide) rfl ?_
        refine gq_goto (tgt := 2) C dX3_nextExercise_55 (by decide) ?_
        refine gq_widen (k' := 0) (n' := 0) (Nat.le_of_ble_eq_true rfl) (Nat.le_of_ble_eq_true rfl) (gq_sub [1, 0] rfl ?_)
        exact ih _ _ z10
set_option maxHeartbeats 4000000 in
set_option maxRecDepth 100000 in
theorem c_X3_nextExercise {l : Launch} {E : Ev} (hN : 295 ≤ eN E) {μ : Mm} {r : Int32} (z0 : F_X3_nextExercise  μ = some r) : Ct l E yX3_nextExercise (Cond.code yX3_nextExercise cX3_nextExercise 3 (some .int) :: GW) rm_X3_nextExercise [.ref (eB E + 0)] μ (some (.int r)) μ := by
  refine ct_of (by decide) (Nat.le_of_ble_eq_true rfl) (fun p e s m args below meth c C hr => ?_)
  have C : Cq E p s m args meth c cX3_nextExercise 3 RX3 := C
  refine gq_lv (lv' := [(0, .ref (eB E + 0))]) rfl ?_
  unfold F_X3_nextExercise at z0
  refine gq_iconst (v := 0) C dX3_nextExercise_0 (by decide) ?_
  refine gq_istore_n (lv' := [(1, .int (0 : Int32)), (0, .ref (eB E + 0))]) C dX3_nextExercise_1 rfl (by decide) rfl ?_
  refine gq_widen (k' := 0) (n' := 0) (Nat.le_of_ble_eq_true rfl) (Nat.le_of_ble_eq_true rfl) (gq_sub [1, 0] rfl ?_)
  exact l_X3_nextExercise_2 hN C hr  qFuel _ _ z0
abbrev rm_X3_free : Room := { frames := 7, cells := 1, slots := 6, locals := 111 }
def F_X3_free (p1 : Int32) (μ : Mm) : Option (Nat × Int32 × Mm) :=
  (F_X3_needRow 2 p1 μ).bind fun o2 =>
  if o2 = 0 then ((F_X1_copyFrom 23 1 μ).bind fun o7 =>
  (F_X1_openGauges 23 o7).bind fun o10 =>
  (F_X1_leastSpare 23 p1 (o10.1 41 2) (999 : Int32) o10).bind fun o13 =>
  some (0, o13, o10))
  else some (o2, 0, μ)
set_option maxHeartbeats 4000000 in
set_option maxRecDepth 100000 in
theorem c_X3_free {l : Launch} {E : Ev} (hN : 295 ≤ eN E) (hl9 : l.stackTraces = false) {p1 : Int32} {μ : Mm} {ec : Nat} {r : Int32} {μ' : Mm} (z0 : F_X3_free p1 μ = some (ec, r, μ')) : Cx l E yX3_free (Cond.code yX3_free cX3_free 2 (some .int) :: GW) rm_X3_free [.ref (eB E + 0), .int p1] μ ec (some (.int r)) μ' := by
  refine cx_of (by decide) (Nat.le_of_ble_eq_true rfl) (fun p e s m args below meth c C hr hout => ?_)
  have C : Cq E p s m args meth c cX3_free 2 RX3 := C
  refine gq_lv (lv' := [(0, .ref (eB E + 0)), (1, .int p1)]) rfl ?_
  unfold F_X3_free at z0
  refine gq_aload_n C dX3_free_0 rfl 0 rfl ?_
  refine gq_get0 C (qn_l 0 (by decide) hN) (by decide) 0 (by decide) wk_1_227 rfl dX3_free_1 ?_
  refine gq_get1N C (qn_l 1 (by decide) hN) (by decide) 0 (by decide) wk_1_62 rfl dX3_free_4 ?_
  refine gq_iload_n C dX3_free_7 rfl 1 rfl ?_
  obtain ⟨x3, eo2, z1⟩ := bind_ex z0
  rcases ite_ex z1 with ⟨c4, z5⟩ | ⟨c4, z5⟩
  · refine gx_S (As := [.ref (eB E + 2), .int p1]) (rest := []) C (μF := μ) (oF := none) (mcF := 1000000) (msF := 1000000) (Or.inr c4) (fun h9 => absurd c4 h9) hout (Nat.le_of_ble_eq_true rfl) (Nat.le_of_ble_eq_true rfl) (c_X3_needRow hN hl9 (show kd 2 = 2 by decide) eo2) wk_5_0 wk_5_1 wk_1_1 wk_5_2 hd_X3_needRow ⟨(Nat.le_of_ble_eq_true rfl), (Nat.le_of_ble_eq_true rfl)⟩ (Nat.le_of_ble_eq_true rfl) ⟨(Nat.le_of_ble_eq_true rfl), (Nat.le_of_ble_eq_true rfl)⟩ dX3_free_8 rfl rfl (fun _ => ?_)
    refine gq_aload_n C dX3_free_11 rfl 0 rfl ?_
    refine gq_get0 C (qn_l 0 (by decide) hN) (by decide) 1 (by decide) wk_1_228 rfl dX3_free_12 ?_
    refine gq_aload_n C dX3_free_15 rfl 0 rfl ?_
    refine gq_get0 C (qn_l 0 (by decide) hN) (by decide) 0 (by decide) wk_1_227 rfl dX3_free_16 ?_
    obtain ⟨m8, eo7, z6⟩ := bind_ex z5
    refine gq_V (As := [.ref (eB E + 1)]) (rest := []) (j := 1) C (c_X1_copyFrom hN (show kd 23 = 1 by decide) (show kd 1 = 1 by decide) eo7) (qn_l 23 (by decide) hN) (by decide) (by decide) rfl wk_2_133 wk_2_134 wk_2_135 wk_1_2 wk_2_136 hd_X1_copyFrom ⟨(Nat.le_of_ble_eq_true rfl), (Nat.le_of_ble_eq_true rfl)⟩ (Nat.le_of_ble_eq_true rfl) ⟨(Nat.le_of_ble_eq_true rfl), (Nat.le_of_ble_eq_true rfl)⟩ dX3_free_19 rfl rfl ?_
    refine gq_aload_n C dX3_free_22 rfl 0 rfl ?_
    refine gq_get0 C (qn_l 0 (by decide) hN) (by decide) 1 (by decide) wk_1_228 rfl dX3_free_23 ?_
    obtain ⟨m11, eo10, z9⟩ := bind_ex z6
    refine gq_V (As := []) (rest := []) (j := 1) C (c_X1_openGauges hN (show kd 23 = 1 by decide) eo10) (qn_l 23 (by decide) hN) (by decide) (by decide) rfl wk_6_20 wk_5_123 wk_5_124 wk_1_2 wk_5_125 hd_X1_openGauges ⟨(Nat.le_of_ble_eq_true rfl), (Nat.le_of_ble_eq_true rfl)⟩ (Nat.le_of_ble_eq_true rfl) ⟨(Nat.le_of_ble_eq_true rfl), (Nat.le_of_ble_eq_true rfl)⟩ dX3_free_26 rfl rfl ?_
    refine gq_aload_n C dX3_free_29 rfl 0 rfl ?_
    refine gq_get0 C (qn_l 0 (by decide) hN) (by decide) 1 (by decide) wk_1_228 rfl dX3_free_30 ?_
    refine gq_iload_n C dX3_free_33 rfl 1 rfl ?_
    refine gq_aload_n C dX3_free_34 rfl 0 rfl ?_
    refine gq_get0 C (qn_l 0 (by decide) hN) (by decide) 1 (by decide) wk_1_228 rfl dX3_free_35 ?_
    refine gq_get1N C (qn_l 23 (by decide) hN) (by decide) 12 (by decide) wk_1_89 rfl dX3_free_38 ?_
    refine gq_get2N C (qn_l 41 (by decide) hN) (by decide) 2 (by decide) wk_1_50 rfl dX3_free_41 ?_
    refine gq_sipush (v := 999) C dX3_free_44 (by decide) ?_
    obtain ⟨x14, eo13, z12⟩ := bind_ex z9
    refine gq_V (As := [.int p1, .int (m11.1 41 2), .int (999 : Int32)]) (rest := []) (j := 1) C (c_X1_leastSpare hN (show kd 23 = 1 by decide) eo13) (qn_l 23 (by decide) hN) (by decide) (by decide) rfl wk_6_21 wk_5_149 wk_5_150 wk_1_2 wk_5_151 hd_X1_leastSpare ⟨(Nat.le_of_ble_eq_true rfl), (Nat.le_of_ble_eq_true rfl)⟩ (Nat.le_of_ble_eq_true rfl) ⟨(Nat.le_of_ble_eq_true rfl), (Nat.le_of_ble_eq_true rfl)⟩ dX3_free_47 rfl rfl ?_
    cases z12
    exact gx_ret (gq_iret C hr dX3_free_50 (Nat.le_of_ble_eq_true rfl) (Nat.le_of_ble_eq_true rfl))
  · cases z5
    refine gx_S (As := [.ref (eB E + 2), .int p1]) (rest := []) C (Or.inl rfl) (fun _ => rfl) hout (Nat.le_of_ble_eq_true rfl) (Nat.le_of_ble_eq_true rfl) (c_X3_needRow hN hl9 (show kd 2 = 2 by decide) eo2) wk_5_0 wk_5_1 wk_1_1 wk_5_2 hd_X3_needRow ⟨(Nat.le_of_ble_eq_true rfl), (Nat.le_of_ble_eq_true rfl)⟩ (Nat.le_of_ble_eq_true rfl) ⟨(Nat.le_of_ble_eq_true rfl), (Nat.le_of_ble_eq_true rfl)⟩ dX3_free_8 rfl rfl (fun h9 => absurd h9 c4)
abbrev rm_X3_gotByOneLease : Room := { frames := 6, cells := 0, slots := 0, locals := 149 }
def F_X3_gotByOneLease (p1 : Int32) (p2 : Int32) (μ : Mm) : Option (Int32 × Mm) :=
  (F_X1_copyFrom 23 1 μ).bind fun o2 =>
  (F_X2_removeRowsWith 35 (0 : Int32) p1 o2).bind fun o5 =>
  (F_X2_removeRowsWith 37 (0 : Int32) p1 o5).bind fun o8 =>
  (F_X2_get 9 p1 (3 : Int32) o8).bind fun o11 =>
  (F_X1_addLease 23 p1 (0 : Int32) p2 o11 (0 : Int32) (1 : Int32) o8).bind fun o14 =>
  (F_X1_runMonth 23 (-1 : Int32) o14.2).bind fun o18 =>
  (F_X2_get 31 p1 (7 : Int32) o18.2).bind fun o22 =>
  (F_X2_get 9 p1 (7 : Int32) o18.2).bind fun o25 =>
  some ((o22 - o25), o18.2)
set_option maxHeartbeats 4000000 in
set_option maxRecDepth 100000 in
theorem c_X3_gotByOneLease {l : Launch} {E : Ev} (hN : 295 ≤ eN E) {p1 : Int32} {p2 : Int32} {μ : Mm} {r : Int32} {μ' : Mm} (z0 : F_X3_gotByOneLease p1 p2 μ = some (r, μ')) : Ct l E yX3_gotByOneLease (Cond.code yX3_gotByOneLease cX3_gotByOneLease 3 (some .int) :: GW) rm_X3_gotByOneLease [.ref (eB E + 0), .int p1, .int p2] μ (some (.int r)) μ' := by
  refine ct_of (by decide) (Nat.le_of_ble_eq_true rfl) (fun p e s m args below meth c C hr => ?_)
  have C : Cq E p s m args meth c cX3_gotByOneLease 3 RX3 := C
  refine gq_lv (lv' := [(0, .ref (eB E + 0)), (1, .int p1), (2, .int p2)]) rfl ?_
  unfold F_X3_gotByOneLease at z0
  refine gq_aload_n C dX3_gotByOneLease_0 rfl 0 rfl ?_
  refine gq_get0 C (qn_l 0 (by decide) hN) (by decide) 1 (by decide) wk_1_228 rfl dX3_gotByOneLease_1 ?_
  refine gq_aload_n C dX3_gotByOneLease_4 rfl 0 rfl ?_
  refine gq_get0 C (qn_l 0 (by decide) hN) (by decide) 0 (by decide) wk_1_227 rfl dX3_gotByOneLease_5 ?_
  obtain ⟨m3, eo2, z1⟩ := bind_ex z0
  refine gq_V (As := [.ref (eB E + 1)]) (rest := []) (j := 1) C (c_X1_copyFrom hN (show kd 23 = 1 by decide) (show kd 1 = 1 by decide) eo2) (qn_l 23 (by decide) hN) (by decide) (by decide) rfl wk_2_133 wk_2_134 wk_2_135 wk_1_2 wk_2_136 hd_X1_copyFrom ⟨(Nat.le_of_ble_eq_true rfl), (Nat.le_of_ble_eq_true rfl)⟩ (Nat.le_of_ble_eq_true rfl) ⟨(Nat.le_of_ble_eq_true rfl), (Nat.le_of_ble_eq_true rfl)⟩ dX3_gotByOneLease_8 rfl rfl ?_
  refine gq_aload_n C dX3_gotByOneLease_11 rfl 0 rfl ?_
  refine gq_get0 C (qn_l 0 (by decide) hN) (by decide) 1 (by decide) wk_1_228 rfl dX3_gotByOneLease_12 ?_
  refine gq_get1N C (qn_l 23 (by decide) hN) (by decide) 9 (by decide) wk_1_81 rfl dX3_gotByOneLease_15 ?_
  refine gq_iconst (v := 0) C dX3_gotByOneLease_18 (by decide) ?_
  refine gq_iload_n C dX3_gotByOneLease_19 rfl 1 rfl ?_
  obtain ⟨m6, eo5, z4⟩ := bind_ex z1
  refine gq_V (As := [.int (0 : Int32), .int p1]) (rest := []) (j := 2) C (c_X2_removeRowsWith hN (show kd 35 = 2 by decide) eo5) (qn_l 35 (by decide) hN) (by decide) (by decide) rfl wk_6_33 wk_6_34 wk_6_35 wk_1_3 wk_6_36 hd_X2_removeRowsWith ⟨(Nat.le_of_ble_eq_true rfl), (Nat.le_of_ble_eq_true rfl)⟩ (Nat.le_of_ble_eq_true rfl) ⟨(Nat.le_of_ble_eq_true rfl), (Nat.le_of_ble_eq_true rfl)⟩ dX3_gotByOneLease_20 rfl rfl ?_
  refine gq_aload_n C dX3_gotByOneLease_23 rfl 0 rfl ?_
  refine gq_get0 C (qn_l 0 (by decide) hN) (by decide) 1 (by decide) wk_1_228 rfl dX3_gotByOneLease_24 ?_
  refine gq_get1N C (qn_l 23 (by decide) hN) (by decide) 10 (by decide) wk_1_84 rfl dX3_gotByOneLease_27 ?_
  refine gq_iconst (v := 0) C dX3_gotByOneLease_30 (by decide) ?_
  refine gq_iload_n C dX3_gotByOneLease_31 rfl 1 rfl ?_
  obtain ⟨m9, eo8, z7⟩ := bind_ex z4
  refine gq_V (As := [.int (0 : Int32), .int p1]) (rest := []) (j := 2) C (c_X2_removeRowsWith hN (show kd 37 = 2 by decide) eo8) (qn_l 37 (by decide) hN) (by decide) (by decide) rfl wk_6_33 wk_6_34 wk_6_35 wk_1_3 wk_6_36 hd_X2_removeRowsWith ⟨(Nat.le_of_ble_eq_true rfl), (Nat.le_of_ble_eq_true rfl)⟩ (Nat.le_of_ble_eq_true rfl) ⟨(Nat.le_of_ble_eq_true rfl), (Nat.le_of_ble_eq_true rfl)⟩ dX3_gotByOneLease_32 rfl rfl ?_
  refine gq_aload_n C dX3_gotByOneLease_35 rfl 0 rfl ?_
  refine gq_get0 C (qn_l 0 (by decide) hN) (by decide) 1 (by decide) wk_1_228 rfl dX3_gotByOneLease_36 ?_
  refine gq_iload_n C dX3_gotByOneLease_39 rfl 1 rfl ?_
  refine gq_iconst (v := 0) C dX3_gotByOneLease_40 (by decide) ?_
  refine gq_iload_n C dX3_gotByOneLease_41 rfl 2 rfl ?_
  refine gq_aload_n C dX3_gotByOneLease_42 rfl 0 rfl ?_
  refine gq_get0 C (qn_l 0 (by decide) hN) (by decide) 0 (by decide) wk_1_227 rfl dX3_gotByOneLease_43 ?_
  refine gq_get1N C (qn_l 1 (by decide) hN) (by decide) 6 (by decide) wk_1_76 rfl dX3_gotByOneLease_46 ?_
  refine gq_iload_n C dX3_gotByOneLease_49 rfl 1 rfl ?_
  refine gq_iconst (v := 3) C dX3_gotByOneLease_50 (by decide) ?_
  obtain ⟨x12, eo11, z10⟩ := bind_ex z7
  refine gq_V (As := [.int p1, .int (3 : Int32)]) (rest := [.int p2, .int (0 : Int32), .int p1, .ref (eB E + 23)]) (j := 2) C (c_X2_get hN (show kd 9 = 2 by decide) eo11) (qn_l 9 (by decide) hN) (by decide) (by decide) rfl wk_2_67 wk_2_60 wk_2_61 wk_1_3 wk_2_62 hd_X2_get ⟨(Nat.le_of_ble_eq_true rfl), (Nat.le_of_ble_eq_true rfl)⟩ (Nat.le_of_ble_eq_true rfl) ⟨(Nat.le_of_ble_eq_true rfl), (Nat.le_of_ble_eq_true rfl)⟩ dX3_gotByOneLease_51 rfl rfl ?_
  refine gq_iconst (v := 0) C dX3_gotByOneLease_54 (by decide) ?_
  refine gq_iconst (v := 1) C dX3_gotByOneLease_55 (by decide) ?_
  obtain ⟨⟨x15, m16⟩, eo14, z13⟩ := bind_ex z10
  dsimp only at z13
  refine gq_V (As := [.int p1, .int (0 : Int32), .int p2, .int x12, .int (0 : Int32), .int (1 : Int32)]) (rest := []) (j := 1) C (c_X1_addLease hN (show kd 23 = 1 by decide) eo14) (qn_l 23 (by decide) hN) (by decide) (by decide) rfl wk_6_38 wk_4_168 wk_4_169 wk_1_2 wk_4_170 hd_X1_addLease ⟨(Nat.le_of_ble_eq_true rfl), (Nat.le_of_ble_eq_true rfl)⟩ (Nat.le_of_ble_eq_true rfl) ⟨(Nat.le_of_ble_eq_true rfl), (Nat.le_of_ble_eq_true rfl)⟩ dX3_gotByOneLease_56 rfl rfl ?_
  refine gq_popi C dX3_gotByOneLease_59 ?_
  refine gq_aload_n C dX3_gotByOneLease_60 rfl 0 rfl ?_
  refine gq_get0 C (qn_l 0 (by decide) hN) (by decide) 1 (by decide) wk_1_228 rfl dX3_gotByOneLease_61 ?_
  refine gq_iconst (v := -1) C dX3_gotByOneLease_64 (by decide) ?_
  obtain ⟨⟨x19, m20⟩, eo18, z17⟩ := bind_ex z13
  dsimp only at z17
  refine gq_V (As := [.int (-1 : Int32)]) (rest := []) (j := 1) C (c_X1_runMonth hN (show kd 23 = 1 by decide) eo18) (qn_l 23 (by decide) hN) (by decide) (by decide) rfl wk_5_118 wk_5_119 wk_5_120 wk_1_2 wk_5_121 hd_X1_runMonth ⟨(Nat.le_of_ble_eq_true rfl), (Nat.le_of_ble_eq_true rfl)⟩ (Nat.le_of_ble_eq_true rfl) ⟨(Nat.le_of_ble_eq_true rfl), (Nat.le_of_ble_eq_true rfl)⟩ dX3_gotByOneLease_65 rfl rfl ?_
  refine gq_popi C dX3_gotByOneLease_68 ?_
  refine gq_aload_n C dX3_gotByOneLease_69 rfl 0 rfl ?_
  refine gq_get0 C (qn_l 0 (by decide) hN) (by decide) 1 (by decide) wk_1_228 rfl dX3_gotByOneLease_70 ?_
  refine gq_get1N C (qn_l 23 (by decide) hN) (by decide) 6 (by decide) wk_1_76 rfl dX3_gotByOneLease_73 ?_
  refine gq_iload_n C dX3_gotByOneLease_76 rfl 1 rfl ?_
  refine gq_bipush (v := 7) C dX3_gotByOneLease_77 (by decide) ?_
  obtain ⟨x23, eo22, z21⟩ := bind_ex z17
  refine gq_V (As := [.int p1, .int (7 : Int32)]) (rest := []) (j := 2) C (c_X2_get hN (show kd 31 = 2 by decide) eo22) (qn_l 31 (by decide) hN) (by decide) (by decide) rfl wk_2_67 wk_2_60 wk_2_61 wk_1_3 wk_2_62 hd_X2_get ⟨(Nat.le_of_ble_eq_true rfl), (Nat.le_of_ble_eq_true rfl)⟩ (Nat.le_of_ble_eq_true rfl) ⟨(Nat.le_of_ble_eq_true rfl), (Nat.le_of_ble_eq_true rfl)⟩ dX3_gotByOneLease_79 rfl rfl ?_
  refine gq_aload_n C dX3_gotByOneLease_82 rfl 0 rfl ?_
  refine gq_get0 C (qn_l 0 (by decide) hN) (by decide) 0 (by decide) wk_1_227 rfl dX3_gotByOneLease_83 ?_
  refine gq_get1N C (qn_l 1 (by decide) hN) (by decide) 6 (by decide) wk_1_76 rfl dX3_gotByOneLease_86 ?_
  refine gq_iload_n C dX3_gotByOneLease_89 rfl 1 rfl ?_
  refine gq_bipush (v := 7) C dX3_gotByOneLease_90 (by decide) ?_
  obtain ⟨x26, eo25, z24⟩ := bind_ex z21
  refine gq_V (As := [.int p1, .int (7 : Int32)]) (rest := [.int x23]) (j := 2) C (c_X2_get hN (show kd 9 = 2 by decide) eo25) (qn_l 9 (by decide) hN) (by decide) (by decide) rfl wk_2_67 wk_2_60 wk_2_61 wk_1_3 wk_2_62 hd_X2_get ⟨(Nat.le_of_ble_eq_true rfl), (Nat.le_of_ble_eq_true rfl)⟩ (Nat.le_of_ble_eq_true rfl) ⟨(Nat.le_of_ble_eq_true rfl), (Nat.le_of_ble_eq_true rfl)⟩ dX3_gotByOneLease_92 rfl rfl ?_
  refine gq_isub C dX3_gotByOneLease_95 ?_
  cases z24
  exact gq_iret C hr dX3_gotByOneLease_96 (Nat.le_of_ble_eq_true rfl) (Nat.le_of_ble_eq_true rfl)
abbrev rm_X3_bestReach : Room := { frames := 7, cells := 1, slots := 6, locals := 171 }
def F_X3_bestReach_18 (u1 : Int32) : Nat → Int32 → Int32 → Int32 → Mm → Option (Int32 × Mm)
  | 0, _, _, _, _ => none
  | n + 1, v2, v3, v4, μ =>
  if (μ.1 2 2) ≤ v4 then
  (some (v2, μ))
  else
  ((F_X3_gotByOneLease u1 v4 μ).bind fun o9 =>
  (if o9.1 ≤ v3 then
  (some (v2, v3))
  else
  (some (v4, o9.1))).bind fun o18 =>
  F_X3_bestReach_18 u1 n o18.1 o18.2 (v4 + 1) o9.2)
def F_X3_bestReach (p1 : Int32) (μ : Mm) : Option (Nat × Int32 × Mm) :=
  (F_X3_needRow 9 p1 μ).bind fun o2 =>
  if o2 = 0 then ((F_X3_bestReach_18 p1 qFuel (0 : Int32) (-1 : Int32) (0 : Int32) μ).bind fun o20 =>
  some (0, o20.1, o20.2))
  else some (o2, 0, μ)
set_option maxHeartbeats 4000000 in
set_option maxRecDepth 100000 in
theorem l_X3_bestReach_18 {l : Launch} {E : Ev} (hN : 295 ≤ eN E) {p : Program} {e : Env} {s : State} {m : MethodId} {args : Array Value} {below : List Frame} {meth : Method} {c : Code} (hl9 : l.stackTraces = false) (hout : ∀ x ∈ c.exceptionTable.toList, False) (C : Cq E p s m args meth c cX3_bestReach 6 RX3) {Q : State → Prop} {u1 : Int32} : ∀ (n : Nat) (v2 : Int32) (v3 : Int32) (v4 : Int32) (μ : Mm) (w2 : Int32) (μx : Mm), F_X3_bestReach_18 u1 n v2 v3 v4 μ = some (w2, μx) → Gq E p l e rm_X3_bestReach s m args below meth c 1 6 6 Q 60 [(2, .int w2)] [] μx → Gq E p l e rm_X3_bestReach s m args below meth c 1 6 6 Q 18 [(0, .ref (eB E + 0)), (1, .int u1), (2, .int v2), (3, .int v3), (4, .int v4)] [] μ := by
  intro n
  induction n with
  | zero =>
    intro v2 v3 v4 μ w2 μx z0 kk
    rw [F_X3_bestReach_18] at z0
    cases z0
  | succ n ih =>
    intro v2 v3 v4 μ w2 μx z0 kk
    rw [F_X3_bestReach_18] at z0
    refine gq_iload C dX3_bestReach_18 4 rfl ?_
    refine gq_aload_n C dX3_bestReach_20 rfl 0 rfl ?_
    refine gq_get0 C (qn_l 0 (by decide) hN) (by decide) 0 (by decide) wk_1_227 rfl dX3_bestReach_21 ?_
    refine gq_get1N C (qn_l 1 (by decide) hN) (by decide) 0 (by decide) wk_1_62 rfl dX3_bestReach_24 ?_
    refine gq_get2N C (qn_l 2 (by decide) hN) (by decide) 2 (by decide) wk_1_50 rfl dX3_bestReach_27 ?_
    rcases ite_ex z0 with ⟨c6, z7⟩ | ⟨c6, z7⟩
    · refine gq_icmp_ge_t (tgt := 60) C dX3_bestReach_30 (by decide) c6 ?_
      cases z7
      exact gq_widen (Nat.le_of_ble_eq_true rfl) (Nat.le_of_ble_eq_true rfl) (gq_sub [2] rfl kk)
    · refine gq_icmp_ge_f (tgt := 60) C dX3_bestReach_30 (by decide) c6 ?_
      refine gq_aload_n C dX3_bestReach_33 rfl 0 rfl ?_
      refine gq_iload_n C dX3_bestReach_34 rfl 1 rfl ?_
      refine gq_iload C dX3_bestReach_35 4 rfl ?_
      obtain ⟨⟨x10, m11⟩, eo9, z8⟩ := bind_ex z7
      dsimp only at z8
      refine gq_V (As := [.int u1, .int v4]) (rest := []) (j := 0) C (c_X3_gotByOneLease hN  eo9) (qn_l 0 (by decide) hN) (by decide) (by decide) rfl wk_6_29 wk_6_31 ws_X3_gotByOneLease wk_1_1 wk_6_32 hd_X3_gotByOneLease ⟨(Nat.le_of_ble_eq_true rfl), (Nat.le_of_ble_eq_true rfl)⟩ (Nat.le_of_ble_eq_true rfl) ⟨(Nat.le_of_ble_eq_true rfl), (Nat.le_of_ble_eq_true rfl)⟩ dX3_bestReach_37 rfl rfl ?_
      refine gq_istore (lv' := [(5, .int x10), (0, .ref (eB E + 0)), (1, .int u1), (2, .int v2), (3, .int v3), (4, .int v4)]) C dX3_bestReach_40 (by decide) rfl ?_
      refine gq_iload C dX3_bestReach_42 0 rfl ?_
      refine gq_iload_n C dX3_bestReach_44 rfl 4 rfl ?_
      obtain ⟨⟨x12, x13⟩, z14, z15⟩ := bind_ex z8
      dsimp only at z15
      refine gq_join (k' := 1) (n' := 6) (pc' := 54) (lv' := [(0, .ref (eB E + 0)), (1, .int u1), (2, .int x12), (3, .int x13), (4, .int v4)]) (st' := []) (μ' := m11) ?_ (fun J54 => ?_)
      · refine gq_iinc (v := (v4 + 1)) (lv' := [(4, .int (v4 + 1)), (0, .ref (eB E + 0)), (1, .int u1), (2, .int x12), (3, .int x13)]) (q := 4) C dX3_bestReach_54 rfl rfl (by decide) rfl ?_
        refine gq_goto (tgt := 18) C dX3_bestReach_57 (by decide) ?_
        refine gq_widen (k' := 1) (n' := 6) (Nat.le_of_ble_eq_true rfl) (Nat.le_of_ble_eq_true rfl) (gq_sub [1, 2, 3, 4, 0] rfl ?_)
        exact ih _ _ _ _ _ _ z15 kk
      · rcases ite_ex z14 with ⟨c16, z17⟩ | ⟨c16, z17⟩
        · refine gq_icmp_le_t (tgt := 54) C dX3_bestReach_45 (by decide) c16 ?_
          cases z17
          exact gq_widen (Nat.le_of_ble_eq_true rfl) (Nat.le_of_ble_eq_true rfl) (gq_sub [1, 2, 3, 4, 5] rfl J54)
        · refine gq_icmp_le_f (tgt := 54) C dX3_bestReach_45 (by decide) c16 ?_
          refine gq_iload C dX3_bestReach_48 5 rfl ?_
          refine gq_istore_n (lv' := [(2, .int v4), (5, .int x10), (0, .ref (eB E + 0)), (1, .int u1), (3, .int v3), (4, .int v4)]) C dX3_bestReach_50 rfl (by decide) rfl ?_
          refine gq_iload C dX3_bestReach_51 1 rfl ?_
          refine gq_istore_n (lv' := [(3, .int x10), (2, .int v4), (5, .int x10), (0, .ref (eB E + 0)), (1, .int u1), (4, .int v4)]) C dX3_bestReach_53 rfl (by decide) rfl ?_
          cases z17
          exact gq_widen (Nat.le_of_ble_eq_true rfl) (Nat.le_of_ble_eq_true rfl) (gq_sub [3, 4, 1, 0, 5] rfl J54)
set_option maxHeartbeats 4000000 in
set_option maxRecDepth 100000 in
theorem c_X3_bestReach {l : Launch} {E : Ev} (hN : 295 ≤ eN E) (hl9 : l.stackTraces = false) {p1 : Int32} {μ : Mm} {ec : Nat} {r : Int32} {μ' : Mm} (z0 : F_X3_bestReach p1 μ = some (ec, r, μ')) : Cx l E yX3_bestReach (Cond.code yX3_bestReach cX3_bestReach 6 (some .int) :: GW) rm_X3_bestReach [.ref (eB E + 0), .int p1] μ ec (some (.int r)) μ' := by
  refine cx_of (by decide) (Nat.le_of_ble_eq_true rfl) (fun p e s m args below meth c C hr hout => ?_)
  have C : Cq E p s m args meth c cX3_bestReach 6 RX3 := C
  refine gq_lv (lv' := [(0, .ref (eB E + 0)), (1, .int p1)]) rfl ?_
  unfold F_X3_bestReach at z0
  refine gq_aload_n C dX3_bestReach_0 rfl 0 rfl ?_
  refine gq_get0 C (qn_l 0 (by decide) hN) (by decide) 0 (by decide) wk_1_227 rfl dX3_bestReach_1 ?_
  refine gq_get1N C (qn_l 1 (by decide) hN) (by decide) 6 (by decide) wk_1_76 rfl dX3_bestReach_4 ?_
  refine gq_iload_n C dX3_bestReach_7 rfl 1 rfl ?_
  obtain ⟨x3, eo2, z1⟩ := bind_ex z0
  rcases ite_ex z1 with ⟨c4, z5⟩ | ⟨c4, z5⟩
  · refine gx_S (As := [.ref (eB E + 9), .int p1]) (rest := []) C (μF := μ) (oF := none) (mcF := 1000000) (msF := 1000000) (Or.inr c4) (fun h9 => absurd c4 h9) hout (Nat.le_of_ble_eq_true rfl) (Nat.le_of_ble_eq_true rfl) (c_X3_needRow hN hl9 (show kd 9 = 2 by decide) eo2) wk_5_0 wk_5_1 wk_1_1 wk_5_2 hd_X3_needRow ⟨(Nat.le_of_ble_eq_true rfl), (Nat.le_of_ble_eq_true rfl)⟩ (Nat.le_of_ble_eq_true rfl) ⟨(Nat.le_of_ble_eq_true rfl), (Nat.le_of_ble_eq_true rfl)⟩ dX3_bestReach_8 rfl rfl (fun _ => ?_)
    refine gq_iconst (v := 0) C dX3_bestReach_11 (by decide) ?_
    refine gq_istore_n (lv' := [(2, .int (0 : Int32)), (0, .ref (eB E + 0)), (1, .int p1)]) C dX3_bestReach_12 rfl (by decide) rfl ?_
    refine gq_iconst (v := -1) C dX3_bestReach_13 (by decide) ?_
    refine gq_istore_n (lv' := [(3, .int (-1 : Int32)), (2, .int (0 : Int32)), (0, .ref (eB E + 0)), (1, .int p1)]) C dX3_bestReach_14 rfl (by decide) rfl ?_
    refine gq_iconst (v := 0) C dX3_bestReach_15 (by decide) ?_
    refine gq_istore (lv' := [(4, .int (0 : Int32)), (3, .int (-1 : Int32)), (2, .int (0 : Int32)), (0, .ref (eB E + 0)), (1, .int p1)]) C dX3_bestReach_16 (by decide) rfl ?_
    obtain ⟨⟨x21, m22⟩, eo20, z19⟩ := bind_ex z5
    dsimp only at z19
    refine gq_widen (k' := 1) (n' := 6) (Nat.le_of_ble_eq_true rfl) (Nat.le_of_ble_eq_true rfl) (gq_sub [3, 4, 2, 1, 0] rfl ?_)
    refine l_X3_bestReach_18 hN hl9 hout C  qFuel _ _ _ _ _ _ eo20 ?_
    refine gq_iload_n C dX3_bestReach_60 rfl 0 rfl ?_
    cases z19
    exact gx_ret (gq_iret C hr dX3_bestReach_61 (Nat.le_of_ble_eq_true rfl) (Nat.le_of_ble_eq_true rfl))
  · cases z5
    refine gx_S (As := [.ref (eB E + 9), .int p1]) (rest := []) C (Or.inl rfl) (fun _ => rfl) hout (Nat.le_of_ble_eq_true rfl) (Nat.le_of_ble_eq_true rfl) (c_X3_needRow hN hl9 (show kd 9 = 2 by decide) eo2) wk_5_0 wk_5_1 wk_1_1 wk_5_2 hd_X3_needRow ⟨(Nat.le_of_ble_eq_true rfl), (Nat.le_of_ble_eq_true rfl)⟩ (Nat.le_of_ble_eq_true rfl) ⟨(Nat.le_of_ble_eq_true rfl), (Nat.le_of_ble_eq_true rfl)⟩ dX3_bestReach_8 rfl rfl (fun h9 => absurd h9 c4)
abbrev rm_X3_keepUsualGot : Room := { frames := 1, cells := 0, slots := 0, locals := 22 }
def F_X3_keepUsualGot_2  : Nat → Int32 → Mm → Option Mm
  | 0, _, _ => none
  | n + 1, v1, μ =>
  if (10 : Int32) ≤ v1 then
  (some μ)
  else
  ((F_X2_get 31 v1 (7 : Int32) μ).bind fun o4 =>
  (sI μ 69 v1 o4).bind fun m6 =>
  F_X3_keepUsualGot_2 n (v1 + 1) m6)
def F_X3_keepUsualGot  (μ : Mm) : Option Mm :=
  (F_X3_keepUsualGot_2 qFuel (0 : Int32) μ).bind fun o9 =>
  some o9
set_option maxHeartbeats 4000000 in
set_option maxRecDepth 100000 in
theorem l_X3_keepUsualGot_2 {l : Launch} {E : Ev} (hN : 295 ≤ eN E) {p : Program} {e : Env} {s : State} {m : MethodId} {args : Array Value} {below : List Frame} {meth : Method} {c : Code} (C : Cq E p s m args meth c cX3_keepUsualGot 2 RX3) {Q : State → Prop} : ∀ (n : Nat) (v1 : Int32) (μ : Mm) (μx : Mm), F_X3_keepUsualGot_2 n v1 μ = some μx → Gq E p l e rm_X3_keepUsualGot s m args below meth c 0 0 2 Q 33 [] [] μx → Gq E p l e rm_X3_keepUsualGot s m args below meth c 0 0 2 Q 2 [(0, .ref (eB E + 0)), (1, .int v1)] [] μ := by
  intro n
  induction n with
  | zero =>
    intro v1 μ μx z0 kk
    rw [F_X3_keepUsualGot_2] at z0
    cases z0
  | succ n ih =>
    intro v1 μ μx z0 kk
    rw [F_X3_keepUsualGot_2] at z0
    refine gq_iload_n C dX3_keepUsualGot_2 rfl 1 rfl ?_
    refine gq_bipush (v := 10) C dX3_keepUsualGot_3 (by decide) ?_
    rcases ite_ex z0 with ⟨c1, z2⟩ | ⟨c1, z2⟩
    · refine gq_icmp_ge_t (tgt := 33) C dX3_keepUsualGot_5 (by decide) c1 ?_
      cases z2
      exact gq_widen (Nat.le_of_ble_eq_true rfl) (Nat.le_of_ble_eq_true rfl) (gq_sub [] rfl kk)
    · refine gq_icmp_ge_f (tgt := 33) C dX3_keepUsualGot_5 (by decide) c1 ?_
      refine gq_aload_n C dX3_keepUsualGot_8 rfl 0 rfl ?_
      refine gq_get0 C (qn_l 0 (by decide) hN) (by decide) 3 (by decide) wk_1_230 rfl dX3_keepUsualGot_9 ?_
      refine gq_iload_n C dX3_keepUsualGot_12 rfl 1 rfl ?_
      refine gq_aload_n C dX3_keepUsualGot_13 rfl 0 rfl ?_
      refine gq_get0 C (qn_l 0 (by decide) hN) (by decide) 1 (by decide) wk_1_228 rfl dX3_keepUsualGot_14 ?_
      refine gq_get1N C (qn_l 23 (by decide) hN) (by decide) 6 (by decide) wk_1_76 rfl dX3_keepUsualGot_17 ?_
      refine gq_iload_n C dX3_keepUsualGot_20 rfl 1 rfl ?_
      refine gq_bipush (v := 7) C dX3_keepUsualGot_21 (by decide) ?_
      obtain ⟨x5, eo4, z3⟩ := bind_ex z2
      refine gq_V (As := [.int v1, .int (7 : Int32)]) (rest := [.int v1, .ref (eB E + 69)]) (j := 2) C (c_X2_get hN (show kd 31 = 2 by decide) eo4) (qn_l 31 (by decide) hN) (by decide) (by decide) rfl wk_2_67 wk_2_60 wk_2_61 wk_1_3 wk_2_62 hd_X2_get ⟨(Nat.le_of_ble_eq_true rfl), (Nat.le_of_ble_eq_true rfl)⟩ (Nat.le_of_ble_eq_true rfl) ⟨(Nat.le_of_ble_eq_true rfl), (Nat.le_of_ble_eq_true rfl)⟩ dX3_keepUsualGot_23 rfl rfl ?_
      obtain ⟨m6, em6, z7⟩ := bind_ex z3
      refine gq_iastore C (qn_l 69 (by decide) hN) (by decide) em6 dX3_keepUsualGot_26 ?_
      refine gq_iinc (v := (v1 + 1)) (lv' := [(1, .int (v1 + 1)), (0, .ref (eB E + 0))]) (q := 1) C dX3_keepUsualGot_27 rfl rfl (by decide) rfl ?_
      refine gq_goto (tgt := 2) C dX3_keepUsualGot_30 (by decide) ?_
      refine gq_widen (k' := 0) (n' := 0) (Nat.le_of_ble_eq_true rfl) (Nat.le_of_ble_eq_true rfl) (gq_sub [1, 0] rfl ?_)
      exact ih _ _ _ z7 kk
set_option maxHeartbeats 4000000 in
set_option maxRecDepth 100000 in
theorem c_X3_keepUsualGot {l : Launch} {E : Ev} (hN : 295 ≤ eN E) {μ : Mm} {μ' : Mm} (z0 : F_X3_keepUsualGot  μ = some μ') : Ct l E yX3_keepUsualGot (Cond.code yX3_keepUsualGot cX3_keepUsualGot 2 none :: GW) rm_X3_keepUsualGot [.ref (eB E + 0)] μ none μ' := by
  refine ct_of (by decide) (Nat.le_of_ble_eq_true rfl) (fun p e s m args below meth c C hr => ?_)
  have C : Cq E p s m args meth c cX3_keepUsualGot 2 RX3 := C
  refine gq_lv (lv' := [(0, .ref (eB E + 0))]) rfl ?_
  unfold F_X3_keepUsualGot at z0
  refine gq_iconst (v := 0) C dX3_keepUsualGot_0 (by decide) ?_
  refine gq_istore_n (lv' := [(1, .int (0 : Int32)), (0, .ref (eB E + 0))]) C dX3_keepUsualGot_1 rfl (by decide) rfl ?_
  obtain ⟨m10, eo9, z8⟩ := bind_ex z0
  refine gq_widen (k' := 0) (n' := 0) (Nat.le_of_ble_eq_true rfl) (Nat.le_of_ble_eq_true rfl) (gq_sub [1, 0] rfl ?_)
  refine l_X3_keepUsualGot_2 hN C  qFuel _ _ _ eo9 ?_
  cases z8
  exact gq_vret C hr dX3_keepUsualGot_33 (Nat.le_of_ble_eq_true rfl) (Nat.le_of_ble_eq_true rfl)
abbrev rm_X3_othersThatGet : Room := { frames := 1, cells := 0, slots := 0, locals := 22 }
def F_X3_othersThatGet_5 (u1 : Int32) (u2 : Int32) (μ : Mm) : Nat → Int32 → Int32 → Option Int32
  | 0, _, _ => none
  | n + 1, v3, v4 =>
  if (10 : Int32) ≤ v4 then
  (some v3)
  else
  ((F_X2_get 31 v4 (7 : Int32) μ).bind fun o4 =>
  (aI μ 69 v4).bind fun x6 =>
  (if v4 = u1 then
  (some v3)
  else
  (if u2 = 0 then
  (if 0 ≤ (o4 - x6) then
  (some v3)
  else
  (some (v3 ||| ((1 : Int32) <<< (v4 &&& 31)))))
  else
  (if (o4 - x6) ≤ 0 then
  (some v3)
  else
  (some (v3 ||| ((1 : Int32) <<< (v4 &&& 31))))))).bind fun o19 =>
  F_X3_othersThatGet_5 u1 u2 μ n o19 (v4 + 1))
def F_X3_othersThatGet (p1 : Int32) (p2 : Int32) (μ : Mm) : Option Int32 :=
  (F_X3_othersThatGet_5 p1 p2 μ qFuel (0 : Int32) (0 : Int32)).bind fun o21 =>
  some o21
set_option maxHeartbeats 4000000 in
set_option maxRecDepth 100000 in
theorem l_X3_othersThatGet_5 {l : Launch} {E : Ev} (hN : 295 ≤ eN E) {p : Program} {e : Env} {s : State} {m : MethodId} {args : Array Value} {below : List Frame} {meth : Method} {c : Code} (C : Cq E p s m args meth c cX3_othersThatGet 6 RX3) {Q : State → Prop} {u1 : Int32} {u2 : Int32} {μ : Mm} : ∀ (n : Nat) (v3 : Int32) (v4 : Int32) (w3 : Int32), F_X3_othersThatGet_5 u1 u2 μ n v3 v4 = some w3 → Gq E p l e rm_X3_othersThatGet s m args below meth c 0 0 6 Q 72 [(3, .int w3)] [] μ → Gq E p l e rm_X3_othersThatGet s m args below meth c 0 0 6 Q 5 [(0, .ref (eB E + 0)), (1, .int u1), (2, .int u2), (3, .int v3), (4, .int v4)] [] μ := by
  intro n
  induction n with
  | zero =>
    intro v3 v4 w3 z0 kk
    rw [F_X3_othersThatGet_5] at z0
    cases z0
  | succ n ih =>
    intro v3 v4 w3 z0 kk
    rw [F_X3_othersThatGet_5] at z0
    refine gq_iload C dX3_othersThatGet_5 4 rfl ?_
    refine gq_bipush (v := 10) C dX3_othersThatGet_7 (by decide) ?_
    rcases ite_ex z0 with ⟨c1, z2⟩ | ⟨c1, z2⟩
    · refine gq_icmp_ge_t (tgt := 72) C dX3_othersThatGet_9 (by decide) c1 ?_
      cases z2
      exact gq_widen (Nat.le_of_ble_eq_true rfl) (Nat.le_of_ble_eq_true rfl) (gq_sub [3] rfl kk)
    · refine gq_icmp_ge_f (tgt := 72) C dX3_othersThatGet_9 (by decide) c1 ?_
      refine gq_aload_n C dX3_othersThatGet_12 rfl 0 rfl ?_
      refine gq_get0 C (qn_l 0 (by decide) hN) (by decide) 1 (by decide) wk_1_228 rfl dX3_othersThatGet_13 ?_
      refine gq_get1N C (qn_l 23 (by decide) hN) (by decide) 6 (by decide) wk_1_76 rfl dX3_othersThatGet_16 ?_
      refine gq_iload C dX3_othersThatGet_19 4 rfl ?_
      refine gq_bipush (v := 7) C dX3_othersThatGet_21 (by decide) ?_
      obtain ⟨x5, eo4, z3⟩ := bind_ex z2
      refine gq_V (As := [.int v4, .int (7 : Int32)]) (rest := []) (j := 2) C (c_X2_get hN (show kd 31 = 2 by decide) eo4) (qn_l 31 (by decide) hN) (by decide) (by decide) rfl wk_2_67 wk_2_60 wk_2_61 wk_1_3 wk_2_62 hd_X2_get ⟨(Nat.le_of_ble_eq_true rfl), (Nat.le_of_ble_eq_true rfl)⟩ (Nat.le_of_ble_eq_true rfl) ⟨(Nat.le_of_ble_eq_true rfl), (Nat.le_of_ble_eq_true rfl)⟩ dX3_othersThatGet_23 rfl rfl ?_
      refine gq_aload_n C dX3_othersThatGet_26 rfl 0 rfl ?_
      refine gq_get0 C (qn_l 0 (by decide) hN) (by decide) 3 (by decide) wk_1_230 rfl dX3_othersThatGet_27 ?_
      refine gq_iload C dX3_othersThatGet_30 4 rfl ?_
      obtain ⟨x6, ex6, z7⟩ := bind_ex z3
      refine gq_ialoadI C (qn_l 69 (by decide) hN) (by decide) ex6 dX3_othersThatGet_32 ?_
      refine gq_isub C dX3_othersThatGet_33 ?_
      refine gq_istore (lv' := [(5, .int (x5 - x6)), (0, .ref (eB E + 0)), (1, .int u1), (2, .int u2), (3, .int v3), (4, .int v4)]) C dX3_othersThatGet_34 (by decide) rfl ?_
      refine gq_iload C dX3_othersThatGet_36 5 rfl ?_
      refine gq_iload_n C dX3_othersThatGet_38 rfl 2 rfl ?_
      obtain ⟨x8, z9, z10⟩ := bind_ex z7
      refine gq_join (k' := 0) (n' := 0) (pc' := 66) (lv' := [(0, .ref (eB E + 0)), (1, .int u1), (2, .int u2), (3, .int x8), (4, .int v4)]) (st' := []) (μ' := μ) ?_ (fun J66 => ?_)
      · refine gq_iinc (v := (v4 + 1)) (lv' := [(4, .int (v4 + 1)), (0, .ref (eB E + 0)), (1, .int u1), (2, .int u2), (3, .int x8)]) (q := 4) C dX3_othersThatGet_66 rfl rfl (by decide) rfl ?_
        refine gq_goto (tgt := 5) C dX3_othersThatGet_69 (by decide) ?_
        refine gq_widen (k' := 0) (n' := 0) (Nat.le_of_ble_eq_true rfl) (Nat.le_of_ble_eq_true rfl) (gq_sub [1, 2, 3, 4, 0] rfl ?_)
        exact ih _ _ _ z10 kk
      · rcases ite_ex z9 with ⟨c11, z12⟩ | ⟨c11, z12⟩
        · refine gq_icmp_eq_t (tgt := 66) C dX3_othersThatGet_39 (by decide) c11 ?_
          cases z12
          exact gq_widen (Nat.le_of_ble_eq_true rfl) (Nat.le_of_ble_eq_true rfl) (gq_sub [1, 2, 3, 4, 5] rfl J66)
        · refine gq_icmp_eq_f (tgt := 66) C dX3_othersThatGet_39 (by decide) c11 ?_
          refine gq_iload_n C dX3_othersThatGet_42 rfl 3 rfl ?_
          rcases ite_ex z12 with ⟨c13, z14⟩ | ⟨c13, z14⟩
          · refine gq_if_eq_t (tgt := 54) C dX3_othersThatGet_43 (by decide) c13 ?_
            refine gq_iload C dX3_othersThatGet_54 0 rfl ?_
            rcases ite_ex z14 with ⟨c15, z16⟩ | ⟨c15, z16⟩
            · refine gq_if_ge_t (tgt := 66) C dX3_othersThatGet_56 (by decide) c15 ?_
              cases z16
              exact gq_widen (Nat.le_of_ble_eq_true rfl) (Nat.le_of_ble_eq_true rfl) (gq_sub [1, 2, 3, 4, 5] rfl J66)
            · refine gq_if_ge_f (tgt := 66) C dX3_othersThatGet_56 (by decide) c15 ?_
              refine gq_iload_n C dX3_othersThatGet_59 rfl 4 rfl ?_
              refine gq_iconst (v := 1) C dX3_othersThatGet_60 (by decide) ?_
              refine gq_iload C dX3_othersThatGet_61 5 rfl ?_
              refine gq_ishl C dX3_othersThatGet_63 ?_
              refine gq_ior C dX3_othersThatGet_64 ?_
              refine gq_istore_n (lv' := [(3, .int (v3 ||| ((1 : Int32) <<< (v4 &&& 31)))), (5, .int (x5 - x6)), (0, .ref (eB E + 0)), (1, .int u1), (2, .int u2), (4, .int v4)]) C dX3_othersThatGet_65 rfl (by decide) rfl ?_
              cases z16
              exact gq_widen (Nat.le_of_ble_eq_true rfl) (Nat.le_of_ble_eq_true rfl) (gq_sub [2, 3, 4, 0, 5] rfl J66)
          · refine gq_if_eq_f (tgt := 54) C dX3_othersThatGet_43 (by decide) c13 ?_
            refine gq_iload C dX3_othersThatGet_46 0 rfl ?_
            rcases ite_ex z14 with ⟨c17, z18⟩ | ⟨c17, z18⟩
            · refine gq_if_le_t (tgt := 66) C dX3_othersThatGet_48 (by decide) c17 ?_
              cases z18
              exact gq_widen (Nat.le_of_ble_eq_true rfl) (Nat.le_of_ble_eq_true rfl) (gq_sub [1, 2, 3, 4, 5] rfl J66)
            · refine gq_if_le_f (tgt := 66) C dX3_othersThatGet_48 (by decide) c17 ?_
              refine gq_goto (tgt := 59) C dX3_othersThatGet_51 (by decide) ?_
              refine gq_iload_n C dX3_othersThatGet_59 rfl 4 rfl ?_
              refine gq_iconst (v := 1) C dX3_othersThatGet_60 (by decide) ?_
              refine gq_iload C dX3_othersThatGet_61 5 rfl ?_
              refine gq_ishl C dX3_othersThatGet_63 ?_
              refine gq_ior C dX3_othersThatGet_64 ?_
              refine gq_istore_n (lv' := [(3, .int (v3 ||| ((1 : Int32) <<< (v4 &&& 31)))), (5, .int (x5 - x6)), (0, .ref (eB E + 0)), (1, .int u1), (2, .int u2), (4, .int v4)]) C dX3_othersThatGet_65 rfl (by decide) rfl ?_
              cases z18
              exact gq_widen (Nat.le_of_ble_eq_true rfl) (Nat.le_of_ble_eq_true rfl) (gq_sub [2, 3, 4, 0, 5] rfl J66)
set_option maxHeartbeats 4000000 in
set_option maxRecDepth 100000 in
theorem c_X3_othersThatGet {l : Launch} {E : Ev} (hN : 295 ≤ eN E) {p1 : Int32} {p2 : Int32} {μ : Mm} {r : Int32} (z0 : F_X3_othersThatGet p1 p2 μ = some r) : Ct l E yX3_othersThatGet (Cond.code yX3_othersThatGet cX3_othersThatGet 6 (some .int) :: GW) rm_X3_othersThatGet [.ref (eB E + 0), .int p1, .int p2] μ (some (.int r)) μ := by
  refine ct_of (by decide) (Nat.le_of_ble_eq_true rfl) (fun p e s m args below meth c C hr => ?_)
  have C : Cq E p s m args meth c cX3_othersThatGet 6 RX3 := C
  refine gq_lv (lv' := [(0, .ref (eB E + 0)), (1, .int p1), (2, .int p2)]) rfl ?_
  unfold F_X3_othersThatGet at z0
  refine gq_iconst (v := 0) C dX3_othersThatGet_0 (by decide) ?_
  refine gq_istore_n (lv' := [(3, .int (0 : Int32)), (0, .ref (eB E + 0)), (1, .int p1), (2, .int p2)]) C dX3_othersThatGet_1 rfl (by decide) rfl ?_
  refine gq_iconst (v := 0) C dX3_othersThatGet_2 (by decide) ?_
  refine gq_istore (lv' := [(4, .int (0 : Int32)), (3, .int (0 : Int32)), (0, .ref (eB E + 0)), (1, .int p1), (2, .int p2)]) C dX3_othersThatGet_3 (by decide) rfl ?_
  obtain ⟨x22, eo21, z20⟩ := bind_ex z0
  refine gq_widen (k' := 0) (n' := 0) (Nat.le_of_ble_eq_true rfl) (Nat.le_of_ble_eq_true rfl) (gq_sub [2, 3, 4, 1, 0] rfl ?_)
  refine l_X3_othersThatGet_5 hN C  qFuel _ _ _ eo21 ?_
  refine gq_iload_n C dX3_othersThatGet_72 rfl 0 rfl ?_
  cases z20
  exact gq_iret C hr dX3_othersThatGet_73 (Nat.le_of_ble_eq_true rfl) (Nat.le_of_ble_eq_true rfl)
abbrev rm_X3_injured : Room := { frames := 7, cells := 3, slots := 18, locals := 171 }
def F_X3_injured (p1 : Int32) (p2 : Int32) (p3 : Int32) (μ : Mm) : Option (Nat × Int32 × Mm) :=
  (F_X3_needRow 9 p1 μ).bind fun o2 =>
  if o2 = 0 then ((F_X3_needRow 2 p2 μ).bind fun o7 =>
  if o7 = 0 then ((F_X3_needRange p3 (1 : Int32) (999 : Int32) μ).bind fun o12 =>
  if o12 = 0 then ((F_X3_tryMonths (1 : Int32) μ).bind fun o17 =>
  (F_X3_keepUsualGot  o17).bind fun o20 =>
  (F_X1_copyFrom 23 1 o20).bind fun o23 =>
  (F_X2_get 9 p1 (0 : Int32) o23).bind fun o26 =>
  (F_X1_addLease 23 p1 o26 p2 p3 (0 : Int32) (1 : Int32) o23).bind fun o29 =>
  (F_X1_runMonth 23 (-1 : Int32) o29.2).bind fun o33 =>
  (F_X3_othersThatGet p1 (0 : Int32) o33.2).bind fun o37 =>
  some (0, o37, o33.2))
  else some (o12, 0, μ))
  else some (o7, 0, μ))
  else some (o2, 0, μ)
set_option maxHeartbeats 4000000 in
set_option maxRecDepth 100000 in
theorem c_X3_injured {l : Launch} {E : Ev} (hN : 295 ≤ eN E) (hl9 : l.stackTraces = false) {p1 : Int32} {p2 : Int32} {p3 : Int32} {μ : Mm} {ec : Nat} {r : Int32} {μ' : Mm} (z0 : F_X3_injured p1 p2 p3 μ = some (ec, r, μ')) : Cx l E yX3_injured (Cond.code yX3_injured cX3_injured 4 (some .int) :: GW) rm_X3_injured [.ref (eB E + 0), .int p1, .int p2, .int p3] μ ec (some (.int r)) μ' := by
  refine cx_of (by decide) (Nat.le_of_ble_eq_true rfl) (fun p e s m args below meth c C hr hout => ?_)
  have C : Cq E p s m args meth c cX3_injured 4 RX3 := C
  refine gq_lv (lv' := [(0, .ref (eB E + 0)), (1, .int p1), (2, .int p2), (3, .int p3)]) rfl ?_
  unfold F_X3_injured at z0
  refine gq_aload_n C dX3_injured_0 rfl 0 rfl ?_
  refine gq_get0 C (qn_l 0 (by decide) hN) (by decide) 0 (by decide) wk_1_227 rfl dX3_injured_1 ?_
  refine gq_get1N C (qn_l 1 (by decide) hN) (by decide) 6 (by decide) wk_1_76 rfl dX3_injured_4 ?_
  refine gq_iload_n C dX3_injured_7 rfl 1 rfl ?_
  obtain ⟨x3, eo2, z1⟩ := bind_ex z0
  rcases ite_ex z1 with ⟨c4, z5⟩ | ⟨c4, z5⟩
  · refine gx_S (As := [.ref (eB E + 9), .int p1]) (rest := []) C (μF := μ) (oF := none) (mcF := 1000000) (msF := 1000000) (Or.inr c4) (fun h9 => absurd c4 h9) hout (Nat.le_of_ble_eq_true rfl) (Nat.le_of_ble_eq_true rfl) (c_X3_needRow hN hl9 (show kd 9 = 2 by decide) eo2) wk_5_0 wk_5_1 wk_1_1 wk_5_2 hd_X3_needRow ⟨(Nat.le_of_ble_eq_true rfl), (Nat.le_of_ble_eq_true rfl)⟩ (Nat.le_of_ble_eq_true rfl) ⟨(Nat.le_of_ble_eq_true rfl), (Nat.le_of_ble_eq_true rfl)⟩ dX3_injured_8 rfl rfl (fun _ => ?_)
    refine gq_aload_n C dX3_injured_11 rfl 0 rfl ?_
    refine gq_get0 C (qn_l 0 (by decide) hN) (by decide) 0 (by decide) wk_1_227 rfl dX3_injured_12 ?_
    refine gq_get1N C (qn_l 1 (by decide) hN) (by decide) 0 (by decide) wk_1_62 rfl dX3_injured_15 ?_
    refine gq_iload_n C dX3_injured_18 rfl 2 rfl ?_
    obtain ⟨x8, eo7, z6⟩ := bind_ex z5
    rcases ite_ex z6 with ⟨c9, z10⟩ | ⟨c9, z10⟩
    · refine gx_S (As := [.ref (eB E + 2), .int p2]) (rest := []) C (μF := μ) (oF := none) (mcF := 1000000) (msF := 1000000) (Or.inr c9) (fun h9 => absurd c9 h9) hout (Nat.le_of_ble_eq_true rfl) (Nat.le_of_ble_eq_true rfl) (c_X3_needRow hN hl9 (show kd 2 = 2 by decide) eo7) wk_5_0 wk_5_1 wk_1_1 wk_5_2 hd_X3_needRow ⟨(Nat.le_of_ble_eq_true rfl), (Nat.le_of_ble_eq_true rfl)⟩ (Nat.le_of_ble_eq_true rfl) ⟨(Nat.le_of_ble_eq_true rfl), (Nat.le_of_ble_eq_true rfl)⟩ dX3_injured_19 rfl rfl (fun _ => ?_)
      refine gq_iload_n C dX3_injured_22 rfl 3 rfl ?_
      refine gq_iconst (v := 1) C dX3_injured_23 (by decide) ?_
      refine gq_sipush (v := 999) C dX3_injured_24 (by decide) ?_
      obtain ⟨x13, eo12, z11⟩ := bind_ex z10
      rcases ite_ex z11 with ⟨c14, z15⟩ | ⟨c14, z15⟩
      · refine gx_S (As := [.int p3, .int (1 : Int32), .int (999 : Int32)]) (rest := []) C (μF := μ) (oF := none) (mcF := 1000000) (msF := 1000000) (Or.inr c14) (fun h9 => absurd c14 h9) hout (Nat.le_of_ble_eq_true rfl) (Nat.le_of_ble_eq_true rfl) (c_X3_needRange hN hl9  eo12) wk_5_110 wk_5_111 wk_1_1 wk_5_112 hd_X3_needRange ⟨(Nat.le_of_ble_eq_true rfl), (Nat.le_of_ble_eq_true rfl)⟩ (Nat.le_of_ble_eq_true rfl) ⟨(Nat.le_of_ble_eq_true rfl), (Nat.le_of_ble_eq_true rfl)⟩ dX3_injured_27 rfl rfl (fun _ => ?_)
        refine gq_aload_n C dX3_injured_30 rfl 0 rfl ?_
        refine gq_iconst (v := 1) C dX3_injured_31 (by decide) ?_
        obtain ⟨m18, eo17, z16⟩ := bind_ex z15
        refine gq_V (As := [.int (1 : Int32)]) (rest := []) (j := 0) C (c_X3_tryMonths hN  eo17) (qn_l 0 (by decide) hN) (by decide) (by decide) rfl wk_5_114 wk_5_116 ws_X3_tryMonths wk_1_1 wk_5_117 hd_X3_tryMonths ⟨(Nat.le_of_ble_eq_true rfl), (Nat.le_of_ble_eq_true rfl)⟩ (Nat.le_of_ble_eq_true rfl) ⟨(Nat.le_of_ble_eq_true rfl), (Nat.le_of_ble_eq_true rfl)⟩ dX3_injured_32 rfl rfl ?_
        refine gq_aload_n C dX3_injured_35 rfl 0 rfl ?_
        obtain ⟨m21, eo20, z19⟩ := bind_ex z16
        refine gq_V (As := []) (rest := []) (j := 0) C (c_X3_keepUsualGot hN  eo20) (qn_l 0 (by decide) hN) (by decide) (by decide) rfl wk_6_46 wk_6_48 ws_X3_keepUsualGot wk_1_1 wk_6_49 hd_X3_keepUsualGot ⟨(Nat.le_of_ble_eq_true rfl), (Nat.le_of_ble_eq_true rfl)⟩ (Nat.le_of_ble_eq_true rfl) ⟨(Nat.le_of_ble_eq_true rfl), (Nat.le_of_ble_eq_true rfl)⟩ dX3_injured_36 rfl rfl ?_
        refine gq_aload_n C dX3_injured_39 rfl 0 rfl ?_
        refine gq_get0 C (qn_l 0 (by decide) hN) (by decide) 1 (by decide) wk_1_228 rfl dX3_injured_40 ?_
        refine gq_aload_n C dX3_injured_43 rfl 0 rfl ?_
        refine gq_get0 C (qn_l 0 (by decide) hN) (by decide) 0 (by decide) wk_1_227 rfl dX3_injured_44 ?_
        obtain ⟨m24, eo23, z22⟩ := bind_ex z19
        refine gq_V (As := [.ref (eB E + 1)]) (rest := []) (j := 1) C (c_X1_copyFrom hN (show kd 23 = 1 by decide) (show kd 1 = 1 by decide) eo23) (qn_l 23 (by decide) hN) (by decide) (by decide) rfl wk_2_133 wk_2_134 wk_2_135 wk_1_2 wk_2_136 hd_X1_copyFrom ⟨(Nat.le_of_ble_eq_true rfl), (Nat.le_of_ble_eq_true rfl)⟩ (Nat.le_of_ble_eq_true rfl) ⟨(Nat.le_of_ble_eq_true rfl), (Nat.le_of_ble_eq_true rfl)⟩ dX3_injured_47 rfl rfl ?_
        refine gq_aload_n C dX3_injured_50 rfl 0 rfl ?_
        refine gq_get0 C (qn_l 0 (by decide) hN) (by decide) 1 (by decide) wk_1_228 rfl dX3_injured_51 ?_
        refine gq_iload_n C dX3_injured_54 rfl 1 rfl ?_
        refine gq_aload_n C dX3_injured_55 rfl 0 rfl ?_
        refine gq_get0 C (qn_l 0 (by decide) hN) (by decide) 0 (by decide) wk_1_227 rfl dX3_injured_56 ?_
        refine gq_get1N C (qn_l 1 (by decide) hN) (by decide) 6 (by decide) wk_1_76 rfl dX3_injured_59 ?_
        refine gq_iload_n C dX3_injured_62 rfl 1 rfl ?_
        refine gq_iconst (v := 0) C dX3_injured_63 (by decide) ?_
        obtain ⟨x27, eo26, z25⟩ := bind_ex z22
        refine gq_V (As := [.int p1, .int (0 : Int32)]) (rest := [.int p1, .ref (eB E + 23)]) (j := 2) C (c_X2_get hN (show kd 9 = 2 by decide) eo26) (qn_l 9 (by decide) hN) (by decide) (by decide) rfl wk_2_67 wk_2_60 wk_2_61 wk_1_3 wk_2_62 hd_X2_get ⟨(Nat.le_of_ble_eq_true rfl), (Nat.le_of_ble_eq_true rfl)⟩ (Nat.le_of_ble_eq_true rfl) ⟨(Nat.le_of_ble_eq_true rfl), (Nat.le_of_ble_eq_true rfl)⟩ dX3_injured_64 rfl rfl ?_
        refine gq_iload_n C dX3_injured_67 rfl 2 rfl ?_
        refine gq_iload_n C dX3_injured_68 rfl 3 rfl ?_
        refine gq_iconst (v := 0) C dX3_injured_69 (by decide) ?_
        refine gq_iconst (v := 1) C dX3_injured_70 (by decide) ?_
        obtain ⟨⟨x30, m31⟩, eo29, z28⟩ := bind_ex z25
        dsimp only at z28
        refine gq_V (As := [.int p1, .int x27, .int p2, .int p3, .int (0 : Int32), .int (1 : Int32)]) (rest := []) (j := 1) C (c_X1_addLease hN (show kd 23 = 1 by decide) eo29) (qn_l 23 (by decide) hN) (by decide) (by decide) rfl wk_6_38 wk_4_168 wk_4_169 wk_1_2 wk_4_170 hd_X1_addLease ⟨(Nat.le_of_ble_eq_true rfl), (Nat.le_of_ble_eq_true rfl)⟩ (Nat.le_of_ble_eq_true rfl) ⟨(Nat.le_of_ble_eq_true rfl), (Nat.le_of_ble_eq_true rfl)⟩ dX3_injured_71 rfl rfl ?_
        refine gq_popi C dX3_injured_74 ?_
        refine gq_aload_n C dX3_injured_75 rfl 0 rfl ?_
        refine gq_get0 C (qn_l 0 (by decide) hN) (by decide) 1 (by decide) wk_1_228 rfl dX3_injured_76 ?_
        refine gq_iconst (v := -1) C dX3_injured_79 (by decide) ?_
        obtain ⟨⟨x34, m35⟩, eo33, z32⟩ := bind_ex z28
        dsimp only at z32
        refine gq_V (As := [.int (-1 : Int32)]) (rest := []) (j := 1) C (c_X1_runMonth hN (show kd 23 = 1 by decide) eo33) (qn_l 23 (by decide) hN) (by decide) (by decide) rfl wk_5_118 wk_5_119 wk_5_120 wk_1_2 wk_5_121 hd_X1_runMonth ⟨(Nat.le_of_ble_eq_true rfl), (Nat.le_of_ble_eq_true rfl)⟩ (Nat.le_of_ble_eq_true rfl) ⟨(Nat.le_of_ble_eq_true rfl), (Nat.le_of_ble_eq_true rfl)⟩ dX3_injured_80 rfl rfl ?_
        refine gq_popi C dX3_injured_83 ?_
        refine gq_aload_n C dX3_injured_84 rfl 0 rfl ?_
        refine gq_iload_n C dX3_injured_85 rfl 1 rfl ?_
        refine gq_iconst (v := 0) C dX3_injured_86 (by decide) ?_
        obtain ⟨x38, eo37, z36⟩ := bind_ex z32
        refine gq_V (As := [.int p1, .int (0 : Int32)]) (rest := []) (j := 0) C (c_X3_othersThatGet hN  eo37) (qn_l 0 (by decide) hN) (by decide) (by decide) rfl wk_6_50 wk_6_52 ws_X3_othersThatGet wk_1_1 wk_6_53 hd_X3_othersThatGet ⟨(Nat.le_of_ble_eq_true rfl), (Nat.le_of_ble_eq_true rfl)⟩ (Nat.le_of_ble_eq_true rfl) ⟨(Nat.le_of_ble_eq_true rfl), (Nat.le_of_ble_eq_true rfl)⟩ dX3_injured_87 rfl rfl ?_
        cases z36
        exact gx_ret (gq_iret C hr dX3_injured_90 (Nat.le_of_ble_eq_true rfl) (Nat.le_of_ble_eq_true rfl))
      · cases z15
        refine gx_S (As := [.int p3, .int (1 : Int32), .int (999 : Int32)]) (rest := []) C (Or.inl rfl) (fun _ => rfl) hout (Nat.le_of_ble_eq_true rfl) (Nat.le_of_ble_eq_true rfl) (c_X3_needRange hN hl9  eo12) wk_5_110 wk_5_111 wk_1_1 wk_5_112 hd_X3_needRange ⟨(Nat.le_of_ble_eq_true rfl), (Nat.le_of_ble_eq_true rfl)⟩ (Nat.le_of_ble_eq_true rfl) ⟨(Nat.le_of_ble_eq_true rfl), (Nat.le_of_ble_eq_true rfl)⟩ dX3_injured_27 rfl rfl (fun h9 => absurd h9 c14)
    · cases z10
      refine gx_S (As := [.ref (eB E + 2), .int p2]) (rest := []) C (Or.inl rfl) (fun _ => rfl) hout (Nat.le_of_ble_eq_true rfl) (Nat.le_of_ble_eq_true rfl) (c_X3_needRow hN hl9 (show kd 2 = 2 by decide) eo7) wk_5_0 wk_5_1 wk_1_1 wk_5_2 hd_X3_needRow ⟨(Nat.le_of_ble_eq_true rfl), (Nat.le_of_ble_eq_true rfl)⟩ (Nat.le_of_ble_eq_true rfl) ⟨(Nat.le_of_ble_eq_true rfl), (Nat.le_of_ble_eq_true rfl)⟩ dX3_injured_19 rfl rfl (fun h9 => absurd h9 c9)
  · cases z5
    refine gx_S (As := [.ref (eB E + 9), .int p1]) (rest := []) C (Or.inl rfl) (fun _ => rfl) hout (Nat.le_of_ble_eq_true rfl) (Nat.le_of_ble_eq_true rfl) (c_X3_needRow hN hl9 (show kd 9 = 2 by decide) eo2) wk_5_0 wk_5_1 wk_1_1 wk_5_2 hd_X3_needRow ⟨(Nat.le_of_ble_eq_true rfl), (Nat.le_of_ble_eq_true rfl)⟩ (Nat.le_of_ble_eq_true rfl) ⟨(Nat.le_of_ble_eq_true rfl), (Nat.le_of_ble_eq_true rfl)⟩ dX3_injured_8 rfl rfl (fun h9 => absurd h9 c4)
abbrev rm_X3_blocked : Room := { frames := 7, cells := 1, slots := 6, locals := 171 }
def F_X3_blocked (p1 : Int32) (μ : Mm) : Option (Nat × Int32 × Mm) :=
  (F_X3_needRow 9 p1 μ).bind fun o2 =>
  if o2 = 0 then ((F_X3_tryMonths (1 : Int32) μ).bind fun o7 =>
  (F_X3_keepUsualGot  o7).bind fun o10 =>
  (F_X1_copyFrom 23 1 o10).bind fun o13 =>
  (F_X1_runMonth 23 p1 o13).bind fun o16 =>
  (F_X3_othersThatGet p1 (1 : Int32) o16.2).bind fun o20 =>
  some (0, o20, o16.2))
  else some (o2, 0, μ)
set_option maxHeartbeats 4000000 in
set_option maxRecDepth 100000 in
theorem c_X3_blocked {l : Launch} {E : Ev} (hN : 295 ≤ eN E) (hl9 : l.stackTraces = false) {p1 : Int32} {μ : Mm} {ec : Nat} {r : Int32} {μ' : Mm} (z0 : F_X3_blocked p1 μ = some (ec, r, μ')) : Cx l E yX3_blocked (Cond.code yX3_blocked cX3_blocked 2 (some .int) :: GW) rm_X3_blocked [.ref (eB E + 0), .int p1] μ ec (some (.int r)) μ' := by
  refine cx_of (by decide) (Nat.le_of_ble_eq_true rfl) (fun p e s m args below meth c C hr hout => ?_)
  have C : Cq E p s m args meth c cX3_blocked 2 RX3 := C
  refine gq_lv (lv' := [(0, .ref (eB E + 0)), (1, .int p1)]) rfl ?_
  unfold F_X3_blocked at z0
  refine gq_aload_n C dX3_blocked_0 rfl 0 rfl ?_
  refine gq_get0 C (qn_l 0 (by decide) hN) (by decide) 0 (by decide) wk_1_227 rfl dX3_blocked_1 ?_
  refine gq_get1N C (qn_l 1 (by decide) hN) (by decide) 6 (by decide) wk_1_76 rfl dX3_blocked_4 ?_
  refine gq_iload_n C dX3_blocked_7 rfl 1 rfl ?_
  obtain ⟨x3, eo2, z1⟩ := bind_ex z0
  rcases ite_ex z1 with ⟨c4, z5⟩ | ⟨c4, z5⟩
  · refine gx_S (As := [.ref (eB E + 9), .int p1]) (rest := []) C (μF := μ) (oF := none) (mcF := 1000000) (msF := 1000000) (Or.inr c4) (fun h9 => absurd c4 h9) hout (Nat.le_of_ble_eq_true rfl) (Nat.le_of_ble_eq_true rfl) (c_X3_needRow hN hl9 (show kd 9 = 2 by decide) eo2) wk_5_0 wk_5_1 wk_1_1 wk_5_2 hd_X3_needRow ⟨(Nat.le_of_ble_eq_true rfl), (Nat.le_of_ble_eq_true rfl)⟩ (Nat.le_of_ble_eq_true rfl) ⟨(Nat.le_of_ble_eq_true rfl), (Nat.le_of_ble_eq_true rfl)⟩ dX3_blocked_8 rfl rfl (fun _ => ?_)
    refine gq_aload_n C dX3_blocked_11 rfl 0 rfl ?_
    refine gq_iconst (v := 1) C dX3_blocked_12 (by decide) ?_
    obtain ⟨m8, eo7, z6⟩ := bind_ex z5
    refine gq_V (As := [.int (1 : Int32)]) (rest := []) (j := 0) C (c_X3_tryMonths hN  eo7) (qn_l 0 (by decide) hN) (by decide) (by decide) rfl wk_5_114 wk_5_116 ws_X3_tryMonths wk_1_1 wk_5_117 hd_X3_tryMonths ⟨(Nat.le_of_ble_eq_true rfl), (Nat.le_of_ble_eq_true rfl)⟩ (Nat.le_of_ble_eq_true rfl) ⟨(Nat.le_of_ble_eq_true rfl), (Nat.le_of_ble_eq_true rfl)⟩ dX3_blocked_13 rfl rfl ?_
    refine gq_aload_n C dX3_blocked_16 rfl 0 rfl ?_
    obtain ⟨m11, eo10, z9⟩ := bind_ex z6
    refine gq_V (As := []) (rest := []) (j := 0) C (c_X3_keepUsualGot hN  eo10) (qn_l 0 (by decide) hN) (by decide) (by decide) rfl wk_6_46 wk_6_48 ws_X3_keepUsualGot wk_1_1 wk_6_49 hd_X3_keepUsualGot ⟨(Nat.le_of_ble_eq_true rfl), (Nat.le_of_ble_eq_true rfl)⟩ (Nat.le_of_ble_eq_true rfl) ⟨(Nat.le_of_ble_eq_true rfl), (Nat.le_of_ble_eq_true rfl)⟩ dX3_blocked_17 rfl rfl ?_
    refine gq_aload_n C dX3_blocked_20 rfl 0 rfl ?_
    refine gq_get0 C (qn_l 0 (by decide) hN) (by decide) 1 (by decide) wk_1_228 rfl dX3_blocked_21 ?_
    refine gq_aload_n C dX3_blocked_24 rfl 0 rfl ?_
    refine gq_get0 C (qn_l 0 (by decide) hN) (by decide) 0 (by decide) wk_1_227 rfl dX3_blocked_25 ?_
    obtain ⟨m14, eo13, z12⟩ := bind_ex z9
    refine gq_V (As := [.ref (eB E + 1)]) (rest := []) (j := 1) C (c_X1_copyFrom hN (show kd 23 = 1 by decide) (show kd 1 = 1 by decide) eo13) (qn_l 23 (by decide) hN) (by decide) (by decide) rfl wk_2_133 wk_2_134 wk_2_135 wk_1_2 wk_2_136 hd_X1_copyFrom ⟨(Nat.le_of_ble_eq_true rfl), (Nat.le_of_ble_eq_true rfl)⟩ (Nat.le_of_ble_eq_true rfl) ⟨(Nat.le_of_ble_eq_true rfl), (Nat.le_of_ble_eq_true rfl)⟩ dX3_blocked_28 rfl rfl ?_
    refine gq_aload_n C dX3_blocked_31 rfl 0 rfl ?_
    refine gq_get0 C (qn_l 0 (by decide) hN) (by decide) 1 (by decide) wk_1_228 rfl dX3_blocked_32 ?_
    refine gq_iload_n C dX3_blocked_35 rfl 1 rfl ?_
    obtain ⟨⟨x17, m18⟩, eo16, z15⟩ := bind_ex z12
    dsimp only at z15
    refine gq_V (As := [.int p1]) (rest := []) (j := 1) C (c_X1_runMonth hN (show kd 23 = 1 by decide) eo16) (qn_l 23 (by decide) hN) (by decide) (by decide) rfl wk_5_118 wk_5_119 wk_5_120 wk_1_2 wk_5_121 hd_X1_runMonth ⟨(Nat.le_of_ble_eq_true rfl), (Nat.le_of_ble_eq_true rfl)⟩ (Nat.le_of_ble_eq_true rfl) ⟨(Nat.le_of_ble_eq_true rfl), (Nat.le_of_ble_eq_true rfl)⟩ dX3_blocked_36 rfl rfl ?_
    refine gq_popi C dX3_blocked_39 ?_
    refine gq_aload_n C dX3_blocked_40 rfl 0 rfl ?_
    refine gq_iload_n C dX3_blocked_41 rfl 1 rfl ?_
    refine gq_iconst (v := 1) C dX3_blocked_42 (by decide) ?_
    obtain ⟨x21, eo20, z19⟩ := bind_ex z15
    refine gq_V (As := [.int p1, .int (1 : Int32)]) (rest := []) (j := 0) C (c_X3_othersThatGet hN  eo20) (qn_l 0 (by decide) hN) (by decide) (by decide) rfl wk_6_50 wk_6_52 ws_X3_othersThatGet wk_1_1 wk_6_53 hd_X3_othersThatGet ⟨(Nat.le_of_ble_eq_true rfl), (Nat.le_of_ble_eq_true rfl)⟩ (Nat.le_of_ble_eq_true rfl) ⟨(Nat.le_of_ble_eq_true rfl), (Nat.le_of_ble_eq_true rfl)⟩ dX3_blocked_43 rfl rfl ?_
    cases z19
    exact gx_ret (gq_iret C hr dX3_blocked_46 (Nat.le_of_ble_eq_true rfl) (Nat.le_of_ble_eq_true rfl))
  · cases z5
    refine gx_S (As := [.ref (eB E + 9), .int p1]) (rest := []) C (Or.inl rfl) (fun _ => rfl) hout (Nat.le_of_ble_eq_true rfl) (Nat.le_of_ble_eq_true rfl) (c_X3_needRow hN hl9 (show kd 9 = 2 by decide) eo2) wk_5_0 wk_5_1 wk_1_1 wk_5_2 hd_X3_needRow ⟨(Nat.le_of_ble_eq_true rfl), (Nat.le_of_ble_eq_true rfl)⟩ (Nat.le_of_ble_eq_true rfl) ⟨(Nat.le_of_ble_eq_true rfl), (Nat.le_of_ble_eq_true rfl)⟩ dX3_blocked_8 rfl rfl (fun h9 => absurd h9 c4)
abbrev rm_X3_record : Room := { frames := 3, cells := 0, slots := 0, locals := 110 }
def F_X3_record_18 (b6 : Nat) : Nat → Int32 → Mm → Option Mm
  | 0, _, _ => none
  | n + 1, v2, μ =>
  if (8 : Int32) ≤ v2 then
  (some μ)
  else
  ((aR μ 70 v2).bind fun b10 =>
  (sR μ 70 (v2 - (1 : Int32)) b10).bind fun m12 =>
  F_X3_record_18 b6 n (v2 + 1) m12)
def F_X3_record  (μ : Mm) : Option Mm :=
  (if (μ.1 0 5) < (8 : Int32) then
  (some μ)
  else
  ((aR μ 70 (0 : Int32)).bind fun b6 =>
  (F_X3_record_18 b6 qFuel (1 : Int32) μ).bind fun o15 =>
  (sR o15 70 (7 : Int32) b6).bind fun m17 =>
  (some (uI m17 0 5 (7 : Int32))).bind fun m19 =>
  some m19)).bind fun o21 =>
  (aR o21 70 (o21.1 0 5)).bind fun b22 =>
  (F_X1_copyFrom b22 1 o21).bind fun o25 =>
  (some (uI o25 0 5 ((o25.1 0 5) + (1 : Int32)))).bind fun m27 =>
  some m27
set_option maxHeartbeats 4000000 in
set_option maxRecDepth 100000 in
theorem l_X3_record_18 {l : Launch} {E : Ev} (hN : 295 ≤ eN E) {p : Program} {e : Env} {s : State} {m : MethodId} {args : Array Value} {below : List Frame} {meth : Method} {c : Code} (C : Cq E p s m args meth c cX3_record 3 RX3) {Q : State → Prop} {b6 : Nat} (k_b6 : kd b6 = 1) : ∀ (n : Nat) (v2 : Int32) (μ : Mm) (μx : Mm), F_X3_record_18 b6 n v2 μ = some μx → Gq E p l e rm_X3_record s m args below meth c 0 0 3 Q 44 [(0, .ref (eB E + 0)), (1, .ref (eB E + b6))] [] μx → Gq E p l e rm_X3_record s m args below meth c 0 0 3 Q 18 [(0, .ref (eB E + 0)), (1, .ref (eB E + b6)), (2, .int v2)] [] μ := by
  intro n
  induction n with
  | zero =>
    intro v2 μ μx z0 kk
    rw [F_X3_record_18] at z0
    cases z0
  | succ n ih =>
    intro v2 μ μx z0 kk
    rw [F_X3_record_18] at z0
    refine gq_iload_n C dX3_record_18 rfl 2 rfl ?_
    refine gq_bipush (v := 8) C dX3_record_19 (by decide) ?_
    rcases ite_ex z0 with ⟨c8, z9⟩ | ⟨c8, z9⟩
    · refine gq_icmp_ge_t (tgt := 44) C dX3_record_21 (by decide) c8 ?_
      cases z9
      exact gq_widen (Nat.le_of_ble_eq_true rfl) (Nat.le_of_ble_eq_true rfl) (gq_sub [0, 1] rfl kk)
    · refine gq_icmp_ge_f (tgt := 44) C dX3_record_21 (by decide) c8 ?_
      refine gq_aload_n C dX3_record_24 rfl 0 rfl ?_
      refine gq_get0 C (qn_l 0 (by decide) hN) (by decide) 4 (by decide) wk_1_231 rfl dX3_record_25 ?_
      refine gq_iload_n C dX3_record_28 rfl 2 rfl ?_
      refine gq_iconst (v := 1) C dX3_record_29 (by decide) ?_
      refine gq_isub C dX3_record_30 ?_
      refine gq_aload_n C dX3_record_31 rfl 0 rfl ?_
      refine gq_get0 C (qn_l 0 (by decide) hN) (by decide) 4 (by decide) wk_1_231 rfl dX3_record_32 ?_
      refine gq_iload_n C dX3_record_35 rfl 2 rfl ?_
      obtain ⟨b10, eb10, z11⟩ := bind_ex z9
      refine gq_aaload C (qn_l 70 (by decide) hN) (by decide) eb10 dX3_record_36 (fun k_b10 => ?_)
      obtain ⟨m12, em12, z13⟩ := bind_ex z11
      refine gq_aastore C (qn_l 70 (by decide) hN) hN (by decide) em12 dX3_record_37 ?_
      refine gq_iinc (v := (v2 + 1)) (lv' := [(2, .int (v2 + 1)), (0, .ref (eB E + 0)), (1, .ref (eB E + b6))]) (q := 2) C dX3_record_38 rfl rfl (by decide) rfl ?_
      refine gq_goto (tgt := 18) C dX3_record_41 (by decide) ?_
      refine gq_widen (k' := 0) (n' := 0) (Nat.le_of_ble_eq_true rfl) (Nat.le_of_ble_eq_true rfl) (gq_sub [1, 2, 0] rfl ?_)
      exact ih _ _ _ z13 kk
set_option maxHeartbeats 4000000 in
set_option maxRecDepth 100000 in
theorem c_X3_record {l : Launch} {E : Ev} (hN : 295 ≤ eN E) {μ : Mm} {μ' : Mm} (z0 : F_X3_record  μ = some μ') : Ct l E yX3_record (Cond.code yX3_record cX3_record 3 none :: GW) rm_X3_record [.ref (eB E + 0)] μ none μ' := by
  refine ct_of (by decide) (Nat.le_of_ble_eq_true rfl) (fun p e s m args below meth c C hr => ?_)
  have C : Cq E p s m args meth c cX3_record 3 RX3 := C
  refine gq_lv (lv' := [(0, .ref (eB E + 0))]) rfl ?_
  unfold F_X3_record at z0
  refine gq_aload_n C dX3_record_0 rfl 0 rfl ?_
  refine gq_get0 C (qn_l 0 (by decide) hN) (by decide) 5 (by decide) wk_1_232 rfl dX3_record_1 ?_
  refine gq_bipush (v := 8) C dX3_record_4 (by decide) ?_
  obtain ⟨m1, z2, z3⟩ := bind_ex z0
  refine gq_join (k' := 0) (n' := 0) (pc' := 58) (lv' := [(0, .ref (eB E + 0))]) (st' := []) (μ' := m1) ?_ (fun J58 => ?_)
  · refine gq_aload_n C dX3_record_58 rfl 0 rfl ?_
    refine gq_get0 C (qn_l 0 (by decide) hN) (by decide) 4 (by decide) wk_1_231 rfl dX3_record_59 ?_
    refine gq_aload_n C dX3_record_62 rfl 0 rfl ?_
    refine gq_get0 C (qn_l 0 (by decide) hN) (by decide) 5 (by decide) wk_1_232 rfl dX3_record_63 ?_
    obtain ⟨b22, eb22, z23⟩ := bind_ex z3
    refine gq_aaload C (qn_l 70 (by decide) hN) (by decide) eb22 dX3_record_66 (fun k_b22 => ?_)
    refine gq_aload_n C dX3_record_67 rfl 0 rfl ?_
    refine gq_get0 C (qn_l 0 (by decide) hN) (by decide) 0 (by decide) wk_1_227 rfl dX3_record_68 ?_
    obtain ⟨m26, eo25, z24⟩ := bind_ex z23
    refine gq_V (As := [.ref (eB E + 1)]) (rest := []) C (c_X1_copyFrom hN k_b22 (show kd 1 = 1 by decide) eo25) (st_n k_b22 hN 0 (by decide)) k_b22 (by decide) rfl wk_2_133 wk_2_134 wk_2_135 wk_1_2 wk_2_136 hd_X1_copyFrom ⟨(Nat.le_of_ble_eq_true rfl), (Nat.le_of_ble_eq_true rfl)⟩ (Nat.le_of_ble_eq_true rfl) ⟨(Nat.le_of_ble_eq_true rfl), (Nat.le_of_ble_eq_true rfl)⟩ dX3_record_71 rfl rfl ?_
    refine gq_aload_n C dX3_record_74 rfl 0 rfl ?_
    refine gq_dupr C dX3_record_75 ?_
    refine gq_get0 C (qn_l 0 (by decide) hN) (by decide) 5 (by decide) wk_1_232 rfl dX3_record_76 ?_
    refine gq_iconst (v := 1) C dX3_record_79 (by decide) ?_
    refine gq_iadd C dX3_record_80 ?_
    obtain ⟨m27, em27, z28⟩ := bind_ex z24
    refine gq_put0_5 C (qn_l 0 (by decide) hN) (by decide) wk_1_232 (Option.some.inj em27).symm dX3_record_81 ?_
    cases z28
    exact gq_vret C hr dX3_record_84 (Nat.le_of_ble_eq_true rfl) (Nat.le_of_ble_eq_true rfl)
  · rcases ite_ex z2 with ⟨c4, z5⟩ | ⟨c4, z5⟩
    · refine gq_icmp_lt_t (tgt := 58) C dX3_record_6 (by decide) c4 ?_
      cases z5
      exact gq_widen (Nat.le_of_ble_eq_true rfl) (Nat.le_of_ble_eq_true rfl) (gq_sub [0] rfl J58)
    · refine gq_icmp_lt_f (tgt := 58) C dX3_record_6 (by decide) c4 ?_
      refine gq_aload_n C dX3_record_9 rfl 0 rfl ?_
      refine gq_get0 C (qn_l 0 (by decide) hN) (by decide) 4 (by decide) wk_1_231 rfl dX3_record_10 ?_
      refine gq_iconst (v := 0) C dX3_record_13 (by decide) ?_
      obtain ⟨b6, eb6, z7⟩ := bind_ex z5
      refine gq_aaload C (qn_l 70 (by decide) hN) (by decide) eb6 dX3_record_14 (fun k_b6 => ?_)
      refine gq_astore_n (lv' := [(1, .ref (eB E + b6)), (0, .ref (eB E + 0))]) C dX3_record_15 rfl (by decide) rfl ?_
      refine gq_iconst (v := 1) C dX3_record_16 (by decide) ?_
      refine gq_istore_n (lv' := [(2, .int (1 : Int32)), (1, .ref (eB E + b6)), (0, .ref (eB E + 0))]) C dX3_record_17 rfl (by decide) rfl ?_
      obtain ⟨m16, eo15, z14⟩ := bind_ex z7
      refine gq_widen (k' := 0) (n' := 0) (Nat.le_of_ble_eq_true rfl) (Nat.le_of_ble_eq_true rfl) (gq_sub [2, 1, 0] rfl ?_)
      refine l_X3_record_18 hN C k_b6 qFuel _ _ _ eo15 ?_
      refine gq_aload_n C dX3_record_44 rfl 0 rfl ?_
      refine gq_get0 C (qn_l 0 (by decide) hN) (by decide) 4 (by decide) wk_1_231 rfl dX3_record_45 ?_
      refine gq_bipush (v := 7) C dX3_record_48 (by decide) ?_
      refine gq_aload_n C dX3_record_50 rfl 1 rfl ?_
      obtain ⟨m17, em17, z18⟩ := bind_ex z14
      refine gq_aastore C (qn_l 70 (by decide) hN) hN (by decide) em17 dX3_record_51 ?_
      refine gq_aload_n C dX3_record_52 rfl 0 rfl ?_
      refine gq_bipush (v := 7) C dX3_record_53 (by decide) ?_
      obtain ⟨m19, em19, z20⟩ := bind_ex z18
      refine gq_put0_5 C (qn_l 0 (by decide) hN) (by decide) wk_1_232 (Option.some.inj em19).symm dX3_record_55 ?_
      cases z20
      exact gq_widen (Nat.le_of_ble_eq_true rfl) (Nat.le_of_ble_eq_true rfl) (gq_sub [0] rfl J58)
abbrev rm_X3_run : Room := { frames := 7, cells := 2, slots := 12, locals := 149 }
def F_X3_run_19 (u1 : Int32) : Nat → Int32 → Int32 → Mm → Option (Int32 × Mm)
  | 0, _, _, _ => none
  | n + 1, v2, v3, μ =>
  if u1 ≤ v3 then
  (some (v2, μ))
  else
  ((F_X1_runMonth 1 (-1 : Int32) μ).bind fun o17 =>
  F_X3_run_19 u1 n (v2 + o17.1) (v3 + 1) o17.2)
def F_X3_run (p1 : Int32) (μ : Mm) : Option (Nat × Int32 × Mm) :=
  (F_X3_needRange p1 (1 : Int32) (36 : Int32) μ).bind fun o2 =>
  if o2 = 0 then ((F_X3_needReaches  μ).bind fun o7 =>
  if o7 = 0 then ((F_X3_record  μ).bind fun o12 =>
  (F_X3_run_19 p1 qFuel (0 : Int32) (0 : Int32) o12).bind fun o21 =>
  some (0, o21.1, o21.2))
  else some (o7, 0, μ))
  else some (o2, 0, μ)
set_option maxHeartbeats 4000000 in
set_option maxRecDepth 100000 in
theorem l_X3_run_19 {l : Launch} {E : Ev} (hN : 295 ≤ eN E) {p : Program} {e : Env} {s : State} {m : MethodId} {args : Array Value} {below : List Frame} {meth : Method} {c : Code} (hl9 : l.stackTraces = false) (hout : ∀ x ∈ c.exceptionTable.toList, False) (C : Cq E p s m args meth c cX3_run 4 RX3) {Q : State → Prop} {u1 : Int32} : ∀ (n : Nat) (v2 : Int32) (v3 : Int32) (μ : Mm) (w2 : Int32) (μx : Mm), F_X3_run_19 u1 n v2 v3 μ = some (w2, μx) → Gq E p l e rm_X3_run s m args below meth c 2 12 4 Q 41 [(2, .int w2)] [] μx → Gq E p l e rm_X3_run s m args below meth c 2 12 4 Q 19 [(0, .ref (eB E + 0)), (1, .int u1), (2, .int v2), (3, .int v3)] [] μ := by
  intro n
  induction n with
  | zero =>
    intro v2 v3 μ w2 μx z0 kk
    rw [F_X3_run_19] at z0
    cases z0
  | succ n ih =>
    intro v2 v3 μ w2 μx z0 kk
    rw [F_X3_run_19] at z0
    refine gq_iload_n C dX3_run_19 rfl 3 rfl ?_
    refine gq_iload_n C dX3_run_20 rfl 1 rfl ?_
    rcases ite_ex z0 with ⟨c14, z15⟩ | ⟨c14, z15⟩
    · refine gq_icmp_ge_t (tgt := 41) C dX3_run_21 (by decide) c14 ?_
      cases z15
      exact gq_widen (Nat.le_of_ble_eq_true rfl) (Nat.le_of_ble_eq_true rfl) (gq_sub [2] rfl kk)
    · refine gq_icmp_ge_f (tgt := 41) C dX3_run_21 (by decide) c14 ?_
      refine gq_iload_n C dX3_run_24 rfl 2 rfl ?_
      refine gq_aload_n C dX3_run_25 rfl 0 rfl ?_
      refine gq_get0 C (qn_l 0 (by decide) hN) (by decide) 0 (by decide) wk_1_227 rfl dX3_run_26 ?_
      refine gq_iconst (v := -1) C dX3_run_29 (by decide) ?_
      obtain ⟨⟨x18, m19⟩, eo17, z16⟩ := bind_ex z15
      dsimp only at z16
      refine gq_V (As := [.int (-1 : Int32)]) (rest := [.int v2]) (j := 1) C (c_X1_runMonth hN (show kd 1 = 1 by decide) eo17) (qn_l 1 (by decide) hN) (by decide) (by decide) rfl wk_5_118 wk_5_119 wk_5_120 wk_1_2 wk_5_121 hd_X1_runMonth ⟨(Nat.le_of_ble_eq_true rfl), (Nat.le_of_ble_eq_true rfl)⟩ (Nat.le_of_ble_eq_true rfl) ⟨(Nat.le_of_ble_eq_true rfl), (Nat.le_of_ble_eq_true rfl)⟩ dX3_run_30 rfl rfl ?_
      refine gq_iadd C dX3_run_33 ?_
      refine gq_istore_n (lv' := [(2, .int (v2 + x18)), (0, .ref (eB E + 0)), (1, .int u1), (3, .int v3)]) C dX3_run_34 rfl (by decide) rfl ?_
      refine gq_iinc (v := (v3 + 1)) (lv' := [(3, .int (v3 + 1)), (2, .int (v2 + x18)), (0, .ref (eB E + 0)), (1, .int u1)]) (q := 3) C dX3_run_35 rfl rfl (by decide) rfl ?_
      refine gq_goto (tgt := 19) C dX3_run_38 (by decide) ?_
      refine gq_widen (k' := 2) (n' := 12) (Nat.le_of_ble_eq_true rfl) (Nat.le_of_ble_eq_true rfl) (gq_sub [2, 3, 1, 0] rfl ?_)
      exact ih _ _ _ _ _ z16 kk
set_option maxHeartbeats 4000000 in
set_option maxRecDepth 100000 in
theorem c_X3_run {l : Launch} {E : Ev} (hN : 295 ≤ eN E) (hl9 : l.stackTraces = false) {p1 : Int32} {μ : Mm} {ec : Nat} {r : Int32} {μ' : Mm} (z0 : F_X3_run p1 μ = some (ec, r, μ')) : Cx l E yX3_run (Cond.code yX3_run cX3_run 4 (some .int) :: GW) rm_X3_run [.ref (eB E + 0), .int p1] μ ec (some (.int r)) μ' := by
  refine cx_of (by decide) (Nat.le_of_ble_eq_true rfl) (fun p e s m args below meth c C hr hout => ?_)
  have C : Cq E p s m args meth c cX3_run 4 RX3 := C
  refine gq_lv (lv' := [(0, .ref (eB E + 0)), (1, .int p1)]) rfl ?_
  unfold F_X3_run at z0
  refine gq_iload_n C dX3_run_0 rfl 1 rfl ?_
  refine gq_iconst (v := 1) C dX3_run_1 (by decide) ?_
  refine gq_bipush (v := 36) C dX3_run_2 (by decide) ?_
  obtain ⟨x3, eo2, z1⟩ := bind_ex z0
  rcases ite_ex z1 with ⟨c4, z5⟩ | ⟨c4, z5⟩
  · refine gx_S (As := [.int p1, .int (1 : Int32), .int (36 : Int32)]) (rest := []) C (μF := μ) (oF := none) (mcF := 1000000) (msF := 1000000) (Or.inr c4) (fun h9 => absurd c4 h9) hout (Nat.le_of_ble_eq_true rfl) (Nat.le_of_ble_eq_true rfl) (c_X3_needRange hN hl9  eo2) wk_5_110 wk_5_111 wk_1_1 wk_5_112 hd_X3_needRange ⟨(Nat.le_of_ble_eq_true rfl), (Nat.le_of_ble_eq_true rfl)⟩ (Nat.le_of_ble_eq_true rfl) ⟨(Nat.le_of_ble_eq_true rfl), (Nat.le_of_ble_eq_true rfl)⟩ dX3_run_4 rfl rfl (fun _ => ?_)
    refine gq_aload_n C dX3_run_7 rfl 0 rfl ?_
    obtain ⟨x8, eo7, z6⟩ := bind_ex z5
    rcases ite_ex z6 with ⟨c9, z10⟩ | ⟨c9, z10⟩
    · refine gx_V (As := []) (rest := []) (j := 0) C (μF := μ) (oF := none) (mcF := 1000000) (msF := 1000000) (Or.inr c9) (fun h9 => absurd c9 h9) hout (Nat.le_of_ble_eq_true rfl) (Nat.le_of_ble_eq_true rfl) (c_X3_needReaches hN hl9  eo7) (qn_l 0 (by decide) hN) (by decide) (by decide) rfl wk_5_233 wk_5_235 ws_X3_needReaches wk_1_1 wk_5_236 hd_X3_needReaches ⟨(Nat.le_of_ble_eq_true rfl), (Nat.le_of_ble_eq_true rfl)⟩ (Nat.le_of_ble_eq_true rfl) ⟨(Nat.le_of_ble_eq_true rfl), (Nat.le_of_ble_eq_true rfl)⟩ dX3_run_8 rfl rfl (fun _ => ?_)
      refine gq_aload_n C dX3_run_11 rfl 0 rfl ?_
      obtain ⟨m13, eo12, z11⟩ := bind_ex z10
      refine gq_V (As := []) (rest := []) (j := 0) C (c_X3_record hN  eo12) (qn_l 0 (by decide) hN) (by decide) (by decide) rfl wk_6_68 wk_6_70 ws_X3_record wk_1_1 wk_6_71 hd_X3_record ⟨(Nat.le_of_ble_eq_true rfl), (Nat.le_of_ble_eq_true rfl)⟩ (Nat.le_of_ble_eq_true rfl) ⟨(Nat.le_of_ble_eq_true rfl), (Nat.le_of_ble_eq_true rfl)⟩ dX3_run_12 rfl rfl ?_
      refine gq_iconst (v := 0) C dX3_run_15 (by decide) ?_
      refine gq_istore_n (lv' := [(2, .int (0 : Int32)), (0, .ref (eB E + 0)), (1, .int p1)]) C dX3_run_16 rfl (by decide) rfl ?_
      refine gq_iconst (v := 0) C dX3_run_17 (by decide) ?_
      refine gq_istore_n (lv' := [(3, .int (0 : Int32)), (2, .int (0 : Int32)), (0, .ref (eB E + 0)), (1, .int p1)]) C dX3_run_18 rfl (by decide) rfl ?_
      obtain ⟨⟨x22, m23⟩, eo21, z20⟩ := bind_ex z11
      dsimp only at z20
      refine gq_widen (k' := 2) (n' := 12) (Nat.le_of_ble_eq_true rfl) (Nat.le_of_ble_eq_true rfl) (gq_sub [2, 3, 1, 0] rfl ?_)
      refine l_X3_run_19 hN hl9 hout C  qFuel _ _ _ _ _ eo21 ?_
      refine gq_iload_n C dX3_run_41 rfl 0 rfl ?_
      cases z20
      exact gx_ret (gq_iret C hr dX3_run_42 (Nat.le_of_ble_eq_true rfl) (Nat.le_of_ble_eq_true rfl))
    · cases z10
      refine gx_V (As := []) (rest := []) (j := 0) C (Or.inl rfl) (fun _ => rfl) hout (Nat.le_of_ble_eq_true rfl) (Nat.le_of_ble_eq_true rfl) (c_X3_needReaches hN hl9  eo7) (qn_l 0 (by decide) hN) (by decide) (by decide) rfl wk_5_233 wk_5_235 ws_X3_needReaches wk_1_1 wk_5_236 hd_X3_needReaches ⟨(Nat.le_of_ble_eq_true rfl), (Nat.le_of_ble_eq_true rfl)⟩ (Nat.le_of_ble_eq_true rfl) ⟨(Nat.le_of_ble_eq_true rfl), (Nat.le_of_ble_eq_true rfl)⟩ dX3_run_8 rfl rfl (fun h9 => absurd h9 c9)
  · cases z5
    refine gx_S (As := [.int p1, .int (1 : Int32), .int (36 : Int32)]) (rest := []) C (Or.inl rfl) (fun _ => rfl) hout (Nat.le_of_ble_eq_true rfl) (Nat.le_of_ble_eq_true rfl) (c_X3_needRange hN hl9  eo2) wk_5_110 wk_5_111 wk_1_1 wk_5_112 hd_X3_needRange ⟨(Nat.le_of_ble_eq_true rfl), (Nat.le_of_ble_eq_true rfl)⟩ (Nat.le_of_ble_eq_true rfl) ⟨(Nat.le_of_ble_eq_true rfl), (Nat.le_of_ble_eq_true rfl)⟩ dX3_run_4 rfl rfl (fun h9 => absurd h9 c4)
abbrev rm_X3_lease : Room := { frames := 7, cells := 7, slots := 42, locals := 132 }
def F_X3_lease (p1 : Int32) (p2 : Int32) (p3 : Int32) (p4 : Int32) (p5 : Int32) (p6 : Int32) (μ : Mm) : Option (Nat × Int32 × Mm) :=
  (F_X3_needRow 9 p1 μ).bind fun o2 =>
  if o2 = 0 then ((F_X3_needRow 6 p2 μ).bind fun o7 =>
  if o7 = 0 then ((F_X3_needRow 2 p3 μ).bind fun o12 =>
  if o12 = 0 then ((F_X3_needRange p4 (1 : Int32) (999 : Int32) μ).bind fun o17 =>
  if o17 = 0 then ((F_X3_needRange p5 (0 : Int32) (99 : Int32) μ).bind fun o22 =>
  if o22 = 0 then ((F_X3_needRange p6 (1 : Int32) (36 : Int32) μ).bind fun o27 =>
  if o27 = 0 then (if (μ.1 13 2) < (8 : Int32) then
  ((F_X3_record  μ).bind fun o34 =>
  (F_X1_addLease 1 p1 p2 p3 p4 p5 p6 o34).bind fun o37 =>
  some (0, o37.1, o37.2))
  else
  (some (4, 0, μ)))
  else some (o27, 0, μ))
  else some (o22, 0, μ))
  else some (o17, 0, μ))
  else some (o12, 0, μ))
  else some (o7, 0, μ))
  else some (o2, 0, μ)
set_option maxHeartbeats 4000000 in
set_option maxRecDepth 100000 in
theorem c_X3_lease {l : Launch} {E : Ev} (hN : 295 ≤ eN E) (hl9 : l.stackTraces = false) {p1 : Int32} {p2 : Int32} {p3 : Int32} {p4 : Int32} {p5 : Int32} {p6 : Int32} {μ : Mm} {ec : Nat} {r : Int32} {μ' : Mm} (z0 : F_X3_lease p1 p2 p3 p4 p5 p6 μ = some (ec, r, μ')) : Cx l E yX3_lease (Cond.code yX3_lease cX3_lease 7 (some .int) :: GW) rm_X3_lease [.ref (eB E + 0), .int p1, .int p2, .int p3, .int p4, .int p5, .int p6] μ ec (some (.int r)) μ' := by
  refine cx_of (by decide) (Nat.le_of_ble_eq_true rfl) (fun p e s m args below meth c C hr hout => ?_)
  have C : Cq E p s m args meth c cX3_lease 7 RX3 := C
  refine gq_lv (lv' := [(0, .ref (eB E + 0)), (1, .int p1), (2, .int p2), (3, .int p3), (4, .int p4), (5, .int p5), (6, .int p6)]) rfl ?_
  unfold F_X3_lease at z0
  refine gq_aload_n C dX3_lease_0 rfl 0 rfl ?_
  refine gq_get0 C (qn_l 0 (by decide) hN) (by decide) 0 (by decide) wk_1_227 rfl dX3_lease_1 ?_
  refine gq_get1N C (qn_l 1 (by decide) hN) (by decide) 6 (by decide) wk_1_76 rfl dX3_lease_4 ?_
  refine gq_iload_n C dX3_lease_7 rfl 1 rfl ?_
  obtain ⟨x3, eo2, z1⟩ := bind_ex z0
  rcases ite_ex z1 with ⟨c4, z5⟩ | ⟨c4, z5⟩
  · refine gx_S (As := [.ref (eB E + 9), .int p1]) (rest := []) C (μF := μ) (oF := none) (mcF := 1000000) (msF := 1000000) (Or.inr c4) (fun h9 => absurd c4 h9) hout (Nat.le_of_ble_eq_true rfl) (Nat.le_of_ble_eq_true rfl) (c_X3_needRow hN hl9 (show kd 9 = 2 by decide) eo2) wk_5_0 wk_5_1 wk_1_1 wk_5_2 hd_X3_needRow ⟨(Nat.le_of_ble_eq_true rfl), (Nat.le_of_ble_eq_true rfl)⟩ (Nat.le_of_ble_eq_true rfl) ⟨(Nat.le_of_ble_eq_true rfl), (Nat.le_of_ble_eq_true rfl)⟩ dX3_lease_8 rfl rfl (fun _ => ?_)
    refine gq_aload_n C dX3_lease_11 rfl 0 rfl ?_
    refine gq_get0 C (qn_l 0 (by decide) hN) (by decide) 0 (by decide) wk_1_227 rfl dX3_lease_12 ?_
    refine gq_get1N C (qn_l 1 (by decide) hN) (by decide) 4 (by decide) wk_1_72 rfl dX3_lease_15 ?_
    refine gq_iload_n C dX3_lease_18 rfl 2 rfl ?_
    obtain ⟨x8, eo7, z6⟩ := bind_ex z5
    rcases ite_ex z6 with ⟨c9, z10⟩ | ⟨c9, z10⟩
    · refine gx_S (As := [.ref (eB E + 6), .int p2]) (rest := []) C (μF := μ) (oF := none) (mcF := 1000000) (msF := 1000000) (Or.inr c9) (fun h9 => absurd c9 h9) hout (Nat.le_of_ble_eq_true rfl) (Nat.le_of_ble_eq_true rfl) (c_X3_needRow hN hl9 (show kd 6 = 2 by decide) eo7) wk_5_0 wk_5_1 wk_1_1 wk_5_2 hd_X3_needRow ⟨(Nat.le_of_ble_eq_true rfl), (Nat.le_of_ble_eq_true rfl)⟩ (Nat.le_of_ble_eq_true rfl) ⟨(Nat.le_of_ble_eq_true rfl), (Nat.le_of_ble_eq_true rfl)⟩ dX3_lease_19 rfl rfl (fun _ => ?_)
      refine gq_aload_n C dX3_lease_22 rfl 0 rfl ?_
      refine gq_get0 C (qn_l 0 (by decide) hN) (by decide) 0 (by decide) wk_1_227 rfl dX3_lease_23 ?_
      refine gq_get1N C (qn_l 1 (by decide) hN) (by decide) 0 (by decide) wk_1_62 rfl dX3_lease_26 ?_
      refine gq_iload_n C dX3_lease_29 rfl 3 rfl ?_
      obtain ⟨x13, eo12, z11⟩ := bind_ex z10
      rcases ite_ex z11 with ⟨c14, z15⟩ | ⟨c14, z15⟩
      · refine gx_S (As := [.ref (eB E + 2), .int p3]) (rest := []) C (μF := μ) (oF := none) (mcF := 1000000) (msF := 1000000) (Or.inr c14) (fun h9 => absurd c14 h9) hout (Nat.le_of_ble_eq_true rfl) (Nat.le_of_ble_eq_true rfl) (c_X3_needRow hN hl9 (show kd 2 = 2 by decide) eo12) wk_5_0 wk_5_1 wk_1_1 wk_5_2 hd_X3_needRow ⟨(Nat.le_of_ble_eq_true rfl), (Nat.le_of_ble_eq_true rfl)⟩ (Nat.le_of_ble_eq_true rfl) ⟨(Nat.le_of_ble_eq_true rfl), (Nat.le_of_ble_eq_true rfl)⟩ dX3_lease_30 rfl rfl (fun _ => ?_)
        refine gq_iload C dX3_lease_33 4 rfl ?_
        refine gq_iconst (v := 1) C dX3_lease_35 (by decide) ?_
        refine gq_sipush (v := 999) C dX3_lease_36 (by decide) ?_
        obtain ⟨x18, eo17, z16⟩ := bind_ex z15
        rcases ite_ex z16 with ⟨c19, z20⟩ | ⟨c19, z20⟩
        · refine gx_S (As := [.int p4, .int (1 : Int32), .int (999 : Int32)]) (rest := []) C (μF := μ) (oF := none) (mcF := 1000000) (msF := 1000000) (Or.inr c19) (fun h9 => absurd c19 h9) hout (Nat.le_of_ble_eq_true rfl) (Nat.le_of_ble_eq_true rfl) (c_X3_needRange hN hl9  eo17) wk_5_110 wk_5_111 wk_1_1 wk_5_112 hd_X3_needRange ⟨(Nat.le_of_ble_eq_true rfl), (Nat.le_of_ble_eq_true rfl)⟩ (Nat.le_of_ble_eq_true rfl) ⟨(Nat.le_of_ble_eq_true rfl), (Nat.le_of_ble_eq_true rfl)⟩ dX3_lease_39 rfl rfl (fun _ => ?_)
          refine gq_iload C dX3_lease_42 5 rfl ?_
          refine gq_iconst (v := 0) C dX3_lease_44 (by decide) ?_
          refine gq_bipush (v := 99) C dX3_lease_45 (by decide) ?_
          obtain ⟨x23, eo22, z21⟩ := bind_ex z20
          rcases ite_ex z21 with ⟨c24, z25⟩ | ⟨c24, z25⟩
          · refine gx_S (As := [.int p5, .int (0 : Int32), .int (99 : Int32)]) (rest := []) C (μF := μ) (oF := none) (mcF := 1000000) (msF := 1000000) (Or.inr c24) (fun h9 => absurd c24 h9) hout (Nat.le_of_ble_eq_true rfl) (Nat.le_of_ble_eq_true rfl) (c_X3_needRange hN hl9  eo22) wk_5_110 wk_5_111 wk_1_1 wk_5_112 hd_X3_needRange ⟨(Nat.le_of_ble_eq_true rfl), (Nat.le_of_ble_eq_true rfl)⟩ (Nat.le_of_ble_eq_true rfl) ⟨(Nat.le_of_ble_eq_true rfl), (Nat.le_of_ble_eq_true rfl)⟩ dX3_lease_47 rfl rfl (fun _ => ?_)
            refine gq_iload C dX3_lease_50 6 rfl ?_
            refine gq_iconst (v := 1) C dX3_lease_52 (by decide) ?_
            refine gq_bipush (v := 36) C dX3_lease_53 (by decide) ?_
            obtain ⟨x28, eo27, z26⟩ := bind_ex z25
            rcases ite_ex z26 with ⟨c29, z30⟩ | ⟨c29, z30⟩
            · refine gx_S (As := [.int p6, .int (1 : Int32), .int (36 : Int32)]) (rest := []) C (μF := μ) (oF := none) (mcF := 1000000) (msF := 1000000) (Or.inr c29) (fun h9 => absurd c29 h9) hout (Nat.le_of_ble_eq_true rfl) (Nat.le_of_ble_eq_true rfl) (c_X3_needRange hN hl9  eo27) wk_5_110 wk_5_111 wk_1_1 wk_5_112 hd_X3_needRange ⟨(Nat.le_of_ble_eq_true rfl), (Nat.le_of_ble_eq_true rfl)⟩ (Nat.le_of_ble_eq_true rfl) ⟨(Nat.le_of_ble_eq_true rfl), (Nat.le_of_ble_eq_true rfl)⟩ dX3_lease_55 rfl rfl (fun _ => ?_)
              refine gq_aload_n C dX3_lease_58 rfl 0 rfl ?_
              refine gq_get0 C (qn_l 0 (by decide) hN) (by decide) 0 (by decide) wk_1_227 rfl dX3_lease_59 ?_
              refine gq_get1N C (qn_l 1 (by decide) hN) (by decide) 9 (by decide) wk_1_81 rfl dX3_lease_62 ?_
              refine gq_get2N C (qn_l 13 (by decide) hN) (by decide) 2 (by decide) wk_1_50 rfl dX3_lease_65 ?_
              refine gq_bipush (v := 8) C dX3_lease_68 (by decide) ?_
              rcases ite_ex z30 with ⟨c31, z32⟩ | ⟨c31, z32⟩
              · refine gq_icmp_lt_t (tgt := 83) C dX3_lease_70 (by decide) c31 ?_
                refine gq_aload_n C dX3_lease_83 rfl 0 rfl ?_
                obtain ⟨m35, eo34, z33⟩ := bind_ex z32
                refine gq_V (As := []) (rest := []) (j := 0) C (c_X3_record hN  eo34) (qn_l 0 (by decide) hN) (by decide) (by decide) rfl wk_6_68 wk_6_70 ws_X3_record wk_1_1 wk_6_71 hd_X3_record ⟨(Nat.le_of_ble_eq_true rfl), (Nat.le_of_ble_eq_true rfl)⟩ (Nat.le_of_ble_eq_true rfl) ⟨(Nat.le_of_ble_eq_true rfl), (Nat.le_of_ble_eq_true rfl)⟩ dX3_lease_84 rfl rfl ?_
                refine gq_aload_n C dX3_lease_87 rfl 0 rfl ?_
                refine gq_get0 C (qn_l 0 (by decide) hN) (by decide) 0 (by decide) wk_1_227 rfl dX3_lease_88 ?_
                refine gq_iload_n C dX3_lease_91 rfl 1 rfl ?_
                refine gq_iload_n C dX3_lease_92 rfl 2 rfl ?_
                refine gq_iload_n C dX3_lease_93 rfl 3 rfl ?_
                refine gq_iload C dX3_lease_94 4 rfl ?_
                refine gq_iload C dX3_lease_96 5 rfl ?_
                refine gq_iload C dX3_lease_98 6 rfl ?_
                obtain ⟨⟨x38, m39⟩, eo37, z36⟩ := bind_ex z33
                dsimp only at z36
                refine gq_V (As := [.int p1, .int p2, .int p3, .int p4, .int p5, .int p6]) (rest := []) (j := 1) C (c_X1_addLease hN (show kd 1 = 1 by decide) eo37) (qn_l 1 (by decide) hN) (by decide) (by decide) rfl wk_6_38 wk_4_168 wk_4_169 wk_1_2 wk_4_170 hd_X1_addLease ⟨(Nat.le_of_ble_eq_true rfl), (Nat.le_of_ble_eq_true rfl)⟩ (Nat.le_of_ble_eq_true rfl) ⟨(Nat.le_of_ble_eq_true rfl), (Nat.le_of_ble_eq_true rfl)⟩ dX3_lease_100 rfl rfl ?_
                cases z36
                exact gx_ret (gq_iret C hr dX3_lease_103 (Nat.le_of_ble_eq_true rfl) (Nat.le_of_ble_eq_true rfl))
              · refine gq_icmp_lt_f (tgt := 83) C dX3_lease_70 (by decide) c31 ?_
                cases z32
                exact gx_throw C hl9 (cls := "java/lang/IllegalStateException") (text := "too many leases run") (names := ["java/lang/RuntimeException", "java/lang/Exception"]) (j := 17) (by decide +kernel) (by decide +kernel) wk_5_237 wk_1_20 (by decide +kernel) (at_X3_231 C) at_X3_231_g dX3_lease_73 dX3_lease_76 dX3_lease_77 dX3_lease_79 dX3_lease_82 hout (by decide) rfl (Nat.le_of_ble_eq_true rfl) (Nat.le_of_ble_eq_true rfl) (Nat.le_of_ble_eq_true rfl) (Nat.le_of_ble_eq_true rfl) (Nat.le_of_ble_eq_true rfl) (Nat.le_of_ble_eq_true rfl)
            · cases z30
              refine gx_S (As := [.int p6, .int (1 : Int32), .int (36 : Int32)]) (rest := []) C (Or.inl rfl) (fun _ => rfl) hout (Nat.le_of_ble_eq_true rfl) (Nat.le_of_ble_eq_true rfl) (c_X3_needRange hN hl9  eo27) wk_5_110 wk_5_111 wk_1_1 wk_5_112 hd_X3_needRange ⟨(Nat.le_of_ble_eq_true rfl), (Nat.le_of_ble_eq_true rfl)⟩ (Nat.le_of_ble_eq_true rfl) ⟨(Nat.le_of_ble_eq_true rfl), (Nat.le_of_ble_eq_true rfl)⟩ dX3_lease_55 rfl rfl (fun h9 => absurd h9 c29)
          · cases z25
            refine gx_S (As := [.int p5, .int (0 : Int32), .int (99 : Int32)]) (rest := []) C (Or.inl rfl) (fun _ => rfl) hout (Nat.le_of_ble_eq_true rfl) (Nat.le_of_ble_eq_true rfl) (c_X3_needRange hN hl9  eo22) wk_5_110 wk_5_111 wk_1_1 wk_5_112 hd_X3_needRange ⟨(Nat.le_of_ble_eq_true rfl), (Nat.le_of_ble_eq_true rfl)⟩ (Nat.le_of_ble_eq_true rfl) ⟨(Nat.le_of_ble_eq_true rfl), (Nat.le_of_ble_eq_true rfl)⟩ dX3_lease_47 rfl rfl (fun h9 => absurd h9 c24)
        · cases z20
          refine gx_S (As := [.int p4, .int (1 : Int32), .int (999 : Int32)]) (rest := []) C (Or.inl rfl) (fun _ => rfl) hout (Nat.le_of_ble_eq_true rfl) (Nat.le_of_ble_eq_true rfl) (c_X3_needRange hN hl9  eo17) wk_5_110 wk_5_111 wk_1_1 wk_5_112 hd_X3_needRange ⟨(Nat.le_of_ble_eq_true rfl), (Nat.le_of_ble_eq_true rfl)⟩ (Nat.le_of_ble_eq_true rfl) ⟨(Nat.le_of_ble_eq_true rfl), (Nat.le_of_ble_eq_true rfl)⟩ dX3_lease_39 rfl rfl (fun h9 => absurd h9 c19)
      · cases z15
        refine gx_S (As := [.ref (eB E + 2), .int p3]) (rest := []) C (Or.inl rfl) (fun _ => rfl) hout (Nat.le_of_ble_eq_true rfl) (Nat.le_of_ble_eq_true rfl) (c_X3_needRow hN hl9 (show kd 2 = 2 by decide) eo12) wk_5_0 wk_5_1 wk_1_1 wk_5_2 hd_X3_needRow ⟨(Nat.le_of_ble_eq_true rfl), (Nat.le_of_ble_eq_true rfl)⟩ (Nat.le_of_ble_eq_true rfl) ⟨(Nat.le_of_ble_eq_true rfl), (Nat.le_of_ble_eq_true rfl)⟩ dX3_lease_30 rfl rfl (fun h9 => absurd h9 c14)
    · cases z10
      refine gx_S (As := [.ref (eB E + 6), .int p2]) (rest := []) C (Or.inl rfl) (fun _ => rfl) hout (Nat.le_of_ble_eq_true rfl) (Nat.le_of_ble_eq_true rfl) (c_X3_needRow hN hl9 (show kd 6 = 2 by decide) eo7) wk_5_0 wk_5_1 wk_1_1 wk_5_2 hd_X3_needRow ⟨(Nat.le_of_ble_eq_true rfl), (Nat.le_of_ble_eq_true rfl)⟩ (Nat.le_of_ble_eq_true rfl) ⟨(Nat.le_of_ble_eq_true rfl), (Nat.le_of_ble_eq_true rfl)⟩ dX3_lease_19 rfl rfl (fun h9 => absurd h9 c9)
  · cases z5
    refine gx_S (As := [.ref (eB E + 9), .int p1]) (rest := []) C (Or.inl rfl) (fun _ => rfl) hout (Nat.le_of_ble_eq_true rfl) (Nat.le_of_ble_eq_true rfl) (c_X3_needRow hN hl9 (show kd 9 = 2 by decide) eo2) wk_5_0 wk_5_1 wk_1_1 wk_5_2 hd_X3_needRow ⟨(Nat.le_of_ble_eq_true rfl), (Nat.le_of_ble_eq_true rfl)⟩ (Nat.le_of_ble_eq_true rfl) ⟨(Nat.le_of_ble_eq_true rfl), (Nat.le_of_ble_eq_true rfl)⟩ dX3_lease_8 rfl rfl (fun h9 => absurd h9 c4)
abbrev rm_X3_endLease : Room := { frames := 7, cells := 1, slots := 6, locals := 132 }
def F_X3_endLease (p1 : Int32) (μ : Mm) : Option (Nat × Int32 × Mm) :=
  (F_X3_needRow 13 p1 μ).bind fun o2 =>
  if o2 = 0 then ((F_X3_record  μ).bind fun o7 =>
  (F_X2_get 13 p1 (5 : Int32) o7).bind fun o10 =>
  (F_X2_removeRow 13 p1 o7).bind fun o13 =>
  some (0, o10, o13))
  else some (o2, 0, μ)
set_option maxHeartbeats 4000000 in
set_option maxRecDepth 100000 in
theorem c_X3_endLease {l : Launch} {E : Ev} (hN : 295 ≤ eN E) (hl9 : l.stackTraces = false) {p1 : Int32} {μ : Mm} {ec : Nat} {r : Int32} {μ' : Mm} (z0 : F_X3_endLease p1 μ = some (ec, r, μ')) : Cx l E yX3_endLease (Cond.code yX3_endLease cX3_endLease 3 (some .int) :: GW) rm_X3_endLease [.ref (eB E + 0), .int p1] μ ec (some (.int r)) μ' := by
  refine cx_of (by decide) (Nat.le_of_ble_eq_true rfl) (fun p e s m args below meth c C hr hout => ?_)
  have C : Cq E p s m args meth c cX3_endLease 3 RX3 := C
  refine gq_lv (lv' := [(0, .ref (eB E + 0)), (1, .int p1)]) rfl ?_
  unfold F_X3_endLease at z0
  refine gq_aload_n C dX3_endLease_0 rfl 0 rfl ?_
  refine gq_get0 C (qn_l 0 (by decide) hN) (by decide) 0 (by decide) wk_1_227 rfl dX3_endLease_1 ?_
  refine gq_get1N C (qn_l 1 (by decide) hN) (by decide) 9 (by decide) wk_1_81 rfl dX3_endLease_4 ?_
  refine gq_iload_n C dX3_endLease_7 rfl 1 rfl ?_
  obtain ⟨x3, eo2, z1⟩ := bind_ex z0
  rcases ite_ex z1 with ⟨c4, z5⟩ | ⟨c4, z5⟩
  · refine gx_S (As := [.ref (eB E + 13), .int p1]) (rest := []) C (μF := μ) (oF := none) (mcF := 1000000) (msF := 1000000) (Or.inr c4) (fun h9 => absurd c4 h9) hout (Nat.le_of_ble_eq_true rfl) (Nat.le_of_ble_eq_true rfl) (c_X3_needRow hN hl9 (show kd 13 = 2 by decide) eo2) wk_5_0 wk_5_1 wk_1_1 wk_5_2 hd_X3_needRow ⟨(Nat.le_of_ble_eq_true rfl), (Nat.le_of_ble_eq_true rfl)⟩ (Nat.le_of_ble_eq_true rfl) ⟨(Nat.le_of_ble_eq_true rfl), (Nat.le_of_ble_eq_true rfl)⟩ dX3_endLease_8 rfl rfl (fun _ => ?_)
    refine gq_aload_n C dX3_endLease_11 rfl 0 rfl ?_
    obtain ⟨m8, eo7, z6⟩ := bind_ex z5
    refine gq_V (As := []) (rest := []) (j := 0) C (c_X3_record hN  eo7) (qn_l 0 (by decide) hN) (by decide) (by decide) rfl wk_6_68 wk_6_70 ws_X3_record wk_1_1 wk_6_71 hd_X3_record ⟨(Nat.le_of_ble_eq_true rfl), (Nat.le_of_ble_eq_true rfl)⟩ (Nat.le_of_ble_eq_true rfl) ⟨(Nat.le_of_ble_eq_true rfl), (Nat.le_of_ble_eq_true rfl)⟩ dX3_endLease_12 rfl rfl ?_
    refine gq_aload_n C dX3_endLease_15 rfl 0 rfl ?_
    refine gq_get0 C (qn_l 0 (by decide) hN) (by decide) 0 (by decide) wk_1_227 rfl dX3_endLease_16 ?_
    refine gq_get1N C (qn_l 1 (by decide) hN) (by decide) 9 (by decide) wk_1_81 rfl dX3_endLease_19 ?_
    refine gq_iload_n C dX3_endLease_22 rfl 1 rfl ?_
    refine gq_iconst (v := 5) C dX3_endLease_23 (by decide) ?_
    obtain ⟨x11, eo10, z9⟩ := bind_ex z6
    refine gq_V (As := [.int p1, .int (5 : Int32)]) (rest := []) (j := 2) C (c_X2_get hN (show kd 13 = 2 by decide) eo10) (qn_l 13 (by decide) hN) (by decide) (by decide) rfl wk_2_67 wk_2_60 wk_2_61 wk_1_3 wk_2_62 hd_X2_get ⟨(Nat.le_of_ble_eq_true rfl), (Nat.le_of_ble_eq_true rfl)⟩ (Nat.le_of_ble_eq_true rfl) ⟨(Nat.le_of_ble_eq_true rfl), (Nat.le_of_ble_eq_true rfl)⟩ dX3_endLease_24 rfl rfl ?_
    refine gq_istore_n (lv' := [(2, .int x11), (0, .ref (eB E + 0)), (1, .int p1)]) C dX3_endLease_27 rfl (by decide) rfl ?_
    refine gq_aload_n C dX3_endLease_28 rfl 1 rfl ?_
    refine gq_get0 C (qn_l 0 (by decide) hN) (by decide) 0 (by decide) wk_1_227 rfl dX3_endLease_29 ?_
    refine gq_get1N C (qn_l 1 (by decide) hN) (by decide) 9 (by decide) wk_1_81 rfl dX3_endLease_32 ?_
    refine gq_iload_n C dX3_endLease_35 rfl 2 rfl ?_
    obtain ⟨m14, eo13, z12⟩ := bind_ex z9
    refine gq_V (As := [.int p1]) (rest := []) (j := 2) C (c_X2_removeRow hN (show kd 13 = 2 by decide) eo13) (qn_l 13 (by decide) hN) (by decide) (by decide) rfl wk_6_87 wk_5_200 wk_5_201 wk_1_3 wk_5_202 hd_X2_removeRow ⟨(Nat.le_of_ble_eq_true rfl), (Nat.le_of_ble_eq_true rfl)⟩ (Nat.le_of_ble_eq_true rfl) ⟨(Nat.le_of_ble_eq_true rfl), (Nat.le_of_ble_eq_true rfl)⟩ dX3_endLease_36 rfl rfl ?_
    refine gq_iload_n C dX3_endLease_39 rfl 0 rfl ?_
    cases z12
    exact gx_ret (gq_iret C hr dX3_endLease_40 (Nat.le_of_ble_eq_true rfl) (Nat.le_of_ble_eq_true rfl))
  · cases z5
    refine gx_S (As := [.ref (eB E + 13), .int p1]) (rest := []) C (Or.inl rfl) (fun _ => rfl) hout (Nat.le_of_ble_eq_true rfl) (Nat.le_of_ble_eq_true rfl) (c_X3_needRow hN hl9 (show kd 13 = 2 by decide) eo2) wk_5_0 wk_5_1 wk_1_1 wk_5_2 hd_X3_needRow ⟨(Nat.le_of_ble_eq_true rfl), (Nat.le_of_ble_eq_true rfl)⟩ (Nat.le_of_ble_eq_true rfl) ⟨(Nat.le_of_ble_eq_true rfl), (Nat.le_of_ble_eq_true rfl)⟩ dX3_endLease_8 rfl rfl (fun h9 => absurd h9 c4)
abbrev rm_X3_release : Room := { frames := 7, cells := 3, slots := 18, locals := 132 }
def F_X3_release (p1 : Int32) (p2 : Int32) (p3 : Int32) (μ : Mm) : Option (Nat × Int32 × Mm) :=
  (F_X3_needRow 6 p1 μ).bind fun o2 =>
  if o2 = 0 then ((F_X3_needRow 2 p2 μ).bind fun o7 =>
  if o7 = 0 then (if (1 : Int32) ≤ p3 then
  ((F_X2_get 6 p1 (0 : Int32) μ).bind fun o14 =>
  if p3 ≤ o14 then
  ((F_X3_record  μ).bind fun o19 =>
  (F_X2_increase 6 p1 (0 : Int32) (-p3) o19).bind fun o22 =>
  (F_X2_increase 2 p2 (2 : Int32) p3 o22).bind fun o25 =>
  (some (uI o25 1 18 ((o25.1 1 18) + p3))).bind fun m27 =>
  (F_X2_get 6 p1 (0 : Int32) m27).bind fun o30 =>
  some (0, o30, m27))
  else
  (some (4, 0, μ)))
  else
  (some (3, 0, μ)))
  else some (o7, 0, μ))
  else some (o2, 0, μ)
set_option maxHeartbeats 4000000 in
set_option maxRecDepth 100000 in
theorem c_X3_release {l : Launch} {E : Ev} (hN : 295 ≤ eN E) (hl9 : l.stackTraces = false) {p1 : Int32} {p2 : Int32} {p3 : Int32} {μ : Mm} {ec : Nat} {r : Int32} {μ' : Mm} (z0 : F_X3_release p1 p2 p3 μ = some (ec, r, μ')) : Cx l E yX3_release (Cond.code yX3_release cX3_release 4 (some .int) :: GW) rm_X3_release [.ref (eB E + 0), .int p1, .int p2, .int p3] μ ec (some (.int r)) μ' := by
  refine cx_of (by decide) (Nat.le_of_ble_eq_true rfl) (fun p e s m args below meth c C hr hout => ?_)
  have C : Cq E p s m args meth c cX3_release 4 RX3 := C
  refine gq_lv (lv' := [(0, .ref (eB E + 0)), (1, .int p1), (2, .int p2), (3, .int p3)]) rfl ?_
  unfold F_X3_release at z0
  refine gq_aload_n C dX3_release_0 rfl 0 rfl ?_
  refine gq_get0 C (qn_l 0 (by decide) hN) (by decide) 0 (by decide) wk_1_227 rfl dX3_release_1 ?_
  refine gq_get1N C (qn_l 1 (by decide) hN) (by decide) 4 (by decide) wk_1_72 rfl dX3_release_4 ?_
  refine gq_iload_n C dX3_release_7 rfl 1 rfl ?_
  obtain ⟨x3, eo2, z1⟩ := bind_ex z0
  rcases ite_ex z1 with ⟨c4, z5⟩ | ⟨c4, z5⟩
  · refine gx_S (As := [.ref (eB E + 6), .int p1]) (rest := []) C (μF := μ) (oF := none) (mcF := 1000000) (msF := 1000000) (Or.inr c4) (fun h9 => absurd c4 h9) hout (Nat.le_of_ble_eq_true rfl) (Nat.le_of_ble_eq_true rfl) (c_X3_needRow hN hl9 (show kd 6 = 2 by decide) eo2) wk_5_0 wk_5_1 wk_1_1 wk_5_2 hd_X3_needRow ⟨(Nat.le_of_ble_eq_true rfl), (Nat.le_of_ble_eq_true rfl)⟩ (Nat.le_of_ble_eq_true rfl) ⟨(Nat.le_of_ble_eq_true rfl), (Nat.le_of_ble_eq_true rfl)⟩ dX3_release_8 rfl rfl (fun _ => ?_)
    refine gq_aload_n C dX3_release_11 rfl 0 rfl ?_
    refine gq_get0 C (qn_l 0 (by decide) hN) (by decide) 0 (by decide) wk_1_227 rfl dX3_release_12 ?_
    refine gq_get1N C (qn_l 1 (by decide) hN) (by decide) 0 (by decide) wk_1_62 rfl dX3_release_15 ?_
    refine gq_iload_n C dX3_release_18 rfl 2 rfl ?_
    obtain ⟨x8, eo7, z6⟩ := bind_ex z5
    rcases ite_ex z6 with ⟨c9, z10⟩ | ⟨c9, z10⟩
    · refine gx_S (As := [.ref (eB E + 2), .int p2]) (rest := []) C (μF := μ) (oF := none) (mcF := 1000000) (msF := 1000000) (Or.inr c9) (fun h9 => absurd c9 h9) hout (Nat.le_of_ble_eq_true rfl) (Nat.le_of_ble_eq_true rfl) (c_X3_needRow hN hl9 (show kd 2 = 2 by decide) eo7) wk_5_0 wk_5_1 wk_1_1 wk_5_2 hd_X3_needRow ⟨(Nat.le_of_ble_eq_true rfl), (Nat.le_of_ble_eq_true rfl)⟩ (Nat.le_of_ble_eq_true rfl) ⟨(Nat.le_of_ble_eq_true rfl), (Nat.le_of_ble_eq_true rfl)⟩ dX3_release_19 rfl rfl (fun _ => ?_)
      refine gq_iload_n C dX3_release_22 rfl 3 rfl ?_
      refine gq_iconst (v := 1) C dX3_release_23 (by decide) ?_
      rcases ite_ex z10 with ⟨c11, z12⟩ | ⟨c11, z12⟩
      · refine gq_icmp_ge_t (tgt := 37) C dX3_release_24 (by decide) c11 ?_
        refine gq_aload_n C dX3_release_37 rfl 0 rfl ?_
        refine gq_get0 C (qn_l 0 (by decide) hN) (by decide) 0 (by decide) wk_1_227 rfl dX3_release_38 ?_
        refine gq_get1N C (qn_l 1 (by decide) hN) (by decide) 4 (by decide) wk_1_72 rfl dX3_release_41 ?_
        refine gq_iload_n C dX3_release_44 rfl 1 rfl ?_
        refine gq_iconst (v := 0) C dX3_release_45 (by decide) ?_
        obtain ⟨x15, eo14, z13⟩ := bind_ex z12
        refine gq_V (As := [.int p1, .int (0 : Int32)]) (rest := []) (j := 2) C (c_X2_get hN (show kd 6 = 2 by decide) eo14) (qn_l 6 (by decide) hN) (by decide) (by decide) rfl wk_2_67 wk_2_60 wk_2_61 wk_1_3 wk_2_62 hd_X2_get ⟨(Nat.le_of_ble_eq_true rfl), (Nat.le_of_ble_eq_true rfl)⟩ (Nat.le_of_ble_eq_true rfl) ⟨(Nat.le_of_ble_eq_true rfl), (Nat.le_of_ble_eq_true rfl)⟩ dX3_release_46 rfl rfl ?_
        refine gq_iload_n C dX3_release_49 rfl 3 rfl ?_
        rcases ite_ex z13 with ⟨c16, z17⟩ | ⟨c16, z17⟩
        · refine gq_icmp_ge_t (tgt := 63) C dX3_release_50 (by decide) c16 ?_
          refine gq_aload_n C dX3_release_63 rfl 0 rfl ?_
          obtain ⟨m20, eo19, z18⟩ := bind_ex z17
          refine gq_V (As := []) (rest := []) (j := 0) C (c_X3_record hN  eo19) (qn_l 0 (by decide) hN) (by decide) (by decide) rfl wk_6_68 wk_6_70 ws_X3_record wk_1_1 wk_6_71 hd_X3_record ⟨(Nat.le_of_ble_eq_true rfl), (Nat.le_of_ble_eq_true rfl)⟩ (Nat.le_of_ble_eq_true rfl) ⟨(Nat.le_of_ble_eq_true rfl), (Nat.le_of_ble_eq_true rfl)⟩ dX3_release_64 rfl rfl ?_
          refine gq_aload_n C dX3_release_67 rfl 0 rfl ?_
          refine gq_get0 C (qn_l 0 (by decide) hN) (by decide) 0 (by decide) wk_1_227 rfl dX3_release_68 ?_
          refine gq_get1N C (qn_l 1 (by decide) hN) (by decide) 4 (by decide) wk_1_72 rfl dX3_release_71 ?_
          refine gq_iload_n C dX3_release_74 rfl 1 rfl ?_
          refine gq_iconst (v := 0) C dX3_release_75 (by decide) ?_
          refine gq_iload_n C dX3_release_76 rfl 3 rfl ?_
          refine gq_ineg C dX3_release_77 ?_
          obtain ⟨m23, eo22, z21⟩ := bind_ex z18
          refine gq_V (As := [.int p1, .int (0 : Int32), .int (-p3)]) (rest := []) (j := 2) C (c_X2_increase hN (show kd 6 = 2 by decide) eo22) (qn_l 6 (by decide) hN) (by decide) (by decide) rfl wk_6_96 wk_5_162 wk_5_163 wk_1_3 wk_5_164 hd_X2_increase ⟨(Nat.le_of_ble_eq_true rfl), (Nat.le_of_ble_eq_true rfl)⟩ (Nat.le_of_ble_eq_true rfl) ⟨(Nat.le_of_ble_eq_true rfl), (Nat.le_of_ble_eq_true rfl)⟩ dX3_release_78 rfl rfl ?_
          refine gq_aload_n C dX3_release_81 rfl 0 rfl ?_
          refine gq_get0 C (qn_l 0 (by decide) hN) (by decide) 0 (by decide) wk_1_227 rfl dX3_release_82 ?_
          refine gq_get1N C (qn_l 1 (by decide) hN) (by decide) 0 (by decide) wk_1_62 rfl dX3_release_85 ?_
          refine gq_iload_n C dX3_release_88 rfl 2 rfl ?_
          refine gq_iconst (v := 2) C dX3_release_89 (by decide) ?_
          refine gq_iload_n C dX3_release_90 rfl 3 rfl ?_
          obtain ⟨m26, eo25, z24⟩ := bind_ex z21
          refine gq_V (As := [.int p2, .int (2 : Int32), .int p3]) (rest := []) (j := 2) C (c_X2_increase hN (show kd 2 = 2 by decide) eo25) (qn_l 2 (by decide) hN) (by decide) (by decide) rfl wk_6_96 wk_5_162 wk_5_163 wk_1_3 wk_5_164 hd_X2_increase ⟨(Nat.le_of_ble_eq_true rfl), (Nat.le_of_ble_eq_true rfl)⟩ (Nat.le_of_ble_eq_true rfl) ⟨(Nat.le_of_ble_eq_true rfl), (Nat.le_of_ble_eq_true rfl)⟩ dX3_release_91 rfl rfl ?_
          refine gq_aload_n C dX3_release_94 rfl 0 rfl ?_
          refine gq_get0 C (qn_l 0 (by decide) hN) (by decide) 0 (by decide) wk_1_227 rfl dX3_release_95 ?_
          refine gq_dupr C dX3_release_98 ?_
          refine gq_get1N C (qn_l 1 (by decide) hN) (by decide) 18 (by decide) wk_1_102 rfl dX3_release_99 ?_
          refine gq_iload_n C dX3_release_102 rfl 3 rfl ?_
          refine gq_iadd C dX3_release_103 ?_
          obtain ⟨m27, em27, z28⟩ := bind_ex z24
          refine gq_put1_18N C (qn_l 1 (by decide) hN) (by decide) wk_1_102 (Option.some.inj em27).symm dX3_release_104 ?_
          refine gq_aload_n C dX3_release_107 rfl 0 rfl ?_
          refine gq_get0 C (qn_l 0 (by decide) hN) (by decide) 0 (by decide) wk_1_227 rfl dX3_release_108 ?_
          refine gq_get1N C (qn_l 1 (by decide) hN) (by decide) 4 (by decide) wk_1_72 rfl dX3_release_111 ?_
          refine gq_iload_n C dX3_release_114 rfl 1 rfl ?_
          refine gq_iconst (v := 0) C dX3_release_115 (by decide) ?_
          obtain ⟨x31, eo30, z29⟩ := bind_ex z28
          refine gq_V (As := [.int p1, .int (0 : Int32)]) (rest := []) (j := 2) C (c_X2_get hN (show kd 6 = 2 by decide) eo30) (qn_l 6 (by decide) hN) (by decide) (by decide) rfl wk_2_67 wk_2_60 wk_2_61 wk_1_3 wk_2_62 hd_X2_get ⟨(Nat.le_of_ble_eq_true rfl), (Nat.le_of_ble_eq_true rfl)⟩ (Nat.le_of_ble_eq_true rfl) ⟨(Nat.le_of_ble_eq_true rfl), (Nat.le_of_ble_eq_true rfl)⟩ dX3_release_116 rfl rfl ?_
          cases z29
          exact gx_ret (gq_iret C hr dX3_release_119 (Nat.le_of_ble_eq_true rfl) (Nat.le_of_ble_eq_true rfl))
        · refine gq_icmp_ge_f (tgt := 63) C dX3_release_50 (by decide) c16 ?_
          cases z17
          exact gx_throw C hl9 (cls := "java/lang/IllegalStateException") (text := "the bank has less") (names := ["java/lang/RuntimeException", "java/lang/Exception"]) (j := 18) (by decide +kernel) (by decide +kernel) wk_5_237 wk_1_20 (by decide +kernel) (at_X3_231 C) at_X3_231_g dX3_release_53 dX3_release_56 dX3_release_57 dX3_release_59 dX3_release_62 hout (by decide) rfl (Nat.le_of_ble_eq_true rfl) (Nat.le_of_ble_eq_true rfl) (Nat.le_of_ble_eq_true rfl) (Nat.le_of_ble_eq_true rfl) (Nat.le_of_ble_eq_true rfl) (Nat.le_of_ble_eq_true rfl)
      · refine gq_icmp_ge_f (tgt := 37) C dX3_release_24 (by decide) c11 ?_
        cases z12
        exact gx_throw C hl9 (cls := "java/lang/IllegalArgumentException") (text := "out of range") (names := ["java/lang/RuntimeException", "java/lang/Exception"]) (j := 15) (by decide +kernel) (by decide +kernel) wk_4_181 wk_1_15 (by decide +kernel) (at_X3_67 C) at_X3_67_g dX3_release_27 dX3_release_30 dX3_release_31 dX3_release_33 dX3_release_36 hout (by decide) rfl (Nat.le_of_ble_eq_true rfl) (Nat.le_of_ble_eq_true rfl) (Nat.le_of_ble_eq_true rfl) (Nat.le_of_ble_eq_true rfl) (Nat.le_of_ble_eq_true rfl) (Nat.le_of_ble_eq_true rfl)
    · cases z10
      refine gx_S (As := [.ref (eB E + 2), .int p2]) (rest := []) C (Or.inl rfl) (fun _ => rfl) hout (Nat.le_of_ble_eq_true rfl) (Nat.le_of_ble_eq_true rfl) (c_X3_needRow hN hl9 (show kd 2 = 2 by decide) eo7) wk_5_0 wk_5_1 wk_1_1 wk_5_2 hd_X3_needRow ⟨(Nat.le_of_ble_eq_true rfl), (Nat.le_of_ble_eq_true rfl)⟩ (Nat.le_of_ble_eq_true rfl) ⟨(Nat.le_of_ble_eq_true rfl), (Nat.le_of_ble_eq_true rfl)⟩ dX3_release_19 rfl rfl (fun h9 => absurd h9 c9)
  · cases z5
    refine gx_S (As := [.ref (eB E + 6), .int p1]) (rest := []) C (Or.inl rfl) (fun _ => rfl) hout (Nat.le_of_ble_eq_true rfl) (Nat.le_of_ble_eq_true rfl) (c_X3_needRow hN hl9 (show kd 6 = 2 by decide) eo2) wk_5_0 wk_5_1 wk_1_1 wk_5_2 hd_X3_needRow ⟨(Nat.le_of_ble_eq_true rfl), (Nat.le_of_ble_eq_true rfl)⟩ (Nat.le_of_ble_eq_true rfl) ⟨(Nat.le_of_ble_eq_true rfl), (Nat.le_of_ble_eq_true rfl)⟩ dX3_release_8 rfl rfl (fun h9 => absurd h9 c4)
abbrev rm_X3_setKeep : Room := { frames := 7, cells := 2, slots := 12, locals := 132 }
def F_X3_setKeep (p1 : Int32) (p2 : Int32) (μ : Mm) : Option (Nat × Int32 × Mm) :=
  (F_X3_needRow 9 p1 μ).bind fun o2 =>
  if o2 = 0 then ((F_X3_needRange p2 (0 : Int32) (100 : Int32) μ).bind fun o7 =>
  if o7 = 0 then ((F_X3_record  μ).bind fun o12 =>
  (F_X2_get 9 p1 (6 : Int32) o12).bind fun o15 =>
  (F_X2_put 9 p1 (6 : Int32) p2 o12).bind fun o18 =>
  some (0, o15, o18))
  else some (o7, 0, μ))
  else some (o2, 0, μ)
set_option maxHeartbeats 4000000 in
set_option maxRecDepth 100000 in
theorem c_X3_setKeep {l : Launch} {E : Ev} (hN : 295 ≤ eN E) (hl9 : l.stackTraces = false) {p1 : Int32} {p2 : Int32} {μ : Mm} {ec : Nat} {r : Int32} {μ' : Mm} (z0 : F_X3_setKeep p1 p2 μ = some (ec, r, μ')) : Cx l E yX3_setKeep (Cond.code yX3_setKeep cX3_setKeep 4 (some .int) :: GW) rm_X3_setKeep [.ref (eB E + 0), .int p1, .int p2] μ ec (some (.int r)) μ' := by
  refine cx_of (by decide) (Nat.le_of_ble_eq_true rfl) (fun p e s m args below meth c C hr hout => ?_)
  have C : Cq E p s m args meth c cX3_setKeep 4 RX3 := C
  refine gq_lv (lv' := [(0, .ref (eB E + 0)), (1, .int p1), (2, .int p2)]) rfl ?_
  unfold F_X3_setKeep at z0
  refine gq_aload_n C dX3_setKeep_0 rfl 0 rfl ?_
  refine gq_get0 C (qn_l 0 (by decide) hN) (by decide) 0 (by decide) wk_1_227 rfl dX3_setKeep_1 ?_
  refine gq_get1N C (qn_l 1 (by decide) hN) (by decide) 6 (by decide) wk_1_76 rfl dX3_setKeep_4 ?_
  refine gq_iload_n C dX3_setKeep_7 rfl 1 rfl ?_
  obtain ⟨x3, eo2, z1⟩ := bind_ex z0
  rcases ite_ex z1 with ⟨c4, z5⟩ | ⟨c4, z5⟩
  · refine gx_S (As := [.ref (eB E + 9), .int p1]) (rest := []) C (μF := μ) (oF := none) (mcF := 1000000) (msF := 1000000) (Or.inr c4) (fun h9 => absurd c4 h9) hout (Nat.le_of_ble_eq_true rfl) (Nat.le_of_ble_eq_true rfl) (c_X3_needRow hN hl9 (show kd 9 = 2 by decide) eo2) wk_5_0 wk_5_1 wk_1_1 wk_5_2 hd_X3_needRow ⟨(Nat.le_of_ble_eq_true rfl), (Nat.le_of_ble_eq_true rfl)⟩ (Nat.le_of_ble_eq_true rfl) ⟨(Nat.le_of_ble_eq_true rfl), (Nat.le_of_ble_eq_true rfl)⟩ dX3_setKeep_8 rfl rfl (fun _ => ?_)
    refine gq_iload_n C dX3_setKeep_11 rfl 2 rfl ?_
    refine gq_iconst (v := 0) C dX3_setKeep_12 (by decide) ?_
    refine gq_bipush (v := 100) C dX3_setKeep_13 (by decide) ?_
    obtain ⟨x8, eo7, z6⟩ := bind_ex z5
    rcases ite_ex z6 with ⟨c9, z10⟩ | ⟨c9, z10⟩
    · refine gx_S (As := [.int p2, .int (0 : Int32), .int (100 : Int32)]) (rest := []) C (μF := μ) (oF := none) (mcF := 1000000) (msF := 1000000) (Or.inr c9) (fun h9 => absurd c9 h9) hout (Nat.le_of_ble_eq_true rfl) (Nat.le_of_ble_eq_true rfl) (c_X3_needRange hN hl9  eo7) wk_5_110 wk_5_111 wk_1_1 wk_5_112 hd_X3_needRange ⟨(Nat.le_of_ble_eq_true rfl), (Nat.le_of_ble_eq_true rfl)⟩ (Nat.le_of_ble_eq_true rfl) ⟨(Nat.le_of_ble_eq_true rfl), (Nat.le_of_ble_eq_true rfl)⟩ dX3_setKeep_15 rfl rfl (fun _ => ?_)
      refine gq_aload_n C dX3_setKeep_18 rfl 0 rfl ?_
      obtain ⟨m13, eo12, z11⟩ := bind_ex z10
      refine gq_V (As := []) (rest := []) (j := 0) C (c_X3_record hN  eo12) (qn_l 0 (by decide) hN) (by decide) (by decide) rfl wk_6_68 wk_6_70 ws_X3_record wk_1_1 wk_6_71 hd_X3_record ⟨(Nat.le_of_ble_eq_true rfl), (Nat.le_of_ble_eq_true rfl)⟩ (Nat.le_of_ble_eq_true rfl) ⟨(Nat.le_of_ble_eq_true rfl), (Nat.le_of_ble_eq_true rfl)⟩ dX3_setKeep_19 rfl rfl ?_
      refine gq_aload_n C dX3_setKeep_22 rfl 0 rfl ?_
      refine gq_get0 C (qn_l 0 (by decide) hN) (by decide) 0 (by decide) wk_1_227 rfl dX3_setKeep_23 ?_
      refine gq_get1N C (qn_l 1 (by decide) hN) (by decide) 6 (by decide) wk_1_76 rfl dX3_setKeep_26 ?_
      refine gq_iload_n C dX3_setKeep_29 rfl 1 rfl ?_
      refine gq_bipush (v := 6) C dX3_setKeep_30 (by decide) ?_
      obtain ⟨x16, eo15, z14⟩ := bind_ex z11
      refine gq_V (As := [.int p1, .int (6 : Int32)]) (rest := []) (j := 2) C (c_X2_get hN (show kd 9 = 2 by decide) eo15) (qn_l 9 (by decide) hN) (by decide) (by decide) rfl wk_2_67 wk_2_60 wk_2_61 wk_1_3 wk_2_62 hd_X2_get ⟨(Nat.le_of_ble_eq_true rfl), (Nat.le_of_ble_eq_true rfl)⟩ (Nat.le_of_ble_eq_true rfl) ⟨(Nat.le_of_ble_eq_true rfl), (Nat.le_of_ble_eq_true rfl)⟩ dX3_setKeep_32 rfl rfl ?_
      refine gq_istore_n (lv' := [(3, .int x16), (0, .ref (eB E + 0)), (1, .int p1), (2, .int p2)]) C dX3_setKeep_35 rfl (by decide) rfl ?_
      refine gq_aload_n C dX3_setKeep_36 rfl 1 rfl ?_
      refine gq_get0 C (qn_l 0 (by decide) hN) (by decide) 0 (by decide) wk_1_227 rfl dX3_setKeep_37 ?_
      refine gq_get1N C (qn_l 1 (by decide) hN) (by decide) 6 (by decide) wk_1_76 rfl dX3_setKeep_40 ?_
      refine gq_iload_n C dX3_setKeep_43 rfl 2 rfl ?_
      refine gq_bipush (v := 6) C dX3_setKeep_44 (by decide) ?_
      refine gq_iload_n C dX3_setKeep_46 rfl 3 rfl ?_
      obtain ⟨m19, eo18, z17⟩ := bind_ex z14
      refine gq_V (As := [.int p1, .int (6 : Int32), .int p2]) (rest := []) (j := 2) C (c_X2_put hN (show kd 9 = 2 by decide) eo18) (qn_l 9 (by decide) hN) (by decide) (by decide) rfl wk_6_104 wk_4_130 wk_4_131 wk_1_3 wk_4_132 hd_X2_put ⟨(Nat.le_of_ble_eq_true rfl), (Nat.le_of_ble_eq_true rfl)⟩ (Nat.le_of_ble_eq_true rfl) ⟨(Nat.le_of_ble_eq_true rfl), (Nat.le_of_ble_eq_true rfl)⟩ dX3_setKeep_47 rfl rfl ?_
      refine gq_iload_n C dX3_setKeep_50 rfl 0 rfl ?_
      cases z17
      exact gx_ret (gq_iret C hr dX3_setKeep_51 (Nat.le_of_ble_eq_true rfl) (Nat.le_of_ble_eq_true rfl))
    · cases z10
      refine gx_S (As := [.int p2, .int (0 : Int32), .int (100 : Int32)]) (rest := []) C (Or.inl rfl) (fun _ => rfl) hout (Nat.le_of_ble_eq_true rfl) (Nat.le_of_ble_eq_true rfl) (c_X3_needRange hN hl9  eo7) wk_5_110 wk_5_111 wk_1_1 wk_5_112 hd_X3_needRange ⟨(Nat.le_of_ble_eq_true rfl), (Nat.le_of_ble_eq_true rfl)⟩ (Nat.le_of_ble_eq_true rfl) ⟨(Nat.le_of_ble_eq_true rfl), (Nat.le_of_ble_eq_true rfl)⟩ dX3_setKeep_15 rfl rfl (fun h9 => absurd h9 c9)
  · cases z5
    refine gx_S (As := [.ref (eB E + 9), .int p1]) (rest := []) C (Or.inl rfl) (fun _ => rfl) hout (Nat.le_of_ble_eq_true rfl) (Nat.le_of_ble_eq_true rfl) (c_X3_needRow hN hl9 (show kd 9 = 2 by decide) eo2) wk_5_0 wk_5_1 wk_1_1 wk_5_2 hd_X3_needRow ⟨(Nat.le_of_ble_eq_true rfl), (Nat.le_of_ble_eq_true rfl)⟩ (Nat.le_of_ble_eq_true rfl) ⟨(Nat.le_of_ble_eq_true rfl), (Nat.le_of_ble_eq_true rfl)⟩ dX3_setKeep_8 rfl rfl (fun h9 => absurd h9 c4)
abbrev rm_X3_setMinimum : Room := { frames := 7, cells := 2, slots := 12, locals := 132 }
def F_X3_setMinimum (p1 : Int32) (p2 : Int32) (μ : Mm) : Option (Nat × Int32 × Mm) :=
  (F_X3_needRow 2 p1 μ).bind fun o2 =>
  if o2 = 0 then ((F_X3_needRange p2 (0 : Int32) (999 : Int32) μ).bind fun o7 =>
  if o7 = 0 then ((F_X3_record  μ).bind fun o12 =>
  (F_X2_get 2 p1 (1 : Int32) o12).bind fun o15 =>
  (F_X2_put 2 p1 (1 : Int32) p2 o12).bind fun o18 =>
  some (0, o15, o18))
  else some (o7, 0, μ))
  else some (o2, 0, μ)
set_option maxHeartbeats 4000000 in
set_option maxRecDepth 100000 in
theorem c_X3_setMinimum {l : Launch} {E : Ev} (hN : 295 ≤ eN E) (hl9 : l.stackTraces = false) {p1 : Int32} {p2 : Int32} {μ : Mm} {ec : Nat} {r : Int32} {μ' : Mm} (z0 : F_X3_setMinimum p1 p2 μ = some (ec, r, μ')) : Cx l E yX3_setMinimum (Cond.code yX3_setMinimum cX3_setMinimum 4 (some .int) :: GW) rm_X3_setMinimum [.ref (eB E + 0), .int p1, .int p2] μ ec (some (.int r)) μ' := by
  refine cx_of (by decide) (Nat.le_of_ble_eq_true rfl) (fun p e s m args below meth c C hr hout => ?_)
  have C : Cq E p s m args meth c cX3_setMinimum 4 RX3 := C
  refine gq_lv (lv' := [(0, .ref (eB E + 0)), (1, .int p1), (2, .int p2)]) rfl ?_
  unfold F_X3_setMinimum at z0
  refine gq_aload_n C dX3_setMinimum_0 rfl 0 rfl ?_
  refine gq_get0 C (qn_l 0 (by decide) hN) (by decide) 0 (by decide) wk_1_227 rfl dX3_setMinimum_1 ?_
  refine gq_get1N C (qn_l 1 (by decide) hN) (by decide) 0 (by decide) wk_1_62 rfl dX3_setMinimum_4 ?_
  refine gq_iload_n C dX3_setMinimum_7 rfl 1 rfl ?_
  obtain ⟨x3, eo2, z1⟩ := bind_ex z0
  rcases ite_ex z1 with ⟨c4, z5⟩ | ⟨c4, z5⟩
  · refine gx_S (As := [.ref (eB E + 2), .int p1]) (rest := []) C (μF := μ) (oF := none) (mcF := 1000000) (msF := 1000000) (Or.inr c4) (fun h9 => absurd c4 h9) hout (Nat.le_of_ble_eq_true rfl) (Nat.le_of_ble_eq_true rfl) (c_X3_needRow hN hl9 (show kd 2 = 2 by decide) eo2) wk_5_0 wk_5_1 wk_1_1 wk_5_2 hd_X3_needRow ⟨(Nat.le_of_ble_eq_true rfl), (Nat.le_of_ble_eq_true rfl)⟩ (Nat.le_of_ble_eq_true rfl) ⟨(Nat.le_of_ble_eq_true rfl), (Nat.le_of_ble_eq_true rfl)⟩ dX3_setMinimum_8 rfl rfl (fun _ => ?_)
    refine gq_iload_n C dX3_setMinimum_11 rfl 2 rfl ?_
    refine gq_iconst (v := 0) C dX3_setMinimum_12 (by decide) ?_
    refine gq_sipush (v := 999) C dX3_setMinimum_13 (by decide) ?_
    obtain ⟨x8, eo7, z6⟩ := bind_ex z5
    rcases ite_ex z6 with ⟨c9, z10⟩ | ⟨c9, z10⟩
    · refine gx_S (As := [.int p2, .int (0 : Int32), .int (999 : Int32)]) (rest := []) C (μF := μ) (oF := none) (mcF := 1000000) (msF := 1000000) (Or.inr c9) (fun h9 => absurd c9 h9) hout (Nat.le_of_ble_eq_true rfl) (Nat.le_of_ble_eq_true rfl) (c_X3_needRange hN hl9  eo7) wk_5_110 wk_5_111 wk_1_1 wk_5_112 hd_X3_needRange ⟨(Nat.le_of_ble_eq_true rfl), (Nat.le_of_ble_eq_true rfl)⟩ (Nat.le_of_ble_eq_true rfl) ⟨(Nat.le_of_ble_eq_true rfl), (Nat.le_of_ble_eq_true rfl)⟩ dX3_setMinimum_16 rfl rfl (fun _ => ?_)
      refine gq_aload_n C dX3_setMinimum_19 rfl 0 rfl ?_
      obtain ⟨m13, eo12, z11⟩ := bind_ex z10
      refine gq_V (As := []) (rest := []) (j := 0) C (c_X3_record hN  eo12) (qn_l 0 (by decide) hN) (by decide) (by decide) rfl wk_6_68 wk_6_70 ws_X3_record wk_1_1 wk_6_71 hd_X3_record ⟨(Nat.le_of_ble_eq_true rfl), (Nat.le_of_ble_eq_true rfl)⟩ (Nat.le_of_ble_eq_true rfl) ⟨(Nat.le_of_ble_eq_true rfl), (Nat.le_of_ble_eq_true rfl)⟩ dX3_setMinimum_20 rfl rfl ?_
      refine gq_aload_n C dX3_setMinimum_23 rfl 0 rfl ?_
      refine gq_get0 C (qn_l 0 (by decide) hN) (by decide) 0 (by decide) wk_1_227 rfl dX3_setMinimum_24 ?_
      refine gq_get1N C (qn_l 1 (by decide) hN) (by decide) 0 (by decide) wk_1_62 rfl dX3_setMinimum_27 ?_
      refine gq_iload_n C dX3_setMinimum_30 rfl 1 rfl ?_
      refine gq_iconst (v := 1) C dX3_setMinimum_31 (by decide) ?_
      obtain ⟨x16, eo15, z14⟩ := bind_ex z11
      refine gq_V (As := [.int p1, .int (1 : Int32)]) (rest := []) (j := 2) C (c_X2_get hN (show kd 2 = 2 by decide) eo15) (qn_l 2 (by decide) hN) (by decide) (by decide) rfl wk_2_67 wk_2_60 wk_2_61 wk_1_3 wk_2_62 hd_X2_get ⟨(Nat.le_of_ble_eq_true rfl), (Nat.le_of_ble_eq_true rfl)⟩ (Nat.le_of_ble_eq_true rfl) ⟨(Nat.le_of_ble_eq_true rfl), (Nat.le_of_ble_eq_true rfl)⟩ dX3_setMinimum_32 rfl rfl ?_
      refine gq_istore_n (lv' := [(3, .int x16), (0, .ref (eB E + 0)), (1, .int p1), (2, .int p2)]) C dX3_setMinimum_35 rfl (by decide) rfl ?_
      refine gq_aload_n C dX3_setMinimum_36 rfl 1 rfl ?_
      refine gq_get0 C (qn_l 0 (by decide) hN) (by decide) 0 (by decide) wk_1_227 rfl dX3_setMinimum_37 ?_
      refine gq_get1N C (qn_l 1 (by decide) hN) (by decide) 0 (by decide) wk_1_62 rfl dX3_setMinimum_40 ?_
      refine gq_iload_n C dX3_setMinimum_43 rfl 2 rfl ?_
      refine gq_iconst (v := 1) C dX3_setMinimum_44 (by decide) ?_
      refine gq_iload_n C dX3_setMinimum_45 rfl 3 rfl ?_
      obtain ⟨m19, eo18, z17⟩ := bind_ex z14
      refine gq_V (As := [.int p1, .int (1 : Int32), .int p2]) (rest := []) (j := 2) C (c_X2_put hN (show kd 2 = 2 by decide) eo18) (qn_l 2 (by decide) hN) (by decide) (by decide) rfl wk_6_104 wk_4_130 wk_4_131 wk_1_3 wk_4_132 hd_X2_put ⟨(Nat.le_of_ble_eq_true rfl), (Nat.le_of_ble_eq_true rfl)⟩ (Nat.le_of_ble_eq_true rfl) ⟨(Nat.le_of_ble_eq_true rfl), (Nat.le_of_ble_eq_true rfl)⟩ dX3_setMinimum_46 rfl rfl ?_
      refine gq_iload_n C dX3_setMinimum_49 rfl 0 rfl ?_
      cases z17
      exact gx_ret (gq_iret C hr dX3_setMinimum_50 (Nat.le_of_ble_eq_true rfl) (Nat.le_of_ble_eq_true rfl))
    · cases z10
      refine gx_S (As := [.int p2, .int (0 : Int32), .int (999 : Int32)]) (rest := []) C (Or.inl rfl) (fun _ => rfl) hout (Nat.le_of_ble_eq_true rfl) (Nat.le_of_ble_eq_true rfl) (c_X3_needRange hN hl9  eo7) wk_5_110 wk_5_111 wk_1_1 wk_5_112 hd_X3_needRange ⟨(Nat.le_of_ble_eq_true rfl), (Nat.le_of_ble_eq_true rfl)⟩ (Nat.le_of_ble_eq_true rfl) ⟨(Nat.le_of_ble_eq_true rfl), (Nat.le_of_ble_eq_true rfl)⟩ dX3_setMinimum_16 rfl rfl (fun h9 => absurd h9 c9)
  · cases z5
    refine gx_S (As := [.ref (eB E + 2), .int p1]) (rest := []) C (Or.inl rfl) (fun _ => rfl) hout (Nat.le_of_ble_eq_true rfl) (Nat.le_of_ble_eq_true rfl) (c_X3_needRow hN hl9 (show kd 2 = 2 by decide) eo2) wk_5_0 wk_5_1 wk_1_1 wk_5_2 hd_X3_needRow ⟨(Nat.le_of_ble_eq_true rfl), (Nat.le_of_ble_eq_true rfl)⟩ (Nat.le_of_ble_eq_true rfl) ⟨(Nat.le_of_ble_eq_true rfl), (Nat.le_of_ble_eq_true rfl)⟩ dX3_setMinimum_8 rfl rfl (fun h9 => absurd h9 c4)
abbrev rm_X3_transfer : Room := { frames := 7, cells := 3, slots := 18, locals := 132 }
def F_X3_transfer (p1 : Int32) (p2 : Int32) (p3 : Int32) (μ : Mm) : Option (Nat × Int32 × Mm) :=
  (F_X3_needRow 9 p1 μ).bind fun o2 =>
  if o2 = 0 then ((F_X3_needRow 6 p2 μ).bind fun o7 =>
  if o7 = 0 then ((F_X3_needRange p3 (0 : Int32) (9999 : Int32) μ).bind fun o12 =>
  if o12 = 0 then ((F_X3_record  μ).bind fun o17 =>
  (F_X2_get 9 p1 (0 : Int32) o17).bind fun o20 =>
  (F_X1_pay 1 p2 o20 p3 o17).bind fun o23 =>
  (F_X2_put 9 p1 (0 : Int32) p2 o23).bind fun o26 =>
  some (0, o20, o26))
  else some (o12, 0, μ))
  else some (o7, 0, μ))
  else some (o2, 0, μ)
set_option maxHeartbeats 4000000 in
set_option maxRecDepth 100000 in
theorem c_X3_transfer {l : Launch} {E : Ev} (hN : 295 ≤ eN E) (hl9 : l.stackTraces = false) {p1 : Int32} {p2 : Int32} {p3 : Int32} {μ : Mm} {ec : Nat} {r : Int32} {μ' : Mm} (z0 : F_X3_transfer p1 p2 p3 μ = some (ec, r, μ')) : Cx l E yX3_transfer (Cond.code yX3_transfer cX3_transfer 5 (some .int) :: GW) rm_X3_transfer [.ref (eB E + 0), .int p1, .int p2, .int p3] μ ec (some (.int r)) μ' := by
  refine cx_of (by decide) (Nat.le_of_ble_eq_true rfl) (fun p e s m args below meth c C hr hout => ?_)
  have C : Cq E p s m args meth c cX3_transfer 5 RX3 := C
  refine gq_lv (lv' := [(0, .ref (eB E + 0)), (1, .int p1), (2, .int p2), (3, .int p3)]) rfl ?_
  unfold F_X3_transfer at z0
  refine gq_aload_n C dX3_transfer_0 rfl 0 rfl ?_
  refine gq_get0 C (qn_l 0 (by decide) hN) (by decide) 0 (by decide) wk_1_227 rfl dX3_transfer_1 ?_
  refine gq_get1N C (qn_l 1 (by decide) hN) (by decide) 6 (by decide) wk_1_76 rfl dX3_transfer_4 ?_
  refine gq_iload_n C dX3_transfer_7 rfl 1 rfl ?_
  obtain ⟨x3, eo2, z1⟩ := bind_ex z0
  rcases ite_ex z1 with ⟨c4, z5⟩ | ⟨c4, z5⟩
  · refine gx_S (As := [.ref (eB E + 9), .int p1]) (rest := []) C (μF := μ) (oF := none) (mcF := 1000000) (msF := 1000000) (Or.inr c4) (fun h9 => absurd c4 h9) hout (Nat.le_of_ble_eq_true rfl) (Nat.le_of_ble_eq_true rfl) (c_X3_needRow hN hl9 (show kd 9 = 2 by decide) eo2) wk_5_0 wk_5_1 wk_1_1 wk_5_2 hd_X3_needRow ⟨(Nat.le_of_ble_eq_true rfl), (Nat.le_of_ble_eq_true rfl)⟩ (Nat.le_of_ble_eq_true rfl) ⟨(Nat.le_of_ble_eq_true rfl), (Nat.le_of_ble_eq_true rfl)⟩ dX3_transfer_8 rfl rfl (fun _ => ?_)
    refine gq_aload_n C dX3_transfer_11 rfl 0 rfl ?_
    refine gq_get0 C (qn_l 0 (by decide) hN) (by decide) 0 (by decide) wk_1_227 rfl dX3_transfer_12 ?_
    refine gq_get1N C (qn_l 1 (by decide) hN) (by decide) 4 (by decide) wk_1_72 rfl dX3_transfer_15 ?_
    refine gq_iload_n C dX3_transfer_18 rfl 2 rfl ?_
    obtain ⟨x8, eo7, z6⟩ := bind_ex z5
    rcases ite_ex z6 with ⟨c9, z10⟩ | ⟨c9, z10⟩
    · refine gx_S (As := [.ref (eB E + 6), .int p2]) (rest := []) C (μF := μ) (oF := none) (mcF := 1000000) (msF := 1000000) (Or.inr c9) (fun h9 => absurd c9 h9) hout (Nat.le_of_ble_eq_true rfl) (Nat.le_of_ble_eq_true rfl) (c_X3_needRow hN hl9 (show kd 6 = 2 by decide) eo7) wk_5_0 wk_5_1 wk_1_1 wk_5_2 hd_X3_needRow ⟨(Nat.le_of_ble_eq_true rfl), (Nat.le_of_ble_eq_true rfl)⟩ (Nat.le_of_ble_eq_true rfl) ⟨(Nat.le_of_ble_eq_true rfl), (Nat.le_of_ble_eq_true rfl)⟩ dX3_transfer_19 rfl rfl (fun _ => ?_)
      refine gq_iload_n C dX3_transfer_22 rfl 3 rfl ?_
      refine gq_iconst (v := 0) C dX3_transfer_23 (by decide) ?_
      refine gq_sipush (v := 9999) C dX3_transfer_24 (by decide) ?_
      obtain ⟨x13, eo12, z11⟩ := bind_ex z10
      rcases ite_ex z11 with ⟨c14, z15⟩ | ⟨c14, z15⟩
      · refine gx_S (As := [.int p3, .int (0 : Int32), .int (9999 : Int32)]) (rest := []) C (μF := μ) (oF := none) (mcF := 1000000) (msF := 1000000) (Or.inr c14) (fun h9 => absurd c14 h9) hout (Nat.le_of_ble_eq_true rfl) (Nat.le_of_ble_eq_true rfl) (c_X3_needRange hN hl9  eo12) wk_5_110 wk_5_111 wk_1_1 wk_5_112 hd_X3_needRange ⟨(Nat.le_of_ble_eq_true rfl), (Nat.le_of_ble_eq_true rfl)⟩ (Nat.le_of_ble_eq_true rfl) ⟨(Nat.le_of_ble_eq_true rfl), (Nat.le_of_ble_eq_true rfl)⟩ dX3_transfer_27 rfl rfl (fun _ => ?_)
        refine gq_aload_n C dX3_transfer_30 rfl 0 rfl ?_
        obtain ⟨m18, eo17, z16⟩ := bind_ex z15
        refine gq_V (As := []) (rest := []) (j := 0) C (c_X3_record hN  eo17) (qn_l 0 (by decide) hN) (by decide) (by decide) rfl wk_6_68 wk_6_70 ws_X3_record wk_1_1 wk_6_71 hd_X3_record ⟨(Nat.le_of_ble_eq_true rfl), (Nat.le_of_ble_eq_true rfl)⟩ (Nat.le_of_ble_eq_true rfl) ⟨(Nat.le_of_ble_eq_true rfl), (Nat.le_of_ble_eq_true rfl)⟩ dX3_transfer_31 rfl rfl ?_
        refine gq_aload_n C dX3_transfer_34 rfl 0 rfl ?_
        refine gq_get0 C (qn_l 0 (by decide) hN) (by decide) 0 (by decide) wk_1_227 rfl dX3_transfer_35 ?_
        refine gq_get1N C (qn_l 1 (by decide) hN) (by decide) 6 (by decide) wk_1_76 rfl dX3_transfer_38 ?_
        refine gq_iload_n C dX3_transfer_41 rfl 1 rfl ?_
        refine gq_iconst (v := 0) C dX3_transfer_42 (by decide) ?_
        obtain ⟨x21, eo20, z19⟩ := bind_ex z16
        refine gq_V (As := [.int p1, .int (0 : Int32)]) (rest := []) (j := 2) C (c_X2_get hN (show kd 9 = 2 by decide) eo20) (qn_l 9 (by decide) hN) (by decide) (by decide) rfl wk_2_67 wk_2_60 wk_2_61 wk_1_3 wk_2_62 hd_X2_get ⟨(Nat.le_of_ble_eq_true rfl), (Nat.le_of_ble_eq_true rfl)⟩ (Nat.le_of_ble_eq_true rfl) ⟨(Nat.le_of_ble_eq_true rfl), (Nat.le_of_ble_eq_true rfl)⟩ dX3_transfer_43 rfl rfl ?_
        refine gq_istore (lv' := [(4, .int x21), (0, .ref (eB E + 0)), (1, .int p1), (2, .int p2), (3, .int p3)]) C dX3_transfer_46 (by decide) rfl ?_
        refine gq_aload_n C dX3_transfer_48 rfl 1 rfl ?_
        refine gq_get0 C (qn_l 0 (by decide) hN) (by decide) 0 (by decide) wk_1_227 rfl dX3_transfer_49 ?_
        refine gq_iload_n C dX3_transfer_52 rfl 3 rfl ?_
        refine gq_iload C dX3_transfer_53 0 rfl ?_
        refine gq_iload_n C dX3_transfer_55 rfl 4 rfl ?_
        obtain ⟨m24, eo23, z22⟩ := bind_ex z19
        refine gq_V (As := [.int p2, .int x21, .int p3]) (rest := []) (j := 1) C (c_X1_pay hN (show kd 1 = 1 by decide) eo23) (qn_l 1 (by decide) hN) (by decide) (by decide) rfl wk_6_119 wk_5_132 wk_5_133 wk_1_2 wk_5_134 hd_X1_pay ⟨(Nat.le_of_ble_eq_true rfl), (Nat.le_of_ble_eq_true rfl)⟩ (Nat.le_of_ble_eq_true rfl) ⟨(Nat.le_of_ble_eq_true rfl), (Nat.le_of_ble_eq_true rfl)⟩ dX3_transfer_56 rfl rfl ?_
        refine gq_aload_n C dX3_transfer_59 rfl 1 rfl ?_
        refine gq_get0 C (qn_l 0 (by decide) hN) (by decide) 0 (by decide) wk_1_227 rfl dX3_transfer_60 ?_
        refine gq_get1N C (qn_l 1 (by decide) hN) (by decide) 6 (by decide) wk_1_76 rfl dX3_transfer_63 ?_
        refine gq_iload_n C dX3_transfer_66 rfl 2 rfl ?_
        refine gq_iconst (v := 0) C dX3_transfer_67 (by decide) ?_
        refine gq_iload_n C dX3_transfer_68 rfl 3 rfl ?_
        obtain ⟨m27, eo26, z25⟩ := bind_ex z22
        refine gq_V (As := [.int p1, .int (0 : Int32), .int p2]) (rest := []) (j := 2) C (c_X2_put hN (show kd 9 = 2 by decide) eo26) (qn_l 9 (by decide) hN) (by decide) (by decide) rfl wk_6_104 wk_4_130 wk_4_131 wk_1_3 wk_4_132 hd_X2_put ⟨(Nat.le_of_ble_eq_true rfl), (Nat.le_of_ble_eq_true rfl)⟩ (Nat.le_of_ble_eq_true rfl) ⟨(Nat.le_of_ble_eq_true rfl), (Nat.le_of_ble_eq_true rfl)⟩ dX3_transfer_69 rfl rfl ?_
        refine gq_iload C dX3_transfer_72 0 rfl ?_
        cases z25
        exact gx_ret (gq_iret C hr dX3_transfer_74 (Nat.le_of_ble_eq_true rfl) (Nat.le_of_ble_eq_true rfl))
      · cases z15
        refine gx_S (As := [.int p3, .int (0 : Int32), .int (9999 : Int32)]) (rest := []) C (Or.inl rfl) (fun _ => rfl) hout (Nat.le_of_ble_eq_true rfl) (Nat.le_of_ble_eq_true rfl) (c_X3_needRange hN hl9  eo12) wk_5_110 wk_5_111 wk_1_1 wk_5_112 hd_X3_needRange ⟨(Nat.le_of_ble_eq_true rfl), (Nat.le_of_ble_eq_true rfl)⟩ (Nat.le_of_ble_eq_true rfl) ⟨(Nat.le_of_ble_eq_true rfl), (Nat.le_of_ble_eq_true rfl)⟩ dX3_transfer_27 rfl rfl (fun h9 => absurd h9 c14)
    · cases z10
      refine gx_S (As := [.ref (eB E + 6), .int p2]) (rest := []) C (Or.inl rfl) (fun _ => rfl) hout (Nat.le_of_ble_eq_true rfl) (Nat.le_of_ble_eq_true rfl) (c_X3_needRow hN hl9 (show kd 6 = 2 by decide) eo7) wk_5_0 wk_5_1 wk_1_1 wk_5_2 hd_X3_needRow ⟨(Nat.le_of_ble_eq_true rfl), (Nat.le_of_ble_eq_true rfl)⟩ (Nat.le_of_ble_eq_true rfl) ⟨(Nat.le_of_ble_eq_true rfl), (Nat.le_of_ble_eq_true rfl)⟩ dX3_transfer_19 rfl rfl (fun h9 => absurd h9 c9)
  · cases z5
    refine gx_S (As := [.ref (eB E + 9), .int p1]) (rest := []) C (Or.inl rfl) (fun _ => rfl) hout (Nat.le_of_ble_eq_true rfl) (Nat.le_of_ble_eq_true rfl) (c_X3_needRow hN hl9 (show kd 9 = 2 by decide) eo2) wk_5_0 wk_5_1 wk_1_1 wk_5_2 hd_X3_needRow ⟨(Nat.le_of_ble_eq_true rfl), (Nat.le_of_ble_eq_true rfl)⟩ (Nat.le_of_ble_eq_true rfl) ⟨(Nat.le_of_ble_eq_true rfl), (Nat.le_of_ble_eq_true rfl)⟩ dX3_transfer_8 rfl rfl (fun h9 => absurd h9 c4)
abbrev rm_X3_swap : Room := { frames := 7, cells := 3, slots := 18, locals := 132 }
def F_X3_swap (p1 : Int32) (p2 : Int32) (μ : Mm) : Option (Nat × Int32 × Mm) :=
  (F_X3_needRow 9 p1 μ).bind fun o2 =>
  if o2 = 0 then ((F_X3_needRow 9 p2 μ).bind fun o7 =>
  if o7 = 0 then ((F_X2_get 9 p1 (0 : Int32) μ).bind fun o12 =>
  (F_X2_get 9 p2 (0 : Int32) μ).bind fun o15 =>
  if o12 = o15 then
  ((F_X3_record  μ).bind fun o20 =>
  (F_X2_get 9 p1 (2 : Int32) o20).bind fun o23 =>
  (F_X2_get 9 p2 (2 : Int32) o20).bind fun o26 =>
  (F_X2_put 9 p1 (2 : Int32) o26 o20).bind fun o29 =>
  (F_X2_put 9 p2 (2 : Int32) o23 o29).bind fun o32 =>
  (F_X1_rankRights 1 o32).bind fun o35 =>
  (F_X2_get 9 p1 (2 : Int32) o35).bind fun o38 =>
  some (0, o38, o35))
  else
  (some (4, 0, μ)))
  else some (o7, 0, μ))
  else some (o2, 0, μ)
set_option maxHeartbeats 4000000 in
set_option maxRecDepth 100000 in
theorem c_X3_swap {l : Launch} {E : Ev} (hN : 295 ≤ eN E) (hl9 : l.stackTraces = false) {p1 : Int32} {p2 : Int32} {μ : Mm} {ec : Nat} {r : Int32} {μ' : Mm} (z0 : F_X3_swap p1 p2 μ = some (ec, r, μ')) : Cx l E yX3_swap (Cond.code yX3_swap cX3_swap 4 (some .int) :: GW) rm_X3_swap [.ref (eB E + 0), .int p1, .int p2] μ ec (some (.int r)) μ' := by
  refine cx_of (by decide) (Nat.le_of_ble_eq_true rfl) (fun p e s m args below meth c C hr hout => ?_)
  have C : Cq E p s m args meth c cX3_swap 4 RX3 := C
  refine gq_lv (lv' := [(0, .ref (eB E + 0)), (1, .int p1), (2, .int p2)]) rfl ?_
  unfold F_X3_swap at z0
  refine gq_aload_n C dX3_swap_0 rfl 0 rfl ?_
  refine gq_get0 C (qn_l 0 (by decide) hN) (by decide) 0 (by decide) wk_1_227 rfl dX3_swap_1 ?_
  refine gq_get1N C (qn_l 1 (by decide) hN) (by decide) 6 (by decide) wk_1_76 rfl dX3_swap_4 ?_
  refine gq_iload_n C dX3_swap_7 rfl 1 rfl ?_
  obtain ⟨x3, eo2, z1⟩ := bind_ex z0
  rcases ite_ex z1 with ⟨c4, z5⟩ | ⟨c4, z5⟩
  · refine gx_S (As := [.ref (eB E + 9), .int p1]) (rest := []) C (μF := μ) (oF := none) (mcF := 1000000) (msF := 1000000) (Or.inr c4) (fun h9 => absurd c4 h9) hout (Nat.le_of_ble_eq_true rfl) (Nat.le_of_ble_eq_true rfl) (c_X3_needRow hN hl9 (show kd 9 = 2 by decide) eo2) wk_5_0 wk_5_1 wk_1_1 wk_5_2 hd_X3_needRow ⟨(Nat.le_of_ble_eq_true rfl), (Nat.le_of_ble_eq_true rfl)⟩ (Nat.le_of_ble_eq_true rfl) ⟨(Nat.le_of_ble_eq_true rfl), (Nat.le_of_ble_eq_true rfl)⟩ dX3_swap_8 rfl rfl (fun _ => ?_)
    refine gq_aload_n C dX3_swap_11 rfl 0 rfl ?_
    refine gq_get0 C (qn_l 0 (by decide) hN) (by decide) 0 (by decide) wk_1_227 rfl dX3_swap_12 ?_
    refine gq_get1N C (qn_l 1 (by decide) hN) (by decide) 6 (by decide) wk_1_76 rfl dX3_swap_15 ?_
    refine gq_iload_n C dX3_swap_18 rfl 2 rfl ?_
    obtain ⟨x8, eo7, z6⟩ := bind_ex z5
    rcases ite_ex z6 with ⟨c9, z10⟩ | ⟨c9, z10⟩
    · refine gx_S (As := [.ref (eB E + 9), .int p2]) (rest := []) C (μF := μ) (oF := none) (mcF := 1000000) (msF := 1000000) (Or.inr c9) (fun h9 => absurd c9 h9) hout (Nat.le_of_ble_eq_true rfl) (Nat.le_of_ble_eq_true rfl) (c_X3_needRow hN hl9 (show kd 9 = 2 by decide) eo7) wk_5_0 wk_5_1 wk_1_1 wk_5_2 hd_X3_needRow ⟨(Nat.le_of_ble_eq_true rfl), (Nat.le_of_ble_eq_true rfl)⟩ (Nat.le_of_ble_eq_true rfl) ⟨(Nat.le_of_ble_eq_true rfl), (Nat.le_of_ble_eq_true rfl)⟩ dX3_swap_19 rfl rfl (fun _ => ?_)
      refine gq_aload_n C dX3_swap_22 rfl 0 rfl ?_
      refine gq_get0 C (qn_l 0 (by decide) hN) (by decide) 0 (by decide) wk_1_227 rfl dX3_swap_23 ?_
      refine gq_get1N C (qn_l 1 (by decide) hN) (by decide) 6 (by decide) wk_1_76 rfl dX3_swap_26 ?_
      refine gq_iload_n C dX3_swap_29 rfl 1 rfl ?_
      refine gq_iconst (v := 0) C dX3_swap_30 (by decide) ?_
      obtain ⟨x13, eo12, z11⟩ := bind_ex z10
      refine gq_V (As := [.int p1, .int (0 : Int32)]) (rest := []) (j := 2) C (c_X2_get hN (show kd 9 = 2 by decide) eo12) (qn_l 9 (by decide) hN) (by decide) (by decide) rfl wk_2_67 wk_2_60 wk_2_61 wk_1_3 wk_2_62 hd_X2_get ⟨(Nat.le_of_ble_eq_true rfl), (Nat.le_of_ble_eq_true rfl)⟩ (Nat.le_of_ble_eq_true rfl) ⟨(Nat.le_of_ble_eq_true rfl), (Nat.le_of_ble_eq_true rfl)⟩ dX3_swap_31 rfl rfl ?_
      refine gq_aload_n C dX3_swap_34 rfl 0 rfl ?_
      refine gq_get0 C (qn_l 0 (by decide) hN) (by decide) 0 (by decide) wk_1_227 rfl dX3_swap_35 ?_
      refine gq_get1N C (qn_l 1 (by decide) hN) (by decide) 6 (by decide) wk_1_76 rfl dX3_swap_38 ?_
      refine gq_iload_n C dX3_swap_41 rfl 2 rfl ?_
      refine gq_iconst (v := 0) C dX3_swap_42 (by decide) ?_
      obtain ⟨x16, eo15, z14⟩ := bind_ex z11
      refine gq_V (As := [.int p2, .int (0 : Int32)]) (rest := [.int x13]) (j := 2) C (c_X2_get hN (show kd 9 = 2 by decide) eo15) (qn_l 9 (by decide) hN) (by decide) (by decide) rfl wk_2_67 wk_2_60 wk_2_61 wk_1_3 wk_2_62 hd_X2_get ⟨(Nat.le_of_ble_eq_true rfl), (Nat.le_of_ble_eq_true rfl)⟩ (Nat.le_of_ble_eq_true rfl) ⟨(Nat.le_of_ble_eq_true rfl), (Nat.le_of_ble_eq_true rfl)⟩ dX3_swap_43 rfl rfl ?_
      rcases ite_ex z14 with ⟨c17, z18⟩ | ⟨c17, z18⟩
      · refine gq_icmp_eq_t (tgt := 59) C dX3_swap_46 (by decide) c17 ?_
        refine gq_aload_n C dX3_swap_59 rfl 0 rfl ?_
        obtain ⟨m21, eo20, z19⟩ := bind_ex z18
        refine gq_V (As := []) (rest := []) (j := 0) C (c_X3_record hN  eo20) (qn_l 0 (by decide) hN) (by decide) (by decide) rfl wk_6_68 wk_6_70 ws_X3_record wk_1_1 wk_6_71 hd_X3_record ⟨(Nat.le_of_ble_eq_true rfl), (Nat.le_of_ble_eq_true rfl)⟩ (Nat.le_of_ble_eq_true rfl) ⟨(Nat.le_of_ble_eq_true rfl), (Nat.le_of_ble_eq_true rfl)⟩ dX3_swap_60 rfl rfl ?_
        refine gq_aload_n C dX3_swap_63 rfl 0 rfl ?_
        refine gq_get0 C (qn_l 0 (by decide) hN) (by decide) 0 (by decide) wk_1_227 rfl dX3_swap_64 ?_
        refine gq_get1N C (qn_l 1 (by decide) hN) (by decide) 6 (by decide) wk_1_76 rfl dX3_swap_67 ?_
        refine gq_iload_n C dX3_swap_70 rfl 1 rfl ?_
        refine gq_iconst (v := 2) C dX3_swap_71 (by decide) ?_
        obtain ⟨x24, eo23, z22⟩ := bind_ex z19
        refine gq_V (As := [.int p1, .int (2 : Int32)]) (rest := []) (j := 2) C (c_X2_get hN (show kd 9 = 2 by decide) eo23) (qn_l 9 (by decide) hN) (by decide) (by decide) rfl wk_2_67 wk_2_60 wk_2_61 wk_1_3 wk_2_62 hd_X2_get ⟨(Nat.le_of_ble_eq_true rfl), (Nat.le_of_ble_eq_true rfl)⟩ (Nat.le_of_ble_eq_true rfl) ⟨(Nat.le_of_ble_eq_true rfl), (Nat.le_of_ble_eq_true rfl)⟩ dX3_swap_72 rfl rfl ?_
        refine gq_istore_n (lv' := [(3, .int x24), (0, .ref (eB E + 0)), (1, .int p1), (2, .int p2)]) C dX3_swap_75 rfl (by decide) rfl ?_
        refine gq_aload_n C dX3_swap_76 rfl 1 rfl ?_
        refine gq_get0 C (qn_l 0 (by decide) hN) (by decide) 0 (by decide) wk_1_227 rfl dX3_swap_77 ?_
        refine gq_get1N C (qn_l 1 (by decide) hN) (by decide) 6 (by decide) wk_1_76 rfl dX3_swap_80 ?_
        refine gq_iload_n C dX3_swap_83 rfl 2 rfl ?_
        refine gq_iconst (v := 2) C dX3_swap_84 (by decide) ?_
        refine gq_aload_n C dX3_swap_85 rfl 1 rfl ?_
        refine gq_get0 C (qn_l 0 (by decide) hN) (by decide) 0 (by decide) wk_1_227 rfl dX3_swap_86 ?_
        refine gq_get1N C (qn_l 1 (by decide) hN) (by decide) 6 (by decide) wk_1_76 rfl dX3_swap_89 ?_
        refine gq_iload_n C dX3_swap_92 rfl 3 rfl ?_
        refine gq_iconst (v := 2) C dX3_swap_93 (by decide) ?_
        obtain ⟨x27, eo26, z25⟩ := bind_ex z22
        refine gq_V (As := [.int p2, .int (2 : Int32)]) (rest := [.int (2 : Int32), .int p1, .ref (eB E + 9)]) (j := 2) C (c_X2_get hN (show kd 9 = 2 by decide) eo26) (qn_l 9 (by decide) hN) (by decide) (by decide) rfl wk_2_67 wk_2_60 wk_2_61 wk_1_3 wk_2_62 hd_X2_get ⟨(Nat.le_of_ble_eq_true rfl), (Nat.le_of_ble_eq_true rfl)⟩ (Nat.le_of_ble_eq_true rfl) ⟨(Nat.le_of_ble_eq_true rfl), (Nat.le_of_ble_eq_true rfl)⟩ dX3_swap_94 rfl rfl ?_
        obtain ⟨m30, eo29, z28⟩ := bind_ex z25
        refine gq_V (As := [.int p1, .int (2 : Int32), .int x27]) (rest := []) (j := 2) C (c_X2_put hN (show kd 9 = 2 by decide) eo29) (qn_l 9 (by decide) hN) (by decide) (by decide) rfl wk_6_104 wk_4_130 wk_4_131 wk_1_3 wk_4_132 hd_X2_put ⟨(Nat.le_of_ble_eq_true rfl), (Nat.le_of_ble_eq_true rfl)⟩ (Nat.le_of_ble_eq_true rfl) ⟨(Nat.le_of_ble_eq_true rfl), (Nat.le_of_ble_eq_true rfl)⟩ dX3_swap_97 rfl rfl ?_
        refine gq_aload_n C dX3_swap_100 rfl 1 rfl ?_
        refine gq_get0 C (qn_l 0 (by decide) hN) (by decide) 0 (by decide) wk_1_227 rfl dX3_swap_101 ?_
        refine gq_get1N C (qn_l 1 (by decide) hN) (by decide) 6 (by decide) wk_1_76 rfl dX3_swap_104 ?_
        refine gq_iload_n C dX3_swap_107 rfl 3 rfl ?_
        refine gq_iconst (v := 2) C dX3_swap_108 (by decide) ?_
        refine gq_iload_n C dX3_swap_109 rfl 0 rfl ?_
        obtain ⟨m33, eo32, z31⟩ := bind_ex z28
        refine gq_V (As := [.int p2, .int (2 : Int32), .int x24]) (rest := []) (j := 2) C (c_X2_put hN (show kd 9 = 2 by decide) eo32) (qn_l 9 (by decide) hN) (by decide) (by decide) rfl wk_6_104 wk_4_130 wk_4_131 wk_1_3 wk_4_132 hd_X2_put ⟨(Nat.le_of_ble_eq_true rfl), (Nat.le_of_ble_eq_true rfl)⟩ (Nat.le_of_ble_eq_true rfl) ⟨(Nat.le_of_ble_eq_true rfl), (Nat.le_of_ble_eq_true rfl)⟩ dX3_swap_110 rfl rfl ?_
        refine gq_aload_n C dX3_swap_113 rfl 1 rfl ?_
        refine gq_get0 C (qn_l 0 (by decide) hN) (by decide) 0 (by decide) wk_1_227 rfl dX3_swap_114 ?_
        obtain ⟨m36, eo35, z34⟩ := bind_ex z31
        refine gq_V (As := []) (rest := []) (j := 1) C (c_X1_rankRights hN (show kd 1 = 1 by decide) eo35) (qn_l 1 (by decide) hN) (by decide) (by decide) rfl wk_6_128 wk_4_178 wk_4_179 wk_1_2 wk_4_180 hd_X1_rankRights ⟨(Nat.le_of_ble_eq_true rfl), (Nat.le_of_ble_eq_true rfl)⟩ (Nat.le_of_ble_eq_true rfl) ⟨(Nat.le_of_ble_eq_true rfl), (Nat.le_of_ble_eq_true rfl)⟩ dX3_swap_117 rfl rfl ?_
        refine gq_aload_n C dX3_swap_120 rfl 1 rfl ?_
        refine gq_get0 C (qn_l 0 (by decide) hN) (by decide) 0 (by decide) wk_1_227 rfl dX3_swap_121 ?_
        refine gq_get1N C (qn_l 1 (by decide) hN) (by decide) 6 (by decide) wk_1_76 rfl dX3_swap_124 ?_
        refine gq_iload_n C dX3_swap_127 rfl 2 rfl ?_
        refine gq_iconst (v := 2) C dX3_swap_128 (by decide) ?_
        obtain ⟨x39, eo38, z37⟩ := bind_ex z34
        refine gq_V (As := [.int p1, .int (2 : Int32)]) (rest := []) (j := 2) C (c_X2_get hN (show kd 9 = 2 by decide) eo38) (qn_l 9 (by decide) hN) (by decide) (by decide) rfl wk_2_67 wk_2_60 wk_2_61 wk_1_3 wk_2_62 hd_X2_get ⟨(Nat.le_of_ble_eq_true rfl), (Nat.le_of_ble_eq_true rfl)⟩ (Nat.le_of_ble_eq_true rfl) ⟨(Nat.le_of_ble_eq_true rfl), (Nat.le_of_ble_eq_true rfl)⟩ dX3_swap_129 rfl rfl ?_
        cases z37
        exact gx_ret (gq_iret C hr dX3_swap_132 (Nat.le_of_ble_eq_true rfl) (Nat.le_of_ble_eq_true rfl))
      · refine gq_icmp_eq_f (tgt := 59) C dX3_swap_46 (by decide) c17 ?_
        cases z18
        exact gx_throw C hl9 (cls := "java/lang/IllegalStateException") (text := "the rights belong to different accounts") (names := ["java/lang/RuntimeException", "java/lang/Exception"]) (j := 19) (by decide +kernel) (by decide +kernel) wk_5_237 wk_1_20 (by decide +kernel) (at_X3_231 C) at_X3_231_g dX3_swap_49 dX3_swap_52 dX3_swap_53 dX3_swap_55 dX3_swap_58 hout (by decide) rfl (Nat.le_of_ble_eq_true rfl) (Nat.le_of_ble_eq_true rfl) (Nat.le_of_ble_eq_true rfl) (Nat.le_of_ble_eq_true rfl) (Nat.le_of_ble_eq_true rfl) (Nat.le_of_ble_eq_true rfl)
    · cases z10
      refine gx_S (As := [.ref (eB E + 9), .int p2]) (rest := []) C (Or.inl rfl) (fun _ => rfl) hout (Nat.le_of_ble_eq_true rfl) (Nat.le_of_ble_eq_true rfl) (c_X3_needRow hN hl9 (show kd 9 = 2 by decide) eo7) wk_5_0 wk_5_1 wk_1_1 wk_5_2 hd_X3_needRow ⟨(Nat.le_of_ble_eq_true rfl), (Nat.le_of_ble_eq_true rfl)⟩ (Nat.le_of_ble_eq_true rfl) ⟨(Nat.le_of_ble_eq_true rfl), (Nat.le_of_ble_eq_true rfl)⟩ dX3_swap_19 rfl rfl (fun h9 => absurd h9 c9)
  · cases z5
    refine gx_S (As := [.ref (eB E + 9), .int p1]) (rest := []) C (Or.inl rfl) (fun _ => rfl) hout (Nat.le_of_ble_eq_true rfl) (Nat.le_of_ble_eq_true rfl) (c_X3_needRow hN hl9 (show kd 9 = 2 by decide) eo2) wk_5_0 wk_5_1 wk_1_1 wk_5_2 hd_X3_needRow ⟨(Nat.le_of_ble_eq_true rfl), (Nat.le_of_ble_eq_true rfl)⟩ (Nat.le_of_ble_eq_true rfl) ⟨(Nat.le_of_ble_eq_true rfl), (Nat.le_of_ble_eq_true rfl)⟩ dX3_swap_8 rfl rfl (fun h9 => absurd h9 c4)
abbrev rm_X3_undo : Room := { frames := 3, cells := 0, slots := 0, locals := 110 }
def F_X3_undo  (μ : Mm) : Option (Int32 × Mm) :=
  if (μ.1 0 5) ≤ 0 then
  (some ((-1 : Int32), μ))
  else
  (if (μ.1 0 5) ≤ (8 : Int32) then
  ((some (uI μ 0 5 ((μ.1 0 5) - (1 : Int32)))).bind fun m5 =>
  (aR m5 70 (m5.1 0 5)).bind fun b7 =>
  (F_X1_copyFrom 1 b7 m5).bind fun o10 =>
  some ((o10.1 0 5), o10))
  else
  (some ((-1 : Int32), μ)))
set_option maxHeartbeats 4000000 in
set_option maxRecDepth 100000 in
theorem c_X3_undo {l : Launch} {E : Ev} (hN : 295 ≤ eN E) {μ : Mm} {r : Int32} {μ' : Mm} (z0 : F_X3_undo  μ = some (r, μ')) : Ct l E yX3_undo (Cond.code yX3_undo cX3_undo 1 (some .int) :: GW) rm_X3_undo [.ref (eB E + 0)] μ (some (.int r)) μ' := by
  refine ct_of (by decide) (Nat.le_of_ble_eq_true rfl) (fun p e s m args below meth c C hr => ?_)
  have C : Cq E p s m args meth c cX3_undo 1 RX3 := C
  refine gq_lv (lv' := [(0, .ref (eB E + 0))]) rfl ?_
  unfold F_X3_undo at z0
  refine gq_aload_n C dX3_undo_0 rfl 0 rfl ?_
  refine gq_get0 C (qn_l 0 (by decide) hN) (by decide) 5 (by decide) wk_1_232 rfl dX3_undo_1 ?_
  rcases ite_ex z0 with ⟨c1, z2⟩ | ⟨c1, z2⟩
  · refine gq_if_le_t (tgt := 16) C dX3_undo_4 (by decide) c1 ?_
    refine gq_iconst (v := -1) C dX3_undo_16 (by decide) ?_
    cases z2
    exact gq_iret C hr dX3_undo_17 (Nat.le_of_ble_eq_true rfl) (Nat.le_of_ble_eq_true rfl)
  · refine gq_if_le_f (tgt := 16) C dX3_undo_4 (by decide) c1 ?_
    refine gq_aload_n C dX3_undo_7 rfl 0 rfl ?_
    refine gq_get0 C (qn_l 0 (by decide) hN) (by decide) 5 (by decide) wk_1_232 rfl dX3_undo_8 ?_
    refine gq_bipush (v := 8) C dX3_undo_11 (by decide) ?_
    rcases ite_ex z2 with ⟨c3, z4⟩ | ⟨c3, z4⟩
    · refine gq_icmp_le_t (tgt := 18) C dX3_undo_13 (by decide) c3 ?_
      refine gq_aload_n C dX3_undo_18 rfl 0 rfl ?_
      refine gq_dupr C dX3_undo_19 ?_
      refine gq_get0 C (qn_l 0 (by decide) hN) (by decide) 5 (by decide) wk_1_232 rfl dX3_undo_20 ?_
      refine gq_iconst (v := 1) C dX3_undo_23 (by decide) ?_
      refine gq_isub C dX3_undo_24 ?_
      obtain ⟨m5, em5, z6⟩ := bind_ex z4
      refine gq_put0_5 C (qn_l 0 (by decide) hN) (by decide) wk_1_232 (Option.some.inj em5).symm dX3_undo_25 ?_
      refine gq_aload_n C dX3_undo_28 rfl 0 rfl ?_
      refine gq_get0 C (qn_l 0 (by decide) hN) (by decide) 0 (by decide) wk_1_227 rfl dX3_undo_29 ?_
      refine gq_aload_n C dX3_undo_32 rfl 0 rfl ?_
      refine gq_get0 C (qn_l 0 (by decide) hN) (by decide) 4 (by decide) wk_1_231 rfl dX3_undo_33 ?_
      refine gq_aload_n C dX3_undo_36 rfl 0 rfl ?_
      refine gq_get0 C (qn_l 0 (by decide) hN) (by decide) 5 (by decide) wk_1_232 rfl dX3_undo_37 ?_
      obtain ⟨b7, eb7, z8⟩ := bind_ex z6
      refine gq_aaload C (qn_l 70 (by decide) hN) (by decide) eb7 dX3_undo_40 (fun k_b7 => ?_)
      obtain ⟨m11, eo10, z9⟩ := bind_ex z8
      refine gq_V (As := [.ref (eB E + b7)]) (rest := []) (j := 1) C (c_X1_copyFrom hN (show kd 1 = 1 by decide) k_b7 eo10) (qn_l 1 (by decide) hN) (by decide) (by decide) rfl wk_2_133 wk_2_134 wk_2_135 wk_1_2 wk_2_136 hd_X1_copyFrom ⟨(Nat.le_of_ble_eq_true rfl), (Nat.le_of_ble_eq_true rfl)⟩ (Nat.le_of_ble_eq_true rfl) ⟨(Nat.le_of_ble_eq_true rfl), (Nat.le_of_ble_eq_true rfl)⟩ dX3_undo_41 rfl rfl ?_
      refine gq_aload_n C dX3_undo_44 rfl 0 rfl ?_
      refine gq_get0 C (qn_l 0 (by decide) hN) (by decide) 5 (by decide) wk_1_232 rfl dX3_undo_45 ?_
      cases z9
      exact gq_iret C hr dX3_undo_48 (Nat.le_of_ble_eq_true rfl) (Nat.le_of_ble_eq_true rfl)
    · refine gq_icmp_le_f (tgt := 18) C dX3_undo_13 (by decide) c3 ?_
      refine gq_iconst (v := -1) C dX3_undo_16 (by decide) ?_
      cases z4
      exact gq_iret C hr dX3_undo_17 (Nat.le_of_ble_eq_true rfl) (Nat.le_of_ble_eq_true rfl)
abbrev rm_X3_undoDepth : Room := { frames := 0, cells := 0, slots := 0, locals := 0 }
def F_X3_undoDepth  (μ : Mm) : Option Int32 :=
  some (μ.1 0 5)
set_option maxHeartbeats 4000000 in
set_option maxRecDepth 100000 in
theorem c_X3_undoDepth {l : Launch} {E : Ev} (hN : 295 ≤ eN E) {μ : Mm} {r : Int32} (z0 : F_X3_undoDepth  μ = some r) : Ct l E yX3_undoDepth (Cond.code yX3_undoDepth cX3_undoDepth 1 (some .int) :: GW) rm_X3_undoDepth [.ref (eB E + 0)] μ (some (.int r)) μ := by
  refine ct_of (by decide) (Nat.le_of_ble_eq_true rfl) (fun p e s m args below meth c C hr => ?_)
  have C : Cq E p s m args meth c cX3_undoDepth 1 RX3 := C
  refine gq_lv (lv' := [(0, .ref (eB E + 0))]) rfl ?_
  unfold F_X3_undoDepth at z0
  refine gq_aload_n C dX3_undoDepth_0 rfl 0 rfl ?_
  refine gq_get0 C (qn_l 0 (by decide) hN) (by decide) 5 (by decide) wk_1_232 rfl dX3_undoDepth_1 ?_
  cases z0
  exact gq_iret C hr dX3_undoDepth_4 (Nat.le_of_ble_eq_true rfl) (Nat.le_of_ble_eq_true rfl)
abbrev rm_X3_needSlot : Room := { frames := 6, cells := 1, slots := 6, locals := 90 }
def F_X3_needSlot (p1 : Int32) (μ : Mm) : Option Nat :=
  if p1 < 0 then
  (some 1)
  else
  (if p1 < (2 : Int32) then
  (some 0)
  else
  (some 1))
set_option maxHeartbeats 4000000 in
set_option maxRecDepth 100000 in
theorem c_X3_needSlot {l : Launch} {E : Ev} (hN : 295 ≤ eN E) (hl9 : l.stackTraces = false) {p1 : Int32} {μ : Mm} {ec : Nat} (z0 : F_X3_needSlot p1 μ = some ec) : Cx l E yX3_needSlot (Cond.code yX3_needSlot cX3_needSlot 1 none :: GW) rm_X3_needSlot [.int p1] μ ec none μ := by
  refine cx_of (by decide) (Nat.le_of_ble_eq_true rfl) (fun p e s m args below meth c C hr hout => ?_)
  have C : Cq E p s m args meth c cX3_needSlot 1 RX3 := C
  refine gq_lv (lv' := [(0, .int p1)]) rfl ?_
  unfold F_X3_needSlot at z0
  refine gq_iload_n C dX3_needSlot_0 rfl 0 rfl ?_
  rcases ite_ex z0 with ⟨c1, z2⟩ | ⟨c1, z2⟩
  · refine gq_if_lt_t (tgt := 9) C dX3_needSlot_1 (by decide) c1 ?_
    cases z2
    exact gx_throwW C hl9 (cls := "java/lang/IndexOutOfBoundsException") (text := "no such slot") (names := ["java/lang/RuntimeException", "java/lang/Exception"]) (j := 20) (by decide +kernel) (by decide +kernel) wk_5_4 wk_1_18 (by decide +kernel) (at_X3_285 C) at_X3_285_g dX3_needSlot_9 dX3_needSlot_12 dX3_needSlot_13 dX3_needSlot_16 dX3_needSlot_19 hout (by decide) rfl (Nat.le_of_ble_eq_true rfl) (Nat.le_of_ble_eq_true rfl) (Nat.le_of_ble_eq_true rfl) (Nat.le_of_ble_eq_true rfl) (Nat.le_of_ble_eq_true rfl) (Nat.le_of_ble_eq_true rfl)
  · refine gq_if_lt_f (tgt := 9) C dX3_needSlot_1 (by decide) c1 ?_
    refine gq_iload_n C dX3_needSlot_4 rfl 0 rfl ?_
    refine gq_iconst (v := 2) C dX3_needSlot_5 (by decide) ?_
    rcases ite_ex z2 with ⟨c3, z4⟩ | ⟨c3, z4⟩
    · refine gq_icmp_lt_t (tgt := 20) C dX3_needSlot_6 (by decide) c3 ?_
      cases z4
      exact gx_ret (gq_vret C hr dX3_needSlot_20 (Nat.le_of_ble_eq_true rfl) (Nat.le_of_ble_eq_true rfl))
    · refine gq_icmp_lt_f (tgt := 20) C dX3_needSlot_6 (by decide) c3 ?_
      cases z4
      exact gx_throwW C hl9 (cls := "java/lang/IndexOutOfBoundsException") (text := "no such slot") (names := ["java/lang/RuntimeException", "java/lang/Exception"]) (j := 20) (by decide +kernel) (by decide +kernel) wk_5_4 wk_1_18 (by decide +kernel) (at_X3_285 C) at_X3_285_g dX3_needSlot_9 dX3_needSlot_12 dX3_needSlot_13 dX3_needSlot_16 dX3_needSlot_19 hout (by decide) rfl (Nat.le_of_ble_eq_true rfl) (Nat.le_of_ble_eq_true rfl) (Nat.le_of_ble_eq_true rfl) (Nat.le_of_ble_eq_true rfl) (Nat.le_of_ble_eq_true rfl) (Nat.le_of_ble_eq_true rfl)
abbrev rm_X3_save : Room := { frames := 7, cells := 1, slots := 6, locals := 110 }
def F_X3_save (p1 : Int32) (μ : Mm) : Option (Nat × Int32 × Mm) :=
  (F_X3_needSlot p1 μ).bind fun o2 =>
  if o2 = 0 then ((aI μ 292 p1).bind fun x6 =>
  (aR μ 247 p1).bind fun b8 =>
  (F_X1_copyFrom b8 1 μ).bind fun o11 =>
  (sZ o11 292 p1 (1 : Int32)).bind fun m13 =>
  (zb x6).bind fun x15 => some (0, x15, m13))
  else some (o2, 0, μ)
set_option maxHeartbeats 4000000 in
set_option maxRecDepth 100000 in
theorem c_X3_save {l : Launch} {E : Ev} (hN : 295 ≤ eN E) (hl9 : l.stackTraces = false) {p1 : Int32} {μ : Mm} {ec : Nat} {r : Int32} {μ' : Mm} (z0 : F_X3_save p1 μ = some (ec, r, μ')) : Cx l E yX3_save (Cond.code yX3_save cX3_save 3 (some .boolean) :: GW) rm_X3_save [.ref (eB E + 0), .int p1] μ ec (some (.int r)) μ' := by
  refine cx_of (by decide) (Nat.le_of_ble_eq_true rfl) (fun p e s m args below meth c C hr hout => ?_)
  have C : Cq E p s m args meth c cX3_save 3 RX3 := C
  refine gq_lv (lv' := [(0, .ref (eB E + 0)), (1, .int p1)]) rfl ?_
  unfold F_X3_save at z0
  refine gq_iload_n C dX3_save_0 rfl 1 rfl ?_
  obtain ⟨x3, eo2, z1⟩ := bind_ex z0
  rcases ite_ex z1 with ⟨c4, z5⟩ | ⟨c4, z5⟩
  · refine gx_S (As := [.int p1]) (rest := []) C (μF := μ) (oF := none) (mcF := 1000000) (msF := 1000000) (Or.inr c4) (fun h9 => absurd c4 h9) hout (Nat.le_of_ble_eq_true rfl) (Nat.le_of_ble_eq_true rfl) (c_X3_needSlot hN hl9  eo2) wk_6_136 wk_6_137 wk_1_1 wk_6_138 hd_X3_needSlot ⟨(Nat.le_of_ble_eq_true rfl), (Nat.le_of_ble_eq_true rfl)⟩ (Nat.le_of_ble_eq_true rfl) ⟨(Nat.le_of_ble_eq_true rfl), (Nat.le_of_ble_eq_true rfl)⟩ dX3_save_1 rfl rfl (fun _ => ?_)
    refine gq_aload_n C dX3_save_4 rfl 0 rfl ?_
    refine gq_get0 C (qn_l 0 (by decide) hN) (by decide) 7 (by decide) wk_1_234 rfl dX3_save_5 ?_
    refine gq_iload_n C dX3_save_8 rfl 1 rfl ?_
    obtain ⟨x6, ex6, z7⟩ := bind_ex z5
    refine gq_baloadZ C (qn_l 292 (by decide) hN) (by decide) ex6 dX3_save_9 ?_
    refine gq_istore_n (lv' := [(2, .int x6), (0, .ref (eB E + 0)), (1, .int p1)]) C dX3_save_10 rfl (by decide) rfl ?_
    refine gq_aload_n C dX3_save_11 rfl 1 rfl ?_
    refine gq_get0 C (qn_l 0 (by decide) hN) (by decide) 6 (by decide) wk_1_233 rfl dX3_save_12 ?_
    refine gq_iload_n C dX3_save_15 rfl 2 rfl ?_
    obtain ⟨b8, eb8, z9⟩ := bind_ex z7
    refine gq_aaload C (qn_l 247 (by decide) hN) (by decide) eb8 dX3_save_16 (fun k_b8 => ?_)
    refine gq_aload_n C dX3_save_17 rfl 1 rfl ?_
    refine gq_get0 C (qn_l 0 (by decide) hN) (by decide) 0 (by decide) wk_1_227 rfl dX3_save_18 ?_
    obtain ⟨m12, eo11, z10⟩ := bind_ex z9
    refine gq_V (As := [.ref (eB E + 1)]) (rest := []) C (c_X1_copyFrom hN k_b8 (show kd 1 = 1 by decide) eo11) (st_n k_b8 hN 0 (by decide)) k_b8 (by decide) rfl wk_2_133 wk_2_134 wk_2_135 wk_1_2 wk_2_136 hd_X1_copyFrom ⟨(Nat.le_of_ble_eq_true rfl), (Nat.le_of_ble_eq_true rfl)⟩ (Nat.le_of_ble_eq_true rfl) ⟨(Nat.le_of_ble_eq_true rfl), (Nat.le_of_ble_eq_true rfl)⟩ dX3_save_21 rfl rfl ?_
    refine gq_aload_n C dX3_save_24 rfl 1 rfl ?_
    refine gq_get0 C (qn_l 0 (by decide) hN) (by decide) 7 (by decide) wk_1_234 rfl dX3_save_25 ?_
    refine gq_iload_n C dX3_save_28 rfl 2 rfl ?_
    refine gq_iconst (v := 1) C dX3_save_29 (by decide) ?_
    obtain ⟨m13, em13, z14⟩ := bind_ex z10
    refine gq_bastoreZ C (qn_l 292 (by decide) hN) (by decide) em13 dX3_save_30 ?_
    refine gq_iload_n C dX3_save_31 rfl 0 rfl ?_
    obtain ⟨x15, ex15, z16⟩ := bind_ex z14
    obtain ⟨nx15, qx15⟩ := zb_ex2 ex15
    subst qx15
    cases z16
    exact gx_ret (gq_zret C hr nx15 dX3_save_32 (Nat.le_of_ble_eq_true rfl) (Nat.le_of_ble_eq_true rfl))
  · cases z5
    refine gx_S (As := [.int p1]) (rest := []) C (Or.inl rfl) (fun _ => rfl) hout (Nat.le_of_ble_eq_true rfl) (Nat.le_of_ble_eq_true rfl) (c_X3_needSlot hN hl9  eo2) wk_6_136 wk_6_137 wk_1_1 wk_6_138 hd_X3_needSlot ⟨(Nat.le_of_ble_eq_true rfl), (Nat.le_of_ble_eq_true rfl)⟩ (Nat.le_of_ble_eq_true rfl) ⟨(Nat.le_of_ble_eq_true rfl), (Nat.le_of_ble_eq_true rfl)⟩ dX3_save_1 rfl rfl (fun h9 => absurd h9 c4)
abbrev rm_X3_restore : Room := { frames := 7, cells := 2, slots := 12, locals := 110 }
def F_X3_restore (p1 : Int32) (μ : Mm) : Option (Nat × Int32 × Mm) :=
  (F_X3_needSlot p1 μ).bind fun o2 =>
  if o2 = 0 then ((aI μ 292 p1).bind fun x6 =>
  if x6 = 0 then
  (some (4, 0, μ))
  else
  ((aR μ 247 p1).bind fun b10 =>
  (F_X1_copyFrom 1 b10 μ).bind fun o13 =>
  (some (uI o13 0 5 (0 : Int32))).bind fun m15 =>
  some (0, (m15.1 1 14), m15)))
  else some (o2, 0, μ)
set_option maxHeartbeats 4000000 in
set_option maxRecDepth 100000 in
theorem c_X3_restore {l : Launch} {E : Ev} (hN : 295 ≤ eN E) (hl9 : l.stackTraces = false) {p1 : Int32} {μ : Mm} {ec : Nat} {r : Int32} {μ' : Mm} (z0 : F_X3_restore p1 μ = some (ec, r, μ')) : Cx l E yX3_restore (Cond.code yX3_restore cX3_restore 2 (some .int) :: GW) rm_X3_restore [.ref (eB E + 0), .int p1] μ ec (some (.int r)) μ' := by
  refine cx_of (by decide) (Nat.le_of_ble_eq_true rfl) (fun p e s m args below meth c C hr hout => ?_)
  have C : Cq E p s m args meth c cX3_restore 2 RX3 := C
  refine gq_lv (lv' := [(0, .ref (eB E + 0)), (1, .int p1)]) rfl ?_
  unfold F_X3_restore at z0
  refine gq_iload_n C dX3_restore_0 rfl 1 rfl ?_
  obtain ⟨x3, eo2, z1⟩ := bind_ex z0
  rcases ite_ex z1 with ⟨c4, z5⟩ | ⟨c4, z5⟩
  · refine gx_S (As := [.int p1]) (rest := []) C (μF := μ) (oF := none) (mcF := 1000000) (msF := 1000000) (Or.inr c4) (fun h9 => absurd c4 h9) hout (Nat.le_of_ble_eq_true rfl) (Nat.le_of_ble_eq_true rfl) (c_X3_needSlot hN hl9  eo2) wk_6_136 wk_6_137 wk_1_1 wk_6_138 hd_X3_needSlot ⟨(Nat.le_of_ble_eq_true rfl), (Nat.le_of_ble_eq_true rfl)⟩ (Nat.le_of_ble_eq_true rfl) ⟨(Nat.le_of_ble_eq_true rfl), (Nat.le_of_ble_eq_true rfl)⟩ dX3_restore_1 rfl rfl (fun _ => ?_)
    refine gq_aload_n C dX3_restore_4 rfl 0 rfl ?_
    refine gq_get0 C (qn_l 0 (by decide) hN) (by decide) 7 (by decide) wk_1_234 rfl dX3_restore_5 ?_
    refine gq_iload_n C dX3_restore_8 rfl 1 rfl ?_
    obtain ⟨x6, ex6, z7⟩ := bind_ex z5
    refine gq_baloadZ C (qn_l 292 (by decide) hN) (by decide) ex6 dX3_restore_9 ?_
    rcases ite_ex z7 with ⟨c8, z9⟩ | ⟨c8, z9⟩
    · refine gq_if_ne_f (tgt := 24) C dX3_restore_10 (by decide) c8 ?_
      cases z9
      exact gx_throwW C hl9 (cls := "java/lang/IllegalStateException") (text := "the slot is empty") (names := ["java/lang/RuntimeException", "java/lang/Exception"]) (j := 21) (by decide +kernel) (by decide +kernel) wk_5_237 wk_1_20 (by decide +kernel) (at_X3_231 C) at_X3_231_g dX3_restore_13 dX3_restore_16 dX3_restore_17 dX3_restore_20 dX3_restore_23 hout (by decide) rfl (Nat.le_of_ble_eq_true rfl) (Nat.le_of_ble_eq_true rfl) (Nat.le_of_ble_eq_true rfl) (Nat.le_of_ble_eq_true rfl) (Nat.le_of_ble_eq_true rfl) (Nat.le_of_ble_eq_true rfl)
    · refine gq_if_ne_t (tgt := 24) C dX3_restore_10 (by decide) c8 ?_
      refine gq_aload_n C dX3_restore_24 rfl 0 rfl ?_
      refine gq_get0 C (qn_l 0 (by decide) hN) (by decide) 0 (by decide) wk_1_227 rfl dX3_restore_25 ?_
      refine gq_aload_n C dX3_restore_28 rfl 0 rfl ?_
      refine gq_get0 C (qn_l 0 (by decide) hN) (by decide) 6 (by decide) wk_1_233 rfl dX3_restore_29 ?_
      refine gq_iload_n C dX3_restore_32 rfl 1 rfl ?_
      obtain ⟨b10, eb10, z11⟩ := bind_ex z9
      refine gq_aaload C (qn_l 247 (by decide) hN) (by decide) eb10 dX3_restore_33 (fun k_b10 => ?_)
      obtain ⟨m14, eo13, z12⟩ := bind_ex z11
      refine gq_V (As := [.ref (eB E + b10)]) (rest := []) (j := 1) C (c_X1_copyFrom hN (show kd 1 = 1 by decide) k_b10 eo13) (qn_l 1 (by decide) hN) (by decide) (by decide) rfl wk_2_133 wk_2_134 wk_2_135 wk_1_2 wk_2_136 hd_X1_copyFrom ⟨(Nat.le_of_ble_eq_true rfl), (Nat.le_of_ble_eq_true rfl)⟩ (Nat.le_of_ble_eq_true rfl) ⟨(Nat.le_of_ble_eq_true rfl), (Nat.le_of_ble_eq_true rfl)⟩ dX3_restore_34 rfl rfl ?_
      refine gq_aload_n C dX3_restore_37 rfl 0 rfl ?_
      refine gq_iconst (v := 0) C dX3_restore_38 (by decide) ?_
      obtain ⟨m15, em15, z16⟩ := bind_ex z12
      refine gq_put0_5 C (qn_l 0 (by decide) hN) (by decide) wk_1_232 (Option.some.inj em15).symm dX3_restore_39 ?_
      refine gq_aload_n C dX3_restore_42 rfl 0 rfl ?_
      refine gq_get0 C (qn_l 0 (by decide) hN) (by decide) 0 (by decide) wk_1_227 rfl dX3_restore_43 ?_
      refine gq_get1N C (qn_l 1 (by decide) hN) (by decide) 14 (by decide) wk_1_93 rfl dX3_restore_46 ?_
      cases z16
      exact gx_ret (gq_iret C hr dX3_restore_49 (Nat.le_of_ble_eq_true rfl) (Nat.le_of_ble_eq_true rfl))
  · cases z5
    refine gx_S (As := [.int p1]) (rest := []) C (Or.inl rfl) (fun _ => rfl) hout (Nat.le_of_ble_eq_true rfl) (Nat.le_of_ble_eq_true rfl) (c_X3_needSlot hN hl9  eo2) wk_6_136 wk_6_137 wk_1_1 wk_6_138 hd_X3_needSlot ⟨(Nat.le_of_ble_eq_true rfl), (Nat.le_of_ble_eq_true rfl)⟩ (Nat.le_of_ble_eq_true rfl) ⟨(Nat.le_of_ble_eq_true rfl), (Nat.le_of_ble_eq_true rfl)⟩ dX3_restore_1 rfl rfl (fun h9 => absurd h9 c4)
abbrev rm_X3_letterOf : Room := { frames := 0, cells := 0, slots := 0, locals := 0 }
def F_X3_letterOf (p1 : Int32) (μ : Mm) : Option Int32 :=
  if p1 = (1 : Int32) then
  (some (108 : Int32))
  else
  (if p1 = (2 : Int32) then
  (some (111 : Int32))
  else
  (some (114 : Int32)))
set_option maxHeartbeats 4000000 in
set_option maxRecDepth 100000 in
theorem c_X3_letterOf {l : Launch} {E : Ev} (hN : 295 ≤ eN E) {p1 : Int32} {μ : Mm} {r : Int32} (z0 : F_X3_letterOf p1 μ = some r) : Ct l E yX3_letterOf (Cond.code yX3_letterOf cX3_letterOf 1 (some .char) :: GW) rm_X3_letterOf [.int p1] μ (some (.int r)) μ := by
  refine ct_of (by decide) (Nat.le_of_ble_eq_true rfl) (fun p e s m args below meth c C hr => ?_)
  have C : Cq E p s m args meth c cX3_letterOf 1 RX3 := C
  refine gq_lv (lv' := [(0, .int p1)]) rfl ?_
  unfold F_X3_letterOf at z0
  refine gq_iload_n C dX3_letterOf_0 rfl 0 rfl ?_
  refine gq_iconst (v := 1) C dX3_letterOf_1 (by decide) ?_
  rcases ite_ex z0 with ⟨c1, z2⟩ | ⟨c1, z2⟩
  · refine gq_icmp_ne_f (tgt := 8) C dX3_letterOf_2 (by decide) c1 ?_
    refine gq_bipush (v := 108) C dX3_letterOf_5 (by decide) ?_
    cases z2
    exact gq_zret C hr (by decide) dX3_letterOf_7 (Nat.le_of_ble_eq_true rfl) (Nat.le_of_ble_eq_true rfl)
  · refine gq_icmp_ne_t (tgt := 8) C dX3_letterOf_2 (by decide) c1 ?_
    refine gq_iload_n C dX3_letterOf_8 rfl 0 rfl ?_
    refine gq_iconst (v := 2) C dX3_letterOf_9 (by decide) ?_
    rcases ite_ex z2 with ⟨c3, z4⟩ | ⟨c3, z4⟩
    · refine gq_icmp_ne_f (tgt := 18) C dX3_letterOf_10 (by decide) c3 ?_
      refine gq_bipush (v := 111) C dX3_letterOf_13 (by decide) ?_
      refine gq_goto (tgt := 20) C dX3_letterOf_15 (by decide) ?_
      cases z4
      exact gq_zret C hr (by decide) dX3_letterOf_20 (Nat.le_of_ble_eq_true rfl) (Nat.le_of_ble_eq_true rfl)
    · refine gq_icmp_ne_t (tgt := 18) C dX3_letterOf_10 (by decide) c3 ?_
      refine gq_bipush (v := 114) C dX3_letterOf_18 (by decide) ?_
      cases z4
      exact gq_zret C hr (by decide) dX3_letterOf_20 (Nat.le_of_ble_eq_true rfl) (Nat.le_of_ble_eq_true rfl)
