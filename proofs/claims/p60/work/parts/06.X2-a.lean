abbrev rm_X2_removeAll : Room := { frames := 0, cells := 0, slots := 0, locals := 0 }
def F_X2_removeAll (t : Nat) (μ : Mm) : Option Mm :=
  (some (uI μ t 2 (0 : Int32))).bind fun m1 =>
  some m1
set_option maxHeartbeats 4000000 in
set_option maxRecDepth 100000 in
theorem c_X2_removeAll {l : Launch} {E : Ev} (hN : 295 ≤ eN E) {t : Nat} (k_t : kd t = 2) {μ : Mm} {μ' : Mm} (z0 : F_X2_removeAll t μ = some μ') : Ct l E yX2_removeAll (Cond.code yX2_removeAll cX2_removeAll 1 none :: GW) rm_X2_removeAll [.ref (eB E + t)] μ none μ' := by
  refine ct_of (by decide) (Nat.le_of_ble_eq_true rfl) (fun p e s m args below meth c C hr => ?_)
  have C : Cq E p s m args meth c cX2_removeAll 1 RX2 := C
  refine gq_lv (lv' := [(0, .ref (eB E + t))]) rfl ?_
  unfold F_X2_removeAll at z0
  refine gq_aload_n C dX2_removeAll_0 rfl 0 rfl ?_
  refine gq_iconst (v := 0) C dX2_removeAll_1 (by decide) ?_
  obtain ⟨m1, em1, z2⟩ := bind_ex z0
  refine gq_put2_2 C (tb_n0 k_t hN) k_t wk_2_138 (Option.some.inj em1).symm dX2_removeAll_2 ?_
  cases z2
  exact gq_vret C hr dX2_removeAll_5 (Nat.le_of_ble_eq_true rfl) (Nat.le_of_ble_eq_true rfl)
abbrev rm_X2_addRow : Room := { frames := 0, cells := 0, slots := 0, locals := 0 }
def F_X2_addRow_43 (t : Nat) (u1 : Int32) : Nat → Int32 → Mm → Option Mm
  | 0, _, _ => none
  | n + 1, v2, μ =>
  if ((μ.1 t 2) * (μ.1 t 0)) ≤ v2 then
  (some μ)
  else
  ((sI μ (t + 1) v2 (0 : Int32)).bind fun m7 =>
  F_X2_addRow_43 t u1 n (v2 + 1) m7)
def F_X2_addRow (t : Nat) (μ : Mm) : Option (Int32 × Mm) :=
  if (((μ.1 t 2) + (1 : Int32)) * (μ.1 t 0)) ≤ (Int32.ofNat (ln (t + 1))) then
  ((some (uI μ t 2 ((μ.1 t 2) + (1 : Int32)))).bind fun m3 =>
  (F_X2_addRow_43 t (μ.1 t 2) qFuel ((μ.1 t 2) * (m3.1 t 0)) m3).bind fun o10 =>
  some ((μ.1 t 2), o10))
  else
  (some ((-1 : Int32), μ))
set_option maxHeartbeats 4000000 in
set_option maxRecDepth 100000 in
theorem l_X2_addRow_43 {l : Launch} {E : Ev} (hN : 295 ≤ eN E) {p : Program} {e : Env} {s : State} {m : MethodId} {args : Array Value} {below : List Frame} {meth : Method} {c : Code} (C : Cq E p s m args meth c cX2_addRow 3 RX2) {Q : State → Prop} {t : Nat} (k_t : kd t = 2) {u1 : Int32} : ∀ (n : Nat) (v2 : Int32) (μ : Mm) (μx : Mm), F_X2_addRow_43 t u1 n v2 μ = some μx → Gq E p l e rm_X2_addRow s m args below meth c 0 0 3 Q 69 [(1, .int u1)] [] μx → Gq E p l e rm_X2_addRow s m args below meth c 0 0 3 Q 43 [(0, .ref (eB E + t)), (1, .int u1), (2, .int v2)] [] μ := by
  intro n
  induction n with
  | zero =>
    intro v2 μ μx z0 kk
    rw [F_X2_addRow_43] at z0
    cases z0
  | succ n ih =>
    intro v2 μ μx z0 kk
    rw [F_X2_addRow_43] at z0
    refine gq_iload_n C dX2_addRow_43 rfl 2 rfl ?_
    refine gq_aload_n C dX2_addRow_44 rfl 0 rfl ?_
    refine gq_get2 C (tb_n0 k_t hN) k_t 2 (by decide) wk_2_138 rfl dX2_addRow_45 ?_
    refine gq_aload_n C dX2_addRow_48 rfl 0 rfl ?_
    refine gq_get2 C (tb_n0 k_t hN) k_t 0 (by decide) wk_2_136 rfl dX2_addRow_49 ?_
    refine gq_imul C dX2_addRow_52 ?_
    rcases ite_ex z0 with ⟨c5, z6⟩ | ⟨c5, z6⟩
    · refine gq_icmp_ge_t (tgt := 69) C dX2_addRow_53 (by decide) c5 ?_
      cases z6
      exact gq_widen (Nat.le_of_ble_eq_true rfl) (Nat.le_of_ble_eq_true rfl) (gq_sub [1] rfl kk)
    · refine gq_icmp_ge_f (tgt := 69) C dX2_addRow_53 (by decide) c5 ?_
      refine gq_aload_n C dX2_addRow_56 rfl 0 rfl ?_
      refine gq_get2 C (tb_n0 k_t hN) k_t 1 (by decide) wk_2_137 rfl dX2_addRow_57 ?_
      refine gq_iload_n C dX2_addRow_60 rfl 2 rfl ?_
      refine gq_iconst (v := 0) C dX2_addRow_61 (by decide) ?_
      obtain ⟨m7, em7, z8⟩ := bind_ex z6
      refine gq_iastore C (tb_n1 k_t hN) (tb_kd k_t) em7 dX2_addRow_62 ?_
      refine gq_iinc (v := (v2 + 1)) (lv' := [(2, .int (v2 + 1)), (0, .ref (eB E + t)), (1, .int u1)]) (q := 2) C dX2_addRow_63 rfl rfl (by decide) rfl ?_
      refine gq_goto (tgt := 43) C dX2_addRow_66 (by decide) ?_
      refine gq_widen (k' := 0) (n' := 0) (Nat.le_of_ble_eq_true rfl) (Nat.le_of_ble_eq_true rfl) (gq_sub [1, 2, 0] rfl ?_)
      exact ih _ _ _ z8 kk
set_option maxHeartbeats 4000000 in
set_option maxRecDepth 100000 in
theorem c_X2_addRow {l : Launch} {E : Ev} (hN : 295 ≤ eN E) {t : Nat} (k_t : kd t = 2) {μ : Mm} {r : Int32} {μ' : Mm} (z0 : F_X2_addRow t μ = some (r, μ')) : Ct l E yX2_addRow (Cond.code yX2_addRow cX2_addRow 3 (some .int) :: GW) rm_X2_addRow [.ref (eB E + t)] μ (some (.int r)) μ' := by
  refine ct_of (by decide) (Nat.le_of_ble_eq_true rfl) (fun p e s m args below meth c C hr => ?_)
  have C : Cq E p s m args meth c cX2_addRow 3 RX2 := C
  refine gq_lv (lv' := [(0, .ref (eB E + t))]) rfl ?_
  unfold F_X2_addRow at z0
  refine gq_aload_n C dX2_addRow_0 rfl 0 rfl ?_
  refine gq_get2 C (tb_n0 k_t hN) k_t 2 (by decide) wk_2_138 rfl dX2_addRow_1 ?_
  refine gq_iconst (v := 1) C dX2_addRow_4 (by decide) ?_
  refine gq_iadd C dX2_addRow_5 ?_
  refine gq_aload_n C dX2_addRow_6 rfl 0 rfl ?_
  refine gq_get2 C (tb_n0 k_t hN) k_t 0 (by decide) wk_2_136 rfl dX2_addRow_7 ?_
  refine gq_imul C dX2_addRow_10 ?_
  refine gq_aload_n C dX2_addRow_11 rfl 0 rfl ?_
  refine gq_get2 C (tb_n0 k_t hN) k_t 1 (by decide) wk_2_137 rfl dX2_addRow_12 ?_
  refine gq_alen C (tb_n1 k_t hN) (tb_kd k_t) dX2_addRow_15 ?_
  rcases ite_ex z0 with ⟨c1, z2⟩ | ⟨c1, z2⟩
  · refine gq_icmp_le_t (tgt := 21) C dX2_addRow_16 (by decide) c1 ?_
    refine gq_aload_n C dX2_addRow_21 rfl 0 rfl ?_
    refine gq_get2 C (tb_n0 k_t hN) k_t 2 (by decide) wk_2_138 rfl dX2_addRow_22 ?_
    refine gq_istore_n (lv' := [(1, .int (μ.1 t 2)), (0, .ref (eB E + t))]) C dX2_addRow_25 rfl (by decide) rfl ?_
    refine gq_aload_n C dX2_addRow_26 rfl 1 rfl ?_
    refine gq_dupr C dX2_addRow_27 ?_
    refine gq_get2 C (tb_n0 k_t hN) k_t 2 (by decide) wk_2_138 rfl dX2_addRow_28 ?_
    refine gq_iconst (v := 1) C dX2_addRow_31 (by decide) ?_
    refine gq_iadd C dX2_addRow_32 ?_
    obtain ⟨m3, em3, z4⟩ := bind_ex z2
    refine gq_put2_2 C (tb_n0 k_t hN) k_t wk_2_138 (Option.some.inj em3).symm dX2_addRow_33 ?_
    refine gq_iload_n C dX2_addRow_36 rfl 0 rfl ?_
    refine gq_aload_n C dX2_addRow_37 rfl 1 rfl ?_
    refine gq_get2 C (tb_n0 k_t hN) k_t 0 (by decide) wk_2_136 rfl dX2_addRow_38 ?_
    refine gq_imul C dX2_addRow_41 ?_
    refine gq_istore_n (lv' := [(2, .int ((μ.1 t 2) * (m3.1 t 0))), (1, .int (μ.1 t 2)), (0, .ref (eB E + t))]) C dX2_addRow_42 rfl (by decide) rfl ?_
    obtain ⟨m11, eo10, z9⟩ := bind_ex z4
    refine gq_widen (k' := 0) (n' := 0) (Nat.le_of_ble_eq_true rfl) (Nat.le_of_ble_eq_true rfl) (gq_sub [2, 1, 0] rfl ?_)
    refine l_X2_addRow_43 hN C k_t qFuel _ _ _ eo10 ?_
    refine gq_iload_n C dX2_addRow_69 rfl 0 rfl ?_
    cases z9
    exact gq_iret C hr dX2_addRow_70 (Nat.le_of_ble_eq_true rfl) (Nat.le_of_ble_eq_true rfl)
  · refine gq_icmp_le_f (tgt := 21) C dX2_addRow_16 (by decide) c1 ?_
    refine gq_iconst (v := -1) C dX2_addRow_19 (by decide) ?_
    cases z2
    exact gq_iret C hr dX2_addRow_20 (Nat.le_of_ble_eq_true rfl) (Nat.le_of_ble_eq_true rfl)
abbrev rm_X2_put : Room := { frames := 0, cells := 0, slots := 0, locals := 0 }
def F_X2_put (t : Nat) (p1 : Int32) (p2 : Int32) (p3 : Int32) (μ : Mm) : Option Mm :=
  if p1 < 0 then
  (some μ)
  else
  (if (μ.1 t 2) ≤ p1 then
  (some μ)
  else
  (if p2 < 0 then
  (some μ)
  else
  (if (μ.1 t 0) ≤ p2 then
  (some μ)
  else
  ((sI μ (t + 1) ((p1 * (μ.1 t 0)) + p2) p3).bind fun m9 =>
  some m9))))
set_option maxHeartbeats 4000000 in
set_option maxRecDepth 100000 in
theorem c_X2_put {l : Launch} {E : Ev} (hN : 295 ≤ eN E) {t : Nat} (k_t : kd t = 2) {p1 : Int32} {p2 : Int32} {p3 : Int32} {μ : Mm} {μ' : Mm} (z0 : F_X2_put t p1 p2 p3 μ = some μ') : Ct l E yX2_put (Cond.code yX2_put cX2_put 4 none :: GW) rm_X2_put [.ref (eB E + t), .int p1, .int p2, .int p3] μ none μ' := by
  refine ct_of (by decide) (Nat.le_of_ble_eq_true rfl) (fun p e s m args below meth c C hr => ?_)
  have C : Cq E p s m args meth c cX2_put 4 RX2 := C
  refine gq_lv (lv' := [(0, .ref (eB E + t)), (1, .int p1), (2, .int p2), (3, .int p3)]) rfl ?_
  unfold F_X2_put at z0
  refine gq_iload_n C dX2_put_0 rfl 1 rfl ?_
  rcases ite_ex z0 with ⟨c1, z2⟩ | ⟨c1, z2⟩
  · refine gq_if_lt_t (tgt := 38) C dX2_put_1 (by decide) c1 ?_
    cases z2
    exact gq_vret C hr dX2_put_38 (Nat.le_of_ble_eq_true rfl) (Nat.le_of_ble_eq_true rfl)
  · refine gq_if_lt_f (tgt := 38) C dX2_put_1 (by decide) c1 ?_
    refine gq_iload_n C dX2_put_4 rfl 1 rfl ?_
    refine gq_aload_n C dX2_put_5 rfl 0 rfl ?_
    refine gq_get2 C (tb_n0 k_t hN) k_t 2 (by decide) wk_2_138 rfl dX2_put_6 ?_
    rcases ite_ex z2 with ⟨c3, z4⟩ | ⟨c3, z4⟩
    · refine gq_icmp_ge_t (tgt := 38) C dX2_put_9 (by decide) c3 ?_
      cases z4
      exact gq_vret C hr dX2_put_38 (Nat.le_of_ble_eq_true rfl) (Nat.le_of_ble_eq_true rfl)
    · refine gq_icmp_ge_f (tgt := 38) C dX2_put_9 (by decide) c3 ?_
      refine gq_iload_n C dX2_put_12 rfl 2 rfl ?_
      rcases ite_ex z4 with ⟨c5, z6⟩ | ⟨c5, z6⟩
      · refine gq_if_lt_t (tgt := 38) C dX2_put_13 (by decide) c5 ?_
        cases z6
        exact gq_vret C hr dX2_put_38 (Nat.le_of_ble_eq_true rfl) (Nat.le_of_ble_eq_true rfl)
      · refine gq_if_lt_f (tgt := 38) C dX2_put_13 (by decide) c5 ?_
        refine gq_iload_n C dX2_put_16 rfl 2 rfl ?_
        refine gq_aload_n C dX2_put_17 rfl 0 rfl ?_
        refine gq_get2 C (tb_n0 k_t hN) k_t 0 (by decide) wk_2_136 rfl dX2_put_18 ?_
        rcases ite_ex z6 with ⟨c7, z8⟩ | ⟨c7, z8⟩
        · refine gq_icmp_ge_t (tgt := 38) C dX2_put_21 (by decide) c7 ?_
          cases z8
          exact gq_vret C hr dX2_put_38 (Nat.le_of_ble_eq_true rfl) (Nat.le_of_ble_eq_true rfl)
        · refine gq_icmp_ge_f (tgt := 38) C dX2_put_21 (by decide) c7 ?_
          refine gq_aload_n C dX2_put_24 rfl 0 rfl ?_
          refine gq_get2 C (tb_n0 k_t hN) k_t 1 (by decide) wk_2_137 rfl dX2_put_25 ?_
          refine gq_iload_n C dX2_put_28 rfl 1 rfl ?_
          refine gq_aload_n C dX2_put_29 rfl 0 rfl ?_
          refine gq_get2 C (tb_n0 k_t hN) k_t 0 (by decide) wk_2_136 rfl dX2_put_30 ?_
          refine gq_imul C dX2_put_33 ?_
          refine gq_iload_n C dX2_put_34 rfl 2 rfl ?_
          refine gq_iadd C dX2_put_35 ?_
          refine gq_iload_n C dX2_put_36 rfl 3 rfl ?_
          obtain ⟨m9, em9, z10⟩ := bind_ex z8
          refine gq_iastore C (tb_n1 k_t hN) (tb_kd k_t) em9 dX2_put_37 ?_
          cases z10
          exact gq_vret C hr dX2_put_38 (Nat.le_of_ble_eq_true rfl) (Nat.le_of_ble_eq_true rfl)
abbrev rm_X2_get : Room := { frames := 0, cells := 0, slots := 0, locals := 0 }
def F_X2_get (t : Nat) (p1 : Int32) (p2 : Int32) (μ : Mm) : Option Int32 :=
  if p1 < 0 then
  (some (0 : Int32))
  else
  (if (μ.1 t 2) ≤ p1 then
  (some (0 : Int32))
  else
  (if p2 < 0 then
  (some (0 : Int32))
  else
  (if p2 < (μ.1 t 0) then
  ((aI μ (t + 1) ((p1 * (μ.1 t 0)) + p2)).bind fun x9 =>
  some x9)
  else
  (some (0 : Int32)))))
set_option maxHeartbeats 4000000 in
set_option maxRecDepth 100000 in
theorem c_X2_get {l : Launch} {E : Ev} (hN : 295 ≤ eN E) {t : Nat} (k_t : kd t = 2) {p1 : Int32} {p2 : Int32} {μ : Mm} {r : Int32} (z0 : F_X2_get t p1 p2 μ = some r) : Ct l E yX2_get (Cond.code yX2_get cX2_get 3 (some .int) :: GW) rm_X2_get [.ref (eB E + t), .int p1, .int p2] μ (some (.int r)) μ := by
  refine ct_of (by decide) (Nat.le_of_ble_eq_true rfl) (fun p e s m args below meth c C hr => ?_)
  have C : Cq E p s m args meth c cX2_get 3 RX2 := C
  refine gq_lv (lv' := [(0, .ref (eB E + t)), (1, .int p1), (2, .int p2)]) rfl ?_
  unfold F_X2_get at z0
  refine gq_iload_n C dX2_get_0 rfl 1 rfl ?_
  rcases ite_ex z0 with ⟨c1, z2⟩ | ⟨c1, z2⟩
  · refine gq_if_lt_t (tgt := 24) C dX2_get_1 (by decide) c1 ?_
    refine gq_iconst (v := 0) C dX2_get_24 (by decide) ?_
    cases z2
    exact gq_iret C hr dX2_get_25 (Nat.le_of_ble_eq_true rfl) (Nat.le_of_ble_eq_true rfl)
  · refine gq_if_lt_f (tgt := 24) C dX2_get_1 (by decide) c1 ?_
    refine gq_iload_n C dX2_get_4 rfl 1 rfl ?_
    refine gq_aload_n C dX2_get_5 rfl 0 rfl ?_
    refine gq_get2 C (tb_n0 k_t hN) k_t 2 (by decide) wk_2_138 rfl dX2_get_6 ?_
    rcases ite_ex z2 with ⟨c3, z4⟩ | ⟨c3, z4⟩
    · refine gq_icmp_ge_t (tgt := 24) C dX2_get_9 (by decide) c3 ?_
      refine gq_iconst (v := 0) C dX2_get_24 (by decide) ?_
      cases z4
      exact gq_iret C hr dX2_get_25 (Nat.le_of_ble_eq_true rfl) (Nat.le_of_ble_eq_true rfl)
    · refine gq_icmp_ge_f (tgt := 24) C dX2_get_9 (by decide) c3 ?_
      refine gq_iload_n C dX2_get_12 rfl 2 rfl ?_
      rcases ite_ex z4 with ⟨c5, z6⟩ | ⟨c5, z6⟩
      · refine gq_if_lt_t (tgt := 24) C dX2_get_13 (by decide) c5 ?_
        refine gq_iconst (v := 0) C dX2_get_24 (by decide) ?_
        cases z6
        exact gq_iret C hr dX2_get_25 (Nat.le_of_ble_eq_true rfl) (Nat.le_of_ble_eq_true rfl)
      · refine gq_if_lt_f (tgt := 24) C dX2_get_13 (by decide) c5 ?_
        refine gq_iload_n C dX2_get_16 rfl 2 rfl ?_
        refine gq_aload_n C dX2_get_17 rfl 0 rfl ?_
        refine gq_get2 C (tb_n0 k_t hN) k_t 0 (by decide) wk_2_136 rfl dX2_get_18 ?_
        rcases ite_ex z6 with ⟨c7, z8⟩ | ⟨c7, z8⟩
        · refine gq_icmp_lt_t (tgt := 26) C dX2_get_21 (by decide) c7 ?_
          refine gq_aload_n C dX2_get_26 rfl 0 rfl ?_
          refine gq_get2 C (tb_n0 k_t hN) k_t 1 (by decide) wk_2_137 rfl dX2_get_27 ?_
          refine gq_iload_n C dX2_get_30 rfl 1 rfl ?_
          refine gq_aload_n C dX2_get_31 rfl 0 rfl ?_
          refine gq_get2 C (tb_n0 k_t hN) k_t 0 (by decide) wk_2_136 rfl dX2_get_32 ?_
          refine gq_imul C dX2_get_35 ?_
          refine gq_iload_n C dX2_get_36 rfl 2 rfl ?_
          refine gq_iadd C dX2_get_37 ?_
          obtain ⟨x9, ex9, z10⟩ := bind_ex z8
          refine gq_ialoadI C (tb_n1 k_t hN) (tb_kd k_t) ex9 dX2_get_38 ?_
          cases z10
          exact gq_iret C hr dX2_get_39 (Nat.le_of_ble_eq_true rfl) (Nat.le_of_ble_eq_true rfl)
        · refine gq_icmp_lt_f (tgt := 26) C dX2_get_21 (by decide) c7 ?_
          refine gq_iconst (v := 0) C dX2_get_24 (by decide) ?_
          cases z8
          exact gq_iret C hr dX2_get_25 (Nat.le_of_ble_eq_true rfl) (Nat.le_of_ble_eq_true rfl)
abbrev rm_X2_copyFrom : Room := { frames := 1, cells := 0, slots := 0, locals := 68 }
def F_X2_copyFrom (t : Nat) (q1 : Nat) (μ : Mm) : Option Mm :=
  if (Int32.ofNat (ln (q1 + 1))) = (Int32.ofNat (ln (t + 1))) then
  (if (μ.1 q1 0) = (μ.1 t 0) then
  ((yI μ (q1 + 1) (0 : Int32) (t + 1) (0 : Int32) ((μ.1 q1 2) * (μ.1 t 0))).bind fun m5 =>
  (some (uI m5 t 2 (m5.1 q1 2))).bind fun m7 =>
  some m7)
  else
  (some μ))
  else
  (some μ)
set_option maxHeartbeats 4000000 in
set_option maxRecDepth 100000 in
theorem c_X2_copyFrom {l : Launch} {E : Ev} (hN : 295 ≤ eN E) {t : Nat} (k_t : kd t = 2) {q1 : Nat} (k_q1 : kd q1 = 2) {μ : Mm} {μ' : Mm} (z0 : F_X2_copyFrom t q1 μ = some μ') : Ct l E yX2_copyFrom (Cond.code yX2_copyFrom cX2_copyFrom 2 none :: GW) rm_X2_copyFrom [.ref (eB E + t), .ref (eB E + q1)] μ none μ' := by
  refine ct_of (by decide) (Nat.le_of_ble_eq_true rfl) (fun p e s m args below meth c C hr => ?_)
  have C : Cq E p s m args meth c cX2_copyFrom 2 RX2 := C
  refine gq_lv (lv' := [(0, .ref (eB E + t)), (1, .ref (eB E + q1))]) rfl ?_
  unfold F_X2_copyFrom at z0
  refine gq_aload_n C dX2_copyFrom_0 rfl 1 rfl ?_
  refine gq_get2 C (tb_n0 k_q1 hN) k_q1 1 (by decide) wk_2_137 rfl dX2_copyFrom_1 ?_
  refine gq_alen C (tb_n1 k_q1 hN) (tb_kd k_q1) dX2_copyFrom_4 ?_
  refine gq_aload_n C dX2_copyFrom_5 rfl 0 rfl ?_
  refine gq_get2 C (tb_n0 k_t hN) k_t 1 (by decide) wk_2_137 rfl dX2_copyFrom_6 ?_
  refine gq_alen C (tb_n1 k_t hN) (tb_kd k_t) dX2_copyFrom_9 ?_
  rcases ite_ex z0 with ⟨c1, z2⟩ | ⟨c1, z2⟩
  · refine gq_icmp_ne_f (tgt := 24) C dX2_copyFrom_10 (by decide) c1 ?_
    refine gq_aload_n C dX2_copyFrom_13 rfl 1 rfl ?_
    refine gq_get2 C (tb_n0 k_q1 hN) k_q1 0 (by decide) wk_2_136 rfl dX2_copyFrom_14 ?_
    refine gq_aload_n C dX2_copyFrom_17 rfl 0 rfl ?_
    refine gq_get2 C (tb_n0 k_t hN) k_t 0 (by decide) wk_2_136 rfl dX2_copyFrom_18 ?_
    rcases ite_ex z2 with ⟨c3, z4⟩ | ⟨c3, z4⟩
    · refine gq_icmp_eq_t (tgt := 25) C dX2_copyFrom_21 (by decide) c3 ?_
      refine gq_aload_n C dX2_copyFrom_25 rfl 1 rfl ?_
      refine gq_get2 C (tb_n0 k_q1 hN) k_q1 1 (by decide) wk_2_137 rfl dX2_copyFrom_26 ?_
      refine gq_iconst (v := 0) C dX2_copyFrom_29 (by decide) ?_
      refine gq_aload_n C dX2_copyFrom_30 rfl 0 rfl ?_
      refine gq_get2 C (tb_n0 k_t hN) k_t 1 (by decide) wk_2_137 rfl dX2_copyFrom_31 ?_
      refine gq_iconst (v := 0) C dX2_copyFrom_34 (by decide) ?_
      refine gq_aload_n C dX2_copyFrom_35 rfl 1 rfl ?_
      refine gq_get2 C (tb_n0 k_q1 hN) k_q1 2 (by decide) wk_2_138 rfl dX2_copyFrom_36 ?_
      refine gq_aload_n C dX2_copyFrom_39 rfl 0 rfl ?_
      refine gq_get2 C (tb_n0 k_t hN) k_t 0 (by decide) wk_2_136 rfl dX2_copyFrom_40 ?_
      refine gq_imul C dX2_copyFrom_43 ?_
      obtain ⟨m5, em5, z6⟩ := bind_ex z4
      refine gq_cpyI C (tb_n1 k_q1 hN) (tb_n1 k_t hN) (tb_kd k_q1) (tb_kd k_t) em5 wk_1_229 wk_1_231 wk_1_230 wk_1_14 (Nat.le_of_ble_eq_true rfl) (Nat.le_of_ble_eq_true rfl) dX2_copyFrom_44 ?_
      refine gq_aload_n C dX2_copyFrom_47 rfl 0 rfl ?_
      refine gq_aload_n C dX2_copyFrom_48 rfl 1 rfl ?_
      refine gq_get2 C (tb_n0 k_q1 hN) k_q1 2 (by decide) wk_2_138 rfl dX2_copyFrom_49 ?_
      obtain ⟨m7, em7, z8⟩ := bind_ex z6
      refine gq_put2_2 C (tb_n0 k_t hN) k_t wk_2_138 (Option.some.inj em7).symm dX2_copyFrom_52 ?_
      cases z8
      exact gq_vret C hr dX2_copyFrom_55 (Nat.le_of_ble_eq_true rfl) (Nat.le_of_ble_eq_true rfl)
    · refine gq_icmp_eq_f (tgt := 25) C dX2_copyFrom_21 (by decide) c3 ?_
      cases z4
      exact gq_vret C hr dX2_copyFrom_24 (Nat.le_of_ble_eq_true rfl) (Nat.le_of_ble_eq_true rfl)
  · refine gq_icmp_ne_t (tgt := 24) C dX2_copyFrom_10 (by decide) c1 ?_
    cases z2
    exact gq_vret C hr dX2_copyFrom_24 (Nat.le_of_ble_eq_true rfl) (Nat.le_of_ble_eq_true rfl)
abbrev rm_X2_has : Room := { frames := 0, cells := 0, slots := 0, locals := 0 }
def F_X2_has (t : Nat) (p1 : Int32) (μ : Mm) : Option Int32 :=
  if p1 < 0 then
  (some (0 : Int32))
  else
  (if (μ.1 t 2) ≤ p1 then
  (some (0 : Int32))
  else
  (some (1 : Int32)))
set_option maxHeartbeats 4000000 in
set_option maxRecDepth 100000 in
theorem c_X2_has {l : Launch} {E : Ev} (hN : 295 ≤ eN E) {t : Nat} (k_t : kd t = 2) {p1 : Int32} {μ : Mm} {r : Int32} (z0 : F_X2_has t p1 μ = some r) : Ct l E yX2_has (Cond.code yX2_has cX2_has 2 (some .boolean) :: GW) rm_X2_has [.ref (eB E + t), .int p1] μ (some (.int r)) μ := by
  refine ct_of (by decide) (Nat.le_of_ble_eq_true rfl) (fun p e s m args below meth c C hr => ?_)
  have C : Cq E p s m args meth c cX2_has 2 RX2 := C
  refine gq_lv (lv' := [(0, .ref (eB E + t)), (1, .int p1)]) rfl ?_
  unfold F_X2_has at z0
  refine gq_iload_n C dX2_has_0 rfl 1 rfl ?_
  rcases ite_ex z0 with ⟨c1, z2⟩ | ⟨c1, z2⟩
  · refine gq_if_lt_t (tgt := 16) C dX2_has_1 (by decide) c1 ?_
    refine gq_iconst (v := 0) C dX2_has_16 (by decide) ?_
    cases z2
    exact gq_zret C hr (by decide) dX2_has_17 (Nat.le_of_ble_eq_true rfl) (Nat.le_of_ble_eq_true rfl)
  · refine gq_if_lt_f (tgt := 16) C dX2_has_1 (by decide) c1 ?_
    refine gq_iload_n C dX2_has_4 rfl 1 rfl ?_
    refine gq_aload_n C dX2_has_5 rfl 0 rfl ?_
    refine gq_get2 C (tb_n0 k_t hN) k_t 2 (by decide) wk_2_138 rfl dX2_has_6 ?_
    rcases ite_ex z2 with ⟨c3, z4⟩ | ⟨c3, z4⟩
    · refine gq_icmp_ge_t (tgt := 16) C dX2_has_9 (by decide) c3 ?_
      refine gq_iconst (v := 0) C dX2_has_16 (by decide) ?_
      cases z4
      exact gq_zret C hr (by decide) dX2_has_17 (Nat.le_of_ble_eq_true rfl) (Nat.le_of_ble_eq_true rfl)
    · refine gq_icmp_ge_f (tgt := 16) C dX2_has_9 (by decide) c3 ?_
      refine gq_iconst (v := 1) C dX2_has_12 (by decide) ?_
      refine gq_goto (tgt := 17) C dX2_has_13 (by decide) ?_
      cases z4
      exact gq_zret C hr (by decide) dX2_has_17 (Nat.le_of_ble_eq_true rfl) (Nat.le_of_ble_eq_true rfl)
abbrev rm_X2_increase : Room := { frames := 0, cells := 0, slots := 0, locals := 0 }
def F_X2_increase (t : Nat) (p1 : Int32) (p2 : Int32) (p3 : Int32) (μ : Mm) : Option Mm :=
  if p1 < 0 then
  (some μ)
  else
  (if (μ.1 t 2) ≤ p1 then
  (some μ)
  else
  (if p2 < 0 then
  (some μ)
  else
  (if (μ.1 t 0) ≤ p2 then
  (some μ)
  else
  ((aI μ (t + 1) ((p1 * (μ.1 t 0)) + p2)).bind fun x9 =>
  (sI μ (t + 1) ((p1 * (μ.1 t 0)) + p2) (x9 + p3)).bind fun m11 =>
  some m11))))
set_option maxHeartbeats 4000000 in
set_option maxRecDepth 100000 in
theorem c_X2_increase {l : Launch} {E : Ev} (hN : 295 ≤ eN E) {t : Nat} (k_t : kd t = 2) {p1 : Int32} {p2 : Int32} {p3 : Int32} {μ : Mm} {μ' : Mm} (z0 : F_X2_increase t p1 p2 p3 μ = some μ') : Ct l E yX2_increase (Cond.code yX2_increase cX2_increase 4 none :: GW) rm_X2_increase [.ref (eB E + t), .int p1, .int p2, .int p3] μ none μ' := by
  refine ct_of (by decide) (Nat.le_of_ble_eq_true rfl) (fun p e s m args below meth c C hr => ?_)
  have C : Cq E p s m args meth c cX2_increase 4 RX2 := C
  refine gq_lv (lv' := [(0, .ref (eB E + t)), (1, .int p1), (2, .int p2), (3, .int p3)]) rfl ?_
  unfold F_X2_increase at z0
  refine gq_iload_n C dX2_increase_0 rfl 1 rfl ?_
  rcases ite_ex z0 with ⟨c1, z2⟩ | ⟨c1, z2⟩
  · refine gq_if_lt_t (tgt := 41) C dX2_increase_1 (by decide) c1 ?_
    cases z2
    exact gq_vret C hr dX2_increase_41 (Nat.le_of_ble_eq_true rfl) (Nat.le_of_ble_eq_true rfl)
  · refine gq_if_lt_f (tgt := 41) C dX2_increase_1 (by decide) c1 ?_
    refine gq_iload_n C dX2_increase_4 rfl 1 rfl ?_
    refine gq_aload_n C dX2_increase_5 rfl 0 rfl ?_
    refine gq_get2 C (tb_n0 k_t hN) k_t 2 (by decide) wk_2_138 rfl dX2_increase_6 ?_
    rcases ite_ex z2 with ⟨c3, z4⟩ | ⟨c3, z4⟩
    · refine gq_icmp_ge_t (tgt := 41) C dX2_increase_9 (by decide) c3 ?_
      cases z4
      exact gq_vret C hr dX2_increase_41 (Nat.le_of_ble_eq_true rfl) (Nat.le_of_ble_eq_true rfl)
    · refine gq_icmp_ge_f (tgt := 41) C dX2_increase_9 (by decide) c3 ?_
      refine gq_iload_n C dX2_increase_12 rfl 2 rfl ?_
      rcases ite_ex z4 with ⟨c5, z6⟩ | ⟨c5, z6⟩
      · refine gq_if_lt_t (tgt := 41) C dX2_increase_13 (by decide) c5 ?_
        cases z6
        exact gq_vret C hr dX2_increase_41 (Nat.le_of_ble_eq_true rfl) (Nat.le_of_ble_eq_true rfl)
      · refine gq_if_lt_f (tgt := 41) C dX2_increase_13 (by decide) c5 ?_
        refine gq_iload_n C dX2_increase_16 rfl 2 rfl ?_
        refine gq_aload_n C dX2_increase_17 rfl 0 rfl ?_
        refine gq_get2 C (tb_n0 k_t hN) k_t 0 (by decide) wk_2_136 rfl dX2_increase_18 ?_
        rcases ite_ex z6 with ⟨c7, z8⟩ | ⟨c7, z8⟩
        · refine gq_icmp_ge_t (tgt := 41) C dX2_increase_21 (by decide) c7 ?_
          cases z8
          exact gq_vret C hr dX2_increase_41 (Nat.le_of_ble_eq_true rfl) (Nat.le_of_ble_eq_true rfl)
        · refine gq_icmp_ge_f (tgt := 41) C dX2_increase_21 (by decide) c7 ?_
          refine gq_aload_n C dX2_increase_24 rfl 0 rfl ?_
          refine gq_get2 C (tb_n0 k_t hN) k_t 1 (by decide) wk_2_137 rfl dX2_increase_25 ?_
          refine gq_iload_n C dX2_increase_28 rfl 1 rfl ?_
          refine gq_aload_n C dX2_increase_29 rfl 0 rfl ?_
          refine gq_get2 C (tb_n0 k_t hN) k_t 0 (by decide) wk_2_136 rfl dX2_increase_30 ?_
          refine gq_imul C dX2_increase_33 ?_
          refine gq_iload_n C dX2_increase_34 rfl 2 rfl ?_
          refine gq_iadd C dX2_increase_35 ?_
          refine gq_dup2 C dX2_increase_36 ?_
          obtain ⟨x9, ex9, z10⟩ := bind_ex z8
          refine gq_ialoadI C (tb_n1 k_t hN) (tb_kd k_t) ex9 dX2_increase_37 ?_
          refine gq_iload_n C dX2_increase_38 rfl 3 rfl ?_
          refine gq_iadd C dX2_increase_39 ?_
          obtain ⟨m11, em11, z12⟩ := bind_ex z10
          refine gq_iastore C (tb_n1 k_t hN) (tb_kd k_t) em11 dX2_increase_40 ?_
          cases z12
          exact gq_vret C hr dX2_increase_41 (Nat.le_of_ble_eq_true rfl) (Nat.le_of_ble_eq_true rfl)
abbrev rm_X2_increaseFrom : Room := { frames := 1, cells := 0, slots := 0, locals := 21 }
def F_X2_increaseFrom_20 (t : Nat) (u2 : Int32) (u3 : Int32) : Nat → Int32 → Mm → Option Mm
  | 0, _, _ => none
  | n + 1, v4, μ =>
  if (μ.1 t 2) ≤ v4 then
  (some μ)
  else
  ((aI μ (t + 1) ((v4 * (μ.1 t 0)) + u2)).bind fun x7 =>
  (sI μ (t + 1) ((v4 * (μ.1 t 0)) + u2) (x7 + u3)).bind fun m9 =>
  F_X2_increaseFrom_20 t u2 u3 n (v4 + 1) m9)
def F_X2_increaseFrom (t : Nat) (p1 : Int32) (p2 : Int32) (p3 : Int32) (μ : Mm) : Option Mm :=
  if p2 < 0 then
  (some μ)
  else
  (if p2 < (μ.1 t 0) then
  ((F_X2_increaseFrom_20 t p2 p3 qFuel (if p1 < (0 : Int32) then (0 : Int32) else p1) μ).bind fun o12 =>
  some o12)
  else
  (some μ))
set_option maxHeartbeats 4000000 in
set_option maxRecDepth 100000 in
theorem l_X2_increaseFrom_20 {l : Launch} {E : Ev} (hN : 295 ≤ eN E) {p : Program} {e : Env} {s : State} {m : MethodId} {args : Array Value} {below : List Frame} {meth : Method} {c : Code} (C : Cq E p s m args meth c cX2_increaseFrom 5 RX2) {Q : State → Prop} {t : Nat} (k_t : kd t = 2) {u2 : Int32} {u3 : Int32} : ∀ (n : Nat) (v4 : Int32) (μ : Mm) (μx : Mm), F_X2_increaseFrom_20 t u2 u3 n v4 μ = some μx → Gq E p l e rm_X2_increaseFrom s m args below meth c 0 0 5 Q 53 [] [] μx → Gq E p l e rm_X2_increaseFrom s m args below meth c 0 0 5 Q 20 [(0, .ref (eB E + t)), (2, .int u2), (3, .int u3), (4, .int v4)] [] μ := by
  intro n
  induction n with
  | zero =>
    intro v4 μ μx z0 kk
    rw [F_X2_increaseFrom_20] at z0
    cases z0
  | succ n ih =>
    intro v4 μ μx z0 kk
    rw [F_X2_increaseFrom_20] at z0
    refine gq_iload C dX2_increaseFrom_20 3 rfl ?_
    refine gq_aload_n C dX2_increaseFrom_22 rfl 0 rfl ?_
    refine gq_get2 C (tb_n0 k_t hN) k_t 2 (by decide) wk_2_138 rfl dX2_increaseFrom_23 ?_
    rcases ite_ex z0 with ⟨c5, z6⟩ | ⟨c5, z6⟩
    · refine gq_icmp_ge_t (tgt := 53) C dX2_increaseFrom_26 (by decide) c5 ?_
      cases z6
      exact gq_widen (Nat.le_of_ble_eq_true rfl) (Nat.le_of_ble_eq_true rfl) (gq_sub [] rfl kk)
    · refine gq_icmp_ge_f (tgt := 53) C dX2_increaseFrom_26 (by decide) c5 ?_
      refine gq_aload_n C dX2_increaseFrom_29 rfl 0 rfl ?_
      refine gq_get2 C (tb_n0 k_t hN) k_t 1 (by decide) wk_2_137 rfl dX2_increaseFrom_30 ?_
      refine gq_iload C dX2_increaseFrom_33 3 rfl ?_
      refine gq_aload_n C dX2_increaseFrom_35 rfl 0 rfl ?_
      refine gq_get2 C (tb_n0 k_t hN) k_t 0 (by decide) wk_2_136 rfl dX2_increaseFrom_36 ?_
      refine gq_imul C dX2_increaseFrom_39 ?_
      refine gq_iload_n C dX2_increaseFrom_40 rfl 1 rfl ?_
      refine gq_iadd C dX2_increaseFrom_41 ?_
      refine gq_dup2 C dX2_increaseFrom_42 ?_
      obtain ⟨x7, ex7, z8⟩ := bind_ex z6
      refine gq_ialoadI C (tb_n1 k_t hN) (tb_kd k_t) ex7 dX2_increaseFrom_43 ?_
      refine gq_iload_n C dX2_increaseFrom_44 rfl 2 rfl ?_
      refine gq_iadd C dX2_increaseFrom_45 ?_
      obtain ⟨m9, em9, z10⟩ := bind_ex z8
      refine gq_iastore C (tb_n1 k_t hN) (tb_kd k_t) em9 dX2_increaseFrom_46 ?_
      refine gq_iinc (v := (v4 + 1)) (lv' := [(4, .int (v4 + 1)), (0, .ref (eB E + t)), (2, .int u2), (3, .int u3)]) (q := 3) C dX2_increaseFrom_47 rfl rfl (by decide) rfl ?_
      refine gq_goto (tgt := 20) C dX2_increaseFrom_50 (by decide) ?_
      refine gq_widen (k' := 0) (n' := 0) (Nat.le_of_ble_eq_true rfl) (Nat.le_of_ble_eq_true rfl) (gq_sub [1, 2, 3, 0] rfl ?_)
      exact ih _ _ _ z10 kk
set_option maxHeartbeats 4000000 in
set_option maxRecDepth 100000 in
theorem c_X2_increaseFrom {l : Launch} {E : Ev} (hN : 295 ≤ eN E) {t : Nat} (k_t : kd t = 2) {p1 : Int32} {p2 : Int32} {p3 : Int32} {μ : Mm} {μ' : Mm} (z0 : F_X2_increaseFrom t p1 p2 p3 μ = some μ') : Ct l E yX2_increaseFrom (Cond.code yX2_increaseFrom cX2_increaseFrom 5 none :: GW) rm_X2_increaseFrom [.ref (eB E + t), .int p1, .int p2, .int p3] μ none μ' := by
  refine ct_of (by decide) (Nat.le_of_ble_eq_true rfl) (fun p e s m args below meth c C hr => ?_)
  have C : Cq E p s m args meth c cX2_increaseFrom 5 RX2 := C
  refine gq_lv (lv' := [(0, .ref (eB E + t)), (1, .int p1), (2, .int p2), (3, .int p3)]) rfl ?_
  unfold F_X2_increaseFrom at z0
  refine gq_iload_n C dX2_increaseFrom_0 rfl 2 rfl ?_
  rcases ite_ex z0 with ⟨c1, z2⟩ | ⟨c1, z2⟩
  · refine gq_if_lt_t (tgt := 12) C dX2_increaseFrom_1 (by decide) c1 ?_
    cases z2
    exact gq_vret C hr dX2_increaseFrom_12 (Nat.le_of_ble_eq_true rfl) (Nat.le_of_ble_eq_true rfl)
  · refine gq_if_lt_f (tgt := 12) C dX2_increaseFrom_1 (by decide) c1 ?_
    refine gq_iload_n C dX2_increaseFrom_4 rfl 2 rfl ?_
    refine gq_aload_n C dX2_increaseFrom_5 rfl 0 rfl ?_
    refine gq_get2 C (tb_n0 k_t hN) k_t 0 (by decide) wk_2_136 rfl dX2_increaseFrom_6 ?_
    rcases ite_ex z2 with ⟨c3, z4⟩ | ⟨c3, z4⟩
    · refine gq_icmp_lt_t (tgt := 13) C dX2_increaseFrom_9 (by decide) c3 ?_
      refine gq_iload_n C dX2_increaseFrom_13 rfl 1 rfl ?_
      refine gq_iconst (v := 0) C dX2_increaseFrom_14 (by decide) ?_
      refine gq_mmax C wk_2_65 wk_2_47 wk_1_12 wk_2_48 (Nat.le_of_ble_eq_true rfl) (Nat.le_of_ble_eq_true rfl) (Nat.le_of_ble_eq_true rfl) (Nat.le_of_ble_eq_true rfl) dX2_increaseFrom_15 ?_
      refine gq_istore (lv' := [(4, .int (if p1 < (0 : Int32) then (0 : Int32) else p1)), (0, .ref (eB E + t)), (1, .int p1), (2, .int p2), (3, .int p3)]) C dX2_increaseFrom_18 (by decide) rfl ?_
      obtain ⟨m13, eo12, z11⟩ := bind_ex z4
      refine gq_widen (k' := 0) (n' := 0) (Nat.le_of_ble_eq_true rfl) (Nat.le_of_ble_eq_true rfl) (gq_sub [1, 3, 4, 0] rfl ?_)
      refine l_X2_increaseFrom_20 hN C k_t qFuel _ _ _ eo12 ?_
      cases z11
      exact gq_vret C hr dX2_increaseFrom_53 (Nat.le_of_ble_eq_true rfl) (Nat.le_of_ble_eq_true rfl)
    · refine gq_icmp_lt_f (tgt := 13) C dX2_increaseFrom_9 (by decide) c3 ?_
      cases z4
      exact gq_vret C hr dX2_increaseFrom_12 (Nat.le_of_ble_eq_true rfl) (Nat.le_of_ble_eq_true rfl)
abbrev rm_X2_sumOf : Room := { frames := 1, cells := 0, slots := 0, locals := 22 }
def F_X2_sumOf_4 (t : Nat) (u1 : Int32) (μ : Mm) : Nat → Int32 → Int32 → Option Int32
  | 0, _, _ => none
  | n + 1, v2, v3 =>
  if (μ.1 t 2) ≤ v3 then
  (some v2)
  else
  ((F_X2_get t v3 u1 μ).bind fun o4 =>
  F_X2_sumOf_4 t u1 μ n (v2 + o4) (v3 + 1))
def F_X2_sumOf (t : Nat) (p1 : Int32) (μ : Mm) : Option Int32 :=
  (F_X2_sumOf_4 t p1 μ qFuel (0 : Int32) (0 : Int32)).bind fun o7 =>
  some o7
set_option maxHeartbeats 4000000 in
set_option maxRecDepth 100000 in
theorem l_X2_sumOf_4 {l : Launch} {E : Ev} (hN : 295 ≤ eN E) {p : Program} {e : Env} {s : State} {m : MethodId} {args : Array Value} {below : List Frame} {meth : Method} {c : Code} (C : Cq E p s m args meth c cX2_sumOf 4 RX2) {Q : State → Prop} {t : Nat} (k_t : kd t = 2) {u1 : Int32} {μ : Mm} : ∀ (n : Nat) (v2 : Int32) (v3 : Int32) (w2 : Int32), F_X2_sumOf_4 t u1 μ n v2 v3 = some w2 → Gq E p l e rm_X2_sumOf s m args below meth c 0 0 4 Q 27 [(2, .int w2)] [] μ → Gq E p l e rm_X2_sumOf s m args below meth c 0 0 4 Q 4 [(0, .ref (eB E + t)), (1, .int u1), (2, .int v2), (3, .int v3)] [] μ := by
  intro n
  induction n with
  | zero =>
    intro v2 v3 w2 z0 kk
    rw [F_X2_sumOf_4] at z0
    cases z0
  | succ n ih =>
    intro v2 v3 w2 z0 kk
    rw [F_X2_sumOf_4] at z0
    refine gq_iload_n C dX2_sumOf_4 rfl 3 rfl ?_
    refine gq_aload_n C dX2_sumOf_5 rfl 0 rfl ?_
    refine gq_get2 C (tb_n0 k_t hN) k_t 2 (by decide) wk_2_138 rfl dX2_sumOf_6 ?_
    rcases ite_ex z0 with ⟨c1, z2⟩ | ⟨c1, z2⟩
    · refine gq_icmp_ge_t (tgt := 27) C dX2_sumOf_9 (by decide) c1 ?_
      cases z2
      exact gq_widen (Nat.le_of_ble_eq_true rfl) (Nat.le_of_ble_eq_true rfl) (gq_sub [2] rfl kk)
    · refine gq_icmp_ge_f (tgt := 27) C dX2_sumOf_9 (by decide) c1 ?_
      refine gq_iload_n C dX2_sumOf_12 rfl 2 rfl ?_
      refine gq_aload_n C dX2_sumOf_13 rfl 0 rfl ?_
      refine gq_iload_n C dX2_sumOf_14 rfl 3 rfl ?_
      refine gq_iload_n C dX2_sumOf_15 rfl 1 rfl ?_
      obtain ⟨x5, eo4, z3⟩ := bind_ex z2
      refine gq_V (As := [.int v3, .int u1]) (rest := [.int v2]) C (c_X2_get hN k_t eo4) (tb_n0 k_t hN) k_t (by decide) rfl wk_2_97 wk_1_133 wk_1_134 wk_1_5 wk_1_135 hd_X2_get ⟨(Nat.le_of_ble_eq_true rfl), (Nat.le_of_ble_eq_true rfl)⟩ (Nat.le_of_ble_eq_true rfl) ⟨(Nat.le_of_ble_eq_true rfl), (Nat.le_of_ble_eq_true rfl)⟩ dX2_sumOf_16 rfl rfl ?_
      refine gq_iadd C dX2_sumOf_19 ?_
      refine gq_istore_n (lv' := [(2, .int (v2 + x5)), (0, .ref (eB E + t)), (1, .int u1), (3, .int v3)]) C dX2_sumOf_20 rfl (by decide) rfl ?_
      refine gq_iinc (v := (v3 + 1)) (lv' := [(3, .int (v3 + 1)), (2, .int (v2 + x5)), (0, .ref (eB E + t)), (1, .int u1)]) (q := 3) C dX2_sumOf_21 rfl rfl (by decide) rfl ?_
      refine gq_goto (tgt := 4) C dX2_sumOf_24 (by decide) ?_
      refine gq_widen (k' := 0) (n' := 0) (Nat.le_of_ble_eq_true rfl) (Nat.le_of_ble_eq_true rfl) (gq_sub [2, 3, 1, 0] rfl ?_)
      exact ih _ _ _ z3 kk
set_option maxHeartbeats 4000000 in
set_option maxRecDepth 100000 in
theorem c_X2_sumOf {l : Launch} {E : Ev} (hN : 295 ≤ eN E) {t : Nat} (k_t : kd t = 2) {p1 : Int32} {μ : Mm} {r : Int32} (z0 : F_X2_sumOf t p1 μ = some r) : Ct l E yX2_sumOf (Cond.code yX2_sumOf cX2_sumOf 4 (some .int) :: GW) rm_X2_sumOf [.ref (eB E + t), .int p1] μ (some (.int r)) μ := by
  refine ct_of (by decide) (Nat.le_of_ble_eq_true rfl) (fun p e s m args below meth c C hr => ?_)
  have C : Cq E p s m args meth c cX2_sumOf 4 RX2 := C
  refine gq_lv (lv' := [(0, .ref (eB E + t)), (1, .int p1)]) rfl ?_
  unfold F_X2_sumOf at z0
  refine gq_iconst (v := 0) C dX2_sumOf_0 (by decide) ?_
  refine gq_istore_n (lv' := [(2, .int (0 : Int32)), (0, .ref (eB E + t)), (1, .int p1)]) C dX2_sumOf_1 rfl (by decide) rfl ?_
  refine gq_iconst (v := 0) C dX2_sumOf_2 (by decide) ?_
  refine gq_istore_n (lv' := [(3, .int (0 : Int32)), (2, .int (0 : Int32)), (0, .ref (eB E + t)), (1, .int p1)]) C dX2_sumOf_3 rfl (by decide) rfl ?_
  obtain ⟨x8, eo7, z6⟩ := bind_ex z0
  refine gq_widen (k' := 0) (n' := 0) (Nat.le_of_ble_eq_true rfl) (Nat.le_of_ble_eq_true rfl) (gq_sub [2, 3, 1, 0] rfl ?_)
  refine l_X2_sumOf_4 hN C k_t qFuel _ _ _ eo7 ?_
  refine gq_iload_n C dX2_sumOf_27 rfl 0 rfl ?_
  cases z6
  exact gq_iret C hr dX2_sumOf_28 (Nat.le_of_ble_eq_true rfl) (Nat.le_of_ble_eq_true rfl)
abbrev rm_X2_removeRow : Room := { frames := 1, cells := 0, slots := 0, locals := 68 }
def F_X2_removeRow (t : Nat) (p1 : Int32) (μ : Mm) : Option Mm :=
  (F_X2_has t p1 μ).bind fun o2 =>
  if o2 = 0 then
  (some μ)
  else
  ((yI μ (t + 1) ((p1 + (1 : Int32)) * (μ.1 t 0)) (t + 1) (p1 * (μ.1 t 0)) (((μ.1 t 2) * (μ.1 t 0)) - ((p1 + (1 : Int32)) * (μ.1 t 0)))).bind fun m6 =>
  (some (uI m6 t 2 ((m6.1 t 2) - (1 : Int32)))).bind fun m8 =>
  some m8)
set_option maxHeartbeats 4000000 in
set_option maxRecDepth 100000 in
theorem c_X2_removeRow {l : Launch} {E : Ev} (hN : 295 ≤ eN E) {t : Nat} (k_t : kd t = 2) {p1 : Int32} {μ : Mm} {μ' : Mm} (z0 : F_X2_removeRow t p1 μ = some μ') : Ct l E yX2_removeRow (Cond.code yX2_removeRow cX2_removeRow 3 none :: GW) rm_X2_removeRow [.ref (eB E + t), .int p1] μ none μ' := by
  refine ct_of (by decide) (Nat.le_of_ble_eq_true rfl) (fun p e s m args below meth c C hr => ?_)
  have C : Cq E p s m args meth c cX2_removeRow 3 RX2 := C
  refine gq_lv (lv' := [(0, .ref (eB E + t)), (1, .int p1)]) rfl ?_
  unfold F_X2_removeRow at z0
  refine gq_aload_n C dX2_removeRow_0 rfl 0 rfl ?_
  refine gq_iload_n C dX2_removeRow_1 rfl 1 rfl ?_
  obtain ⟨x3, eo2, z1⟩ := bind_ex z0
  refine gq_V (As := [.int p1]) (rest := []) C (c_X2_has hN k_t eo2) (tb_n0 k_t hN) k_t (by decide) rfl wk_2_106 wk_1_109 wk_1_110 wk_1_5 wk_1_111 hd_X2_has ⟨(Nat.le_of_ble_eq_true rfl), (Nat.le_of_ble_eq_true rfl)⟩ (Nat.le_of_ble_eq_true rfl) ⟨(Nat.le_of_ble_eq_true rfl), (Nat.le_of_ble_eq_true rfl)⟩ dX2_removeRow_2 rfl rfl ?_
  rcases ite_ex z1 with ⟨c4, z5⟩ | ⟨c4, z5⟩
  · refine gq_if_ne_f (tgt := 9) C dX2_removeRow_5 (by decide) c4 ?_
    cases z5
    exact gq_vret C hr dX2_removeRow_8 (Nat.le_of_ble_eq_true rfl) (Nat.le_of_ble_eq_true rfl)
  · refine gq_if_ne_t (tgt := 9) C dX2_removeRow_5 (by decide) c4 ?_
    refine gq_iload_n C dX2_removeRow_9 rfl 1 rfl ?_
    refine gq_iconst (v := 1) C dX2_removeRow_10 (by decide) ?_
    refine gq_iadd C dX2_removeRow_11 ?_
    refine gq_aload_n C dX2_removeRow_12 rfl 0 rfl ?_
    refine gq_get2 C (tb_n0 k_t hN) k_t 0 (by decide) wk_2_136 rfl dX2_removeRow_13 ?_
    refine gq_imul C dX2_removeRow_16 ?_
    refine gq_istore_n (lv' := [(2, .int ((p1 + (1 : Int32)) * (μ.1 t 0))), (0, .ref (eB E + t)), (1, .int p1)]) C dX2_removeRow_17 rfl (by decide) rfl ?_
    refine gq_aload_n C dX2_removeRow_18 rfl 1 rfl ?_
    refine gq_get2 C (tb_n0 k_t hN) k_t 1 (by decide) wk_2_137 rfl dX2_removeRow_19 ?_
    refine gq_iload_n C dX2_removeRow_22 rfl 0 rfl ?_
    refine gq_aload_n C dX2_removeRow_23 rfl 1 rfl ?_
    refine gq_get2 C (tb_n0 k_t hN) k_t 1 (by decide) wk_2_137 rfl dX2_removeRow_24 ?_
    refine gq_iload_n C dX2_removeRow_27 rfl 2 rfl ?_
    refine gq_aload_n C dX2_removeRow_28 rfl 1 rfl ?_
    refine gq_get2 C (tb_n0 k_t hN) k_t 0 (by decide) wk_2_136 rfl dX2_removeRow_29 ?_
    refine gq_imul C dX2_removeRow_32 ?_
    refine gq_aload_n C dX2_removeRow_33 rfl 1 rfl ?_
    refine gq_get2 C (tb_n0 k_t hN) k_t 2 (by decide) wk_2_138 rfl dX2_removeRow_34 ?_
    refine gq_aload_n C dX2_removeRow_37 rfl 1 rfl ?_
    refine gq_get2 C (tb_n0 k_t hN) k_t 0 (by decide) wk_2_136 rfl dX2_removeRow_38 ?_
    refine gq_imul C dX2_removeRow_41 ?_
    refine gq_iload_n C dX2_removeRow_42 rfl 0 rfl ?_
    refine gq_isub C dX2_removeRow_43 ?_
    obtain ⟨m6, em6, z7⟩ := bind_ex z5
    refine gq_cpyI C (tb_n1 k_t hN) (tb_n1 k_t hN) (tb_kd k_t) (tb_kd k_t) em6 wk_1_229 wk_1_231 wk_1_230 wk_1_14 (Nat.le_of_ble_eq_true rfl) (Nat.le_of_ble_eq_true rfl) dX2_removeRow_44 ?_
    refine gq_aload_n C dX2_removeRow_47 rfl 1 rfl ?_
    refine gq_dupr C dX2_removeRow_48 ?_
    refine gq_get2 C (tb_n0 k_t hN) k_t 2 (by decide) wk_2_138 rfl dX2_removeRow_49 ?_
    refine gq_iconst (v := 1) C dX2_removeRow_52 (by decide) ?_
    refine gq_isub C dX2_removeRow_53 ?_
    obtain ⟨m8, em8, z9⟩ := bind_ex z7
    refine gq_put2_2 C (tb_n0 k_t hN) k_t wk_2_138 (Option.some.inj em8).symm dX2_removeRow_54 ?_
    cases z9
    exact gq_vret C hr dX2_removeRow_57 (Nat.le_of_ble_eq_true rfl) (Nat.le_of_ble_eq_true rfl)
