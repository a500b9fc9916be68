/-! ===== the builder's small methods ===== -/
abbrev rm_00 : Room := { frames := 0, cells := 0, slots := 0, locals := 0 }
abbrev rm_10 : Room := { frames := 1, cells := 0, slots := 0, locals := 40 }
section SBL
variable {l : Launch} {E : Ev} {μ : Mm}
set_option maxHeartbeats 4000000 in
set_option maxRecDepth 100000 in
theorem c_J5_isLatin1_aae02 (hN : 295 < eN E) (h1 : μ.1 295 1 = 0) : Ct l E yJ5_isLatin1_aae02 (Cond.code yJ5_isLatin1_aae02 cJ5_isLatin1_aae02 1 (some .boolean) :: GW) rm_00 [.ref (eB E + 295)] μ (some (.int 1)) μ := by
  refine ct_of (by decide) (Nat.le_of_ble_eq_true rfl) (fun p e s m args below meth c C hr => ?_)
  have C : Cq E p s m args meth c cJ5_isLatin1_aae02 1 RJ5 := C
  refine gq_lv (lv' := [(0, .ref (eB E + 295))]) rfl ?_
  refine gq_getsZ C C.2.2.2.2.2.2.2.2.2.2.2.2.1 wk_3_34 (fun _ h => h) dJ5_isLatin1_aae02_0 ?_
  refine gq_if_eq_f (tgt := 17) C dJ5_isLatin1_aae02_3 (by decide) (by decide) ?_
  refine gq_aload_n C dJ5_isLatin1_aae02_6 rfl 0 rfl ?_
  refine gq_get4 C hN kd_295 1 (by decide) wk_3_44 rfl dJ5_isLatin1_aae02_7 ?_
  rw [h1]
  refine gq_if_ne_f (tgt := 17) C dJ5_isLatin1_aae02_10 (by decide) rfl ?_
  refine gq_iconst (v := 1) C dJ5_isLatin1_aae02_13 (by decide) ?_
  refine gq_goto (tgt := 18) C dJ5_isLatin1_aae02_14 (by decide) ?_
  exact gq_zret C hr (by decide) dJ5_isLatin1_aae02_18 (Nat.le_of_ble_eq_true rfl) (Nat.le_of_ble_eq_true rfl)
set_option maxHeartbeats 4000000 in
set_option maxRecDepth 100000 in
theorem c_J5_length_8abf5 (hN : 295 < eN E) : Ct l E yJ5_length_8abf5 (Cond.code yJ5_length_8abf5 cJ5_length_8abf5 1 (some .int) :: GW) rm_00 [.ref (eB E + 295)] μ (some (.int (μ.1 295 3))) μ := by
  refine ct_of (by decide) (Nat.le_of_ble_eq_true rfl) (fun p e s m args below meth c C hr => ?_)
  have C : Cq E p s m args meth c cJ5_length_8abf5 1 RJ5 := C
  refine gq_lv (lv' := [(0, .ref (eB E + 295))]) rfl ?_
  refine gq_aload_n C dJ5_length_8abf5_0 rfl 0 rfl ?_
  refine gq_get4 C hN kd_295 3 (by decide) wk_3_46 rfl dJ5_length_8abf5_1 ?_
  exact gq_iret C hr dJ5_length_8abf5_4 (Nat.le_of_ble_eq_true rfl) (Nat.le_of_ble_eq_true rfl)
/-! how many digits -/
def dgF (v : Nat) : Nat → Nat → Nat
  | 0, i => i
  | d + 1, i => if v < 10 ^ i then i else dgF v d (i + 1)
def dg (v : Nat) : Nat := dgF v 9 1
def Dn (v n : Nat) : Prop := 1 ≤ n ∧ (v < 10 ^ n ∧ (n = 1 ∨ 10 ^ (n - 1) ≤ v))
theorem dgF_ok {v : Nat} (hv : v < 10 ^ 10) : ∀ d i, i + d = 10 → 1 ≤ i → (i = 1 ∨ 10 ^ (i - 1) ≤ v) → Dn v (dgF v d i) ∧ dgF v d i ≤ 10 := by
  intro d
  induction d with
  | zero =>
    intro i hi h1 h2
    obtain rfl : i = 10 := by omega
    exact ⟨⟨h1, hv, h2⟩, Nat.le_refl _⟩
  | succ d ih =>
    intro i hi h1 h2
    rw [dgF]
    by_cases e : v < 10 ^ i
    · rw [if_pos e]
      exact ⟨⟨h1, e, h2⟩, by omega⟩
    · rw [if_neg e]
      exact ih (i + 1) (by omega) (by omega) (Or.inr (by rw [Nat.add_sub_cancel]; omega))
theorem dg_ok {v : Nat} (hv : v < 10 ^ 10) : Dn v (dg v) ∧ dg v ≤ 10 := dgF_ok hv 9 1 rfl (Nat.le_refl 1) (Or.inl rfl)
def pI : Nat → Int32
  | 0 => -1
  | i + 1 => 10 * pI i
theorem pI_e : ∀ i, i < 10 → pI i = -nI (10 ^ i) := by decide
theorem neg_le {a b : Nat} (ha : a < 2 ^ 31) (hb : b < 2 ^ 31) : -nI a ≤ -nI b ↔ b ≤ a := by
  have key : ∀ {a : Nat}, a < 2 ^ 31 → (-nI a).toInt = -(a : Int) := fun {a} h => by
    rw [Int32.toInt_neg, nI_toInt h]
    exact Int.bmod_eq_of_le (by omega) (by omega)
  rw [Int32.le_iff_toInt_le, key ha, key hb]
  omega
set_option maxHeartbeats 4000000 in
set_option maxRecDepth 100000 in
theorem c_J6_stringSize_0f7a4 {v : Nat} (hv : v < 2 ^ 30) : Ct l E yJ6_stringSize_0f7a4 (Cond.code yJ6_stringSize_0f7a4 cJ6_stringSize_0f7a4 4 (some .int) :: GW) rm_00 [.int (nI v)] μ (some (.int (nI (dg v)))) μ := by
  refine ct_of (by decide) (Nat.le_of_ble_eq_true rfl) (fun p e s m args below meth c C hr => ?_)
  have C : Cq E p s m args meth c cJ6_stringSize_0f7a4 4 RJ6 := C
  refine gq_lv (lv' := [(0, .int (nI v))]) rfl ?_
  refine gq_iconst (v := 1) C dJ6_stringSize_0f7a4_0 (by decide) ?_
  refine gq_istore_n (i := 1) C dJ6_stringSize_0f7a4_1 rfl (by decide) rfl ?_
  refine gq_iload_n (i := 0) C dJ6_stringSize_0f7a4_2 rfl 1 rfl ?_
  refine gq_if_lt_f (tgt := 11) C dJ6_stringSize_0f7a4_3 (by decide) (nI_pos (by omega)) ?_
  refine gq_iconst (v := 0) C dJ6_stringSize_0f7a4_6 (by decide) ?_
  refine gq_istore_n (i := 1) C dJ6_stringSize_0f7a4_7 rfl (by decide) rfl ?_
  refine gq_iload_n (i := 0) C dJ6_stringSize_0f7a4_8 rfl 1 rfl ?_
  refine gq_ineg C dJ6_stringSize_0f7a4_9 ?_
  refine gq_istore_n (i := 0) C dJ6_stringSize_0f7a4_10 rfl (by decide) rfl ?_
  refine gq_bipush (v := -10) C dJ6_stringSize_0f7a4_11 (by decide) ?_
  refine gq_istore_n (i := 2) C dJ6_stringSize_0f7a4_13 rfl (by decide) rfl ?_
  refine gq_iconst (v := 1) C dJ6_stringSize_0f7a4_14 (by decide) ?_
  refine gq_istore_n (i := 3) C dJ6_stringSize_0f7a4_15 rfl (by decide) rfl ?_
  have loop : ∀ d i, i + d = 10 → 1 ≤ i → Gq E p l e rm_00 s m args below meth c 0 0 4 (MQ below (qQ E (some (.int (nI (dgF v d i)))) μ) args s 0 0 (eA E)) 16 [(3, .int (nI i)), (2, .int (pI i)), (0, .int (-nI v)), (1, .int 0)] [] μ := by
    intro d
    induction d with
    | zero =>
      intro i hi h1
      obtain rfl : i = 10 := by omega
      refine gq_iload_n (i := 3) C dJ6_stringSize_0f7a4_16 rfl 0 rfl ?_
      refine gq_bipush (v := 10) C dJ6_stringSize_0f7a4_17 (by decide) ?_
      refine gq_icmp_ge_t (tgt := 42) C dJ6_stringSize_0f7a4_19 (by decide) (by decide) ?_
      refine gq_bipush (v := 10) C dJ6_stringSize_0f7a4_42 (by decide) ?_
      refine gq_iload_n (i := 1) C dJ6_stringSize_0f7a4_44 rfl 3 rfl ?_
      refine gq_iadd C dJ6_stringSize_0f7a4_45 ?_
      exact gq_iret C hr dJ6_stringSize_0f7a4_46 (Nat.le_of_ble_eq_true rfl) (Nat.le_of_ble_eq_true rfl)
    | succ d ih =>
      intro i hi h1
      refine gq_iload_n (i := 3) C dJ6_stringSize_0f7a4_16 rfl 0 rfl ?_
      refine gq_bipush (v := 10) C dJ6_stringSize_0f7a4_17 (by decide) ?_
      refine gq_icmp_ge_f (tgt := 42) C dJ6_stringSize_0f7a4_19 (by decide) (show ¬ (10 : Int32) ≤ nI i from nI_ge (b := 10) (by omega) (by decide)) ?_
      refine gq_iload_n (i := 0) C dJ6_stringSize_0f7a4_22 rfl 2 rfl ?_
      refine gq_iload_n (i := 2) C dJ6_stringSize_0f7a4_23 rfl 1 rfl ?_
      have hp : ∀ i, i < 10 → 10 ^ i < 2 ^ 31 := by decide
      have hc : -nI v ≤ pI i ↔ 10 ^ i ≤ v := by
        rw [pI_e i (by omega)]
        exact neg_le (by omega) (hp i (by omega))
      rw [dgF]
      by_cases e1 : v < 10 ^ i
      · rw [if_pos e1]
        refine gq_icmp_le_f (tgt := 31) C dJ6_stringSize_0f7a4_24 (by decide) (fun z => by have := hc.mp z; omega) ?_
        refine gq_iload_n (i := 3) C dJ6_stringSize_0f7a4_27 rfl 0 rfl ?_
        refine gq_iload_n (i := 1) C dJ6_stringSize_0f7a4_28 rfl 3 rfl ?_
        refine gq_iadd C dJ6_stringSize_0f7a4_29 ?_
        rw [Int32.add_zero]
        exact gq_iret C hr dJ6_stringSize_0f7a4_30 (Nat.le_of_ble_eq_true rfl) (Nat.le_of_ble_eq_true rfl)
      · rw [if_neg e1]
        refine gq_icmp_le_t (tgt := 31) C dJ6_stringSize_0f7a4_24 (by decide) (hc.mpr (by omega)) ?_
        refine gq_bipush (v := 10) C dJ6_stringSize_0f7a4_31 (by decide) ?_
        refine gq_iload_n (i := 2) C dJ6_stringSize_0f7a4_33 rfl 1 rfl ?_
        refine gq_imul C dJ6_stringSize_0f7a4_34 ?_
        refine gq_istore_n (i := 2) C dJ6_stringSize_0f7a4_35 rfl (by decide) rfl ?_
        refine gq_iinc (i := 3) (q := 1) (v := nI (i + 1)) C dJ6_stringSize_0f7a4_36 rfl (nI_1 i) (by decide) rfl ?_
        refine gq_goto (tgt := 16) C dJ6_stringSize_0f7a4_39 (by decide) ?_
        exact ih (i + 1) (by omega) (by omega)
  exact loop 9 1 rfl (Nat.le_refl 1)
end SBL

