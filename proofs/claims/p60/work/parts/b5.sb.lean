/-! ===== the builder's room ===== -/
theorem shl_0 (x : Int32) : x <<< ((0 : Int32) &&& 31) = x := by
  rw [show (0 : Int32) &&& 31 = 0 by decide]
  exact Int32.shiftLeft_zero
theorem shr_0 (x : Int32) : x >>> ((0 : Int32) &&& 31) = x := by
  rw [show (0 : Int32) &&& 31 = 0 by decide]
  exact Int32.shiftRight_zero
/-- the room behind a demand for q, where m is there -/
def capG (q m : Nat) : Nat := m + (if q - m < m + 2 then m + 2 else q - m)
def capF (q m : Nat) : Nat := if q ≤ m then m else capG q m
abbrev rm_n1 : Room := { frames := 1, cells := 0, slots := 0, locals := 40 }
abbrev rm_n2 : Room := { frames := 2, cells := 0, slots := 0, locals := 80 }
section SBR
variable {l : Launch} {E : Ev} {μ : Mm}
set_option maxHeartbeats 4000000 in
set_option maxRecDepth 100000 in
theorem c_J8_newLength_cabcc {a b d : Nat} (ha : a < 2 ^ 28) (hb : b < 2 ^ 28) (hd : d < 2 ^ 28) (h0 : 0 < d) : Ct l E yJ8_newLength_cabcc (Cond.code yJ8_newLength_cabcc cJ8_newLength_cabcc 4 (some .int) :: GW) rm_n1 [.int (nI a), .int (nI b), .int (nI d)] μ (some (.int (nI (a + if b < d then d else b)))) μ := by
  refine ct_of (by decide) (Nat.le_of_ble_eq_true rfl) (fun p e s m args below meth c C hr => ?_)
  have C : Cq E p s m args meth c cJ8_newLength_cabcc 4 RJ8 := C
  have hmx : (if nI b < nI d then nI d else nI b) = nI (if b < d then d else b) := by
    by_cases z : b < d
    · rw [if_pos z, if_pos (nI_lt z (by omega))]
    · rw [if_neg z, if_neg (nI_nlt (by omega) (by omega))]
  have hlt : (if b < d then d else b) < 2 ^ 28 := by split <;> omega
  have hge : 0 < (if b < d then d else b) := by split <;> omega
  generalize (if b < d then d else b) = mx at *
  refine gq_lv (lv' := [(0, .int (nI a)), (1, .int (nI b)), (2, .int (nI d))]) rfl ?_
  refine gq_iload_n (i := 0) C dJ8_newLength_cabcc_0 rfl 0 rfl ?_
  refine gq_iload_n (i := 1) C dJ8_newLength_cabcc_1 rfl 1 rfl ?_
  refine gq_iload_n (i := 2) C dJ8_newLength_cabcc_2 rfl 2 rfl ?_
  refine gq_mmax C wk_3_141 wk_2_47 wk_1_12 wk_2_48 (Nat.le_of_ble_eq_true rfl) (Nat.le_of_ble_eq_true rfl) (Nat.le_of_ble_eq_true rfl) (Nat.le_of_ble_eq_true rfl) dJ8_newLength_cabcc_3 ?_
  rw [hmx]
  refine gq_iadd C dJ8_newLength_cabcc_6 ?_
  rw [nI_add]
  refine gq_istore_n (i := 3) C dJ8_newLength_cabcc_7 rfl (by decide) rfl ?_
  refine gq_iconst (v := 0) C dJ8_newLength_cabcc_8 (by decide) ?_
  refine gq_iload_n (i := 3) C dJ8_newLength_cabcc_9 rfl 0 rfl ?_
  refine gq_icmp_ge_f (tgt := 21) C dJ8_newLength_cabcc_10 (by decide) (show ¬ nI (a + mx) ≤ nI 0 from nI_ge (by omega) (by omega)) ?_
  refine gq_iload_n (i := 3) C dJ8_newLength_cabcc_13 rfl 0 rfl ?_
  refine gq_ldc C wk_3_142 dJ8_newLength_cabcc_14 ?_
  refine gq_icmp_gt_f (tgt := 21) C dJ8_newLength_cabcc_16 (by decide) (show ¬ nI 2147483639 < nI (a + mx) from nI_nlt (by omega) (by decide)) ?_
  refine gq_iload_n (i := 3) C dJ8_newLength_cabcc_19 rfl 0 rfl ?_
  exact gq_iret C hr dJ8_newLength_cabcc_20 (Nat.le_of_ble_eq_true rfl) (Nat.le_of_ble_eq_true rfl)
set_option maxHeartbeats 4000000 in
set_option maxRecDepth 100000 in
theorem c_J5_newCapacity_0f7a4 {q : Nat} (hN : 295 < eN E) (h1 : μ.1 295 1 = 0) (hq : q < 2 ^ 27) (hm : μ.2.2.2.1 < q) : Ct l E yJ5_newCapacity_0f7a4 (Cond.code yJ5_newCapacity_0f7a4 cJ5_newCapacity_0f7a4 6 (some .int) :: GW) rm_n2 [.ref (eB E + 295), .int (nI q)] μ (some (.int (nI (capG q μ.2.2.2.1)))) μ := by
  refine ct_of (by decide) (Nat.le_of_ble_eq_true rfl) (fun p e s m args below meth c C hr => ?_)
  have C : Cq E p s m args meth c cJ5_newCapacity_0f7a4 6 RJ5 := C
  refine gq_lv (lv' := [(0, .ref (eB E + 295)), (1, .int (nI q))]) rfl ?_
  refine gq_aload_n (i := 0) C dJ5_newCapacity_0f7a4_0 rfl 0 rfl ?_
  refine gq_get4 C hN kd_295 0 (by decide) wk_3_43 rfl dJ5_newCapacity_0f7a4_1 ?_
  refine gq_sblen (v := nI μ.2.2.2.1) C hN rfl dJ5_newCapacity_0f7a4_4 ?_
  refine gq_istore_n (i := 2) C dJ5_newCapacity_0f7a4_5 rfl (by decide) rfl ?_
  refine gq_iload_n (i := 1) C dJ5_newCapacity_0f7a4_6 rfl 2 rfl ?_
  refine gq_aload_n (i := 0) C dJ5_newCapacity_0f7a4_7 rfl 1 rfl ?_
  refine gq_get4 C hN kd_295 1 (by decide) wk_3_44 rfl dJ5_newCapacity_0f7a4_8 ?_
  rw [h1]
  refine gq_ishl C dJ5_newCapacity_0f7a4_11 ?_
  rw [shl_0]
  refine gq_istore_n (i := 3) C dJ5_newCapacity_0f7a4_12 rfl (by decide) rfl ?_
  refine gq_iload_n (i := 3) C dJ5_newCapacity_0f7a4_13 rfl 0 rfl ?_
  refine gq_iload_n (i := 2) C dJ5_newCapacity_0f7a4_14 rfl 1 rfl ?_
  refine gq_isub C dJ5_newCapacity_0f7a4_15 ?_
  rw [pk_sub (by omega)]
  refine gq_istore (i := 4) C dJ5_newCapacity_0f7a4_16 (by decide) rfl ?_
  refine gq_iload_n (i := 2) C dJ5_newCapacity_0f7a4_18 rfl 2 rfl ?_
  refine gq_iload (i := 4) C dJ5_newCapacity_0f7a4_19 0 rfl ?_
  refine gq_iload_n (i := 2) C dJ5_newCapacity_0f7a4_21 rfl 2 rfl ?_
  refine gq_iconst (v := 2) C dJ5_newCapacity_0f7a4_22 (by decide) ?_
  refine gq_aload_n (i := 0) C dJ5_newCapacity_0f7a4_23 rfl 3 rfl ?_
  refine gq_get4 C hN kd_295 1 (by decide) wk_3_44 rfl dJ5_newCapacity_0f7a4_24 ?_
  rw [h1]
  refine gq_ishl C dJ5_newCapacity_0f7a4_27 ?_
  rw [shl_0]
  refine gq_iadd C dJ5_newCapacity_0f7a4_28 ?_
  rw [show nI μ.2.2.2.1 + 2 = nI (μ.2.2.2.1 + 2) from nI_add _ 2]
  refine gq_call (run_SX (As := [.int (nI μ.2.2.2.1), .int (nI (q - μ.2.2.2.1)), .int (nI (μ.2.2.2.1 + 2))]) (rest := []) C (c_J8_newLength_cabcc (by omega) (by omega) (by omega) (by omega)) wk_3_138 wk_3_139 wk_1_11 wk_3_140 ht_newl ⟨Nat.le_of_ble_eq_true rfl, Nat.le_of_ble_eq_true rfl⟩ (Nat.le_of_ble_eq_true rfl) ⟨Nat.le_of_ble_eq_true rfl, Nat.le_of_ble_eq_true rfl⟩ dJ5_newCapacity_0f7a4_29 rfl) rfl ?_
  have hcg : μ.2.2.2.1 + (if q - μ.2.2.2.1 < μ.2.2.2.1 + 2 then μ.2.2.2.1 + 2 else q - μ.2.2.2.1) = capG q μ.2.2.2.1 := rfl
  have hlt : capG q μ.2.2.2.1 < 2 ^ 29 := by unfold capG; split <;> omega
  rw [hcg]
  refine gq_istore (i := 5) C dJ5_newCapacity_0f7a4_32 (by decide) rfl ?_
  refine gq_iload (i := 5) C dJ5_newCapacity_0f7a4_34 0 rfl ?_
  refine gq_ldc C wk_3_112 dJ5_newCapacity_0f7a4_36 ?_
  refine gq_icmp_ne_t (tgt := 51) C dJ5_newCapacity_0f7a4_38 (by decide) (fun z => by
    have := nI_inj (a := capG q μ.2.2.2.1) (b := 2147483647) (by omega) (by decide) z
    omega) ?_
  refine gq_iload (i := 5) C dJ5_newCapacity_0f7a4_51 0 rfl ?_
  refine gq_aload_n (i := 0) C dJ5_newCapacity_0f7a4_53 rfl 4 rfl ?_
  refine gq_get4 C hN kd_295 1 (by decide) wk_3_44 rfl dJ5_newCapacity_0f7a4_54 ?_
  rw [h1]
  refine gq_ishr C dJ5_newCapacity_0f7a4_57 ?_
  rw [shr_0]
  exact gq_iret C hr dJ5_newCapacity_0f7a4_58 (Nat.le_of_ble_eq_true rfl) (Nat.le_of_ble_eq_true rfl)
end SBR

