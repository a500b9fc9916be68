theorem wk_6_153 : Cond.methodLink "WaterExchangeModel" (1 : Nat) ({ cls := "java/lang/Object", name := "<init>", desc := "()V" } : MethodName) ∈ GW := gw_6 (List.mem_of_getElem? (i := 153) rfl) rfl
/-! ===== the reference's constructor ===== -/
def mF (E : Ev) (o : va_E) (μ : Mm) : Nat → va_E := fun j => if j = 295 then o else fw E μ j
def HZ (μ : Mm) : Prop := ∀ a, 295 ≤ a → μ.1 a = zI a ∧ μ.2.1 a = fun _ => 0
section CTM
variable {E : Ev} {n : Nat} {o o' x : va_E} {μ : Mm}
theorem mF_put : bu (mF E o μ) 295 o' = mF E o' μ := by
  funext j
  unfold bu mF
  by_cases e : j = 295
  · rw [if_pos e, if_pos e]
  · rw [if_neg e, if_neg e, if_neg e]
theorem fw_hz (h : HZ μ) (hn : 295 ≤ n) : fw E μ n = fw E (mZ E) n := by
  rw [fw_n (by omega), fw_n (by omega)]
  have h4 : kd n ≠ 4 := fun hk => by
    rcases Nat.lt_or_ge n 312 with h2 | h2
    · have := (show ∀ i, i < 312 → kd i = 4 → i = 293 by decide +kernel) n h2 hk
      omega
    · unfold kd at hk
      rw [List.getD_eq_getElem?_getD, List.getElem?_eq_none (by rw [qShp_len]; exact h2)] at hk
      exact absurd hk (by decide)
  unfold cn cnB
  rw [(h n hn).1, (h n hn).2, if_neg h4, if_neg h4]
  rfl
theorem mF_push (h : HZ μ) (hn : 295 ≤ n) (h9 : n ≠ 295) (hx : fw E (mZ E) n = x) : ∀ i, i < n + 1 → mF E o μ i = bu (mF E o μ) n x i := fun i _ => by
  by_cases e : i = n
  · subst e
    rw [bu_eq]
    exact (if_neg h9).trans ((fw_hz h hn).trans hx)
  · rw [bu_ne e]
theorem fw_295 (h : HZ μ) : fw E μ 295 = .inr (8, [.int 0, .ref (eB E + 296), .ref (eB E + 297), .ref (eB E + 298), .ref (eB E + 299), .ref (eB E + 300), .ref (eB E + 301), .ref (eB E + 302), .int 0, .ref (eB E + 303), .ref (eB E + 304), .ref (eB E + 305), .ref (eB E + 306), .int 0, .int 0, .int 0, .int (-1), .int 0, .int 0, .int 0, .ref (eB E + 307), .ref (eB E + 308), .int (-1), .int 0, .int (-1), .int 0, .int (-1), .ref (eB E + 309), .ref (eB E + 310), .int 0]) := by
  rw [fw_hz h (Nat.le_refl _), fw_n (by decide), cn_5 (by decide +kernel)]
  rfl
end CTM
def rawM : va_E := .inr (8, [.int 0, .null, .null, .null, .null, .null, .null, .null, .int 0, .null, .null, .null, .null, .int 0, .int 0, .int 0, .int 0, .int 0, .int 0, .int 0, .null, .null, .int 0, .int 0, .int 0, .int 0, .int 0, .null, .null, .int 0])
abbrev rmM : Room := { frames := 60, cells := 15, slots := 8281, locals := 3000 }
set_option maxHeartbeats 16000000 in
set_option maxRecDepth 100000 in
theorem c_X4_init {l : Launch} {E : Ev} {μ μ2 μ3 : Mm} (hμ : HZ μ) (hm : μ.2.2.1 = eB E + 294) (hcl : F_X4_clears μ = some μ2) (hbe : F_X4_begins μ2 = some μ3) (hm2 : μ3.2.2.1 = eB E + 294) : Cb l E yX4_init (Cond.code yX4_init cX4_init 1 none :: GW) rmM [.ref (eB E + 295)] (eB E) 296 (mF E rawM μ) 311 (fw E μ3) := by
  refine cb_of (by decide) (Nat.le_of_ble_eq_true rfl) (fun p e s m args below meth c C hnm hAO hz hB hr => ?_)
  have C : Cq E p s m args meth c cX4_init 1 RX4 := C
  have hnm : meth.name = "<init>" := hnm
  refine gb_lv (lv' := [(0, .ref (eB E + 295))]) rfl ?_
  refine gb_aload_n (i := 0) C dX4_init_0 rfl 0 rfl ?_
  refine gb_obj C wk_6_153 wk_1_33 wk_1_34 ⟨(Nat.le_of_ble_eq_true rfl), (Nat.le_of_ble_eq_true rfl)⟩ dX4_init_1 ?_
  refine gb_aload_n (i := 0) C dX4_init_4 rfl 0 rfl ?_
  refine gb_sipush (v := 521) C dX4_init_5 (by decide) ?_
  refine gb_newa (atype := .int) (ty := .int) (a0 := (521, .inl (fun _ => 0))) (v := 521) (N := 521) C wk_1_60 rfl 1 rfl (fun _ _ h => ra_i h) (fun _ => rfl) (by decide) (by decide) (Nat.le_of_ble_eq_true rfl) (by omega) (Or.inl (by omega)) ⟨(Nat.le_of_ble_eq_true rfl), (Nat.le_of_ble_eq_true rfl)⟩ dX4_init_8 ?_
  refine gb_F (F' := mF E (.inr (8, [.int 0, .null, .null, .null, .null, .null, .null, .null, .int 0, .null, .null, .null, .null, .int 0, .int 0, .int 0, .int 0, .int 0, .int 0, .int 0, .null, .null, .int 0, .int 0, .int 0, .int 0, .int 0, .null, .null, .int 0])) μ) (mF_push hμ (by decide) (by decide) (fw_i (q := 296) (N := 521) (by unfold NS; decide) (by decide +kernel) (by decide +kernel) (by decide +kernel))) ?_
  refine gb_k (k' := 1) (sl' := 521) rfl rfl ?_
  refine gb_putF (ci := 8) (ty := .array .int) C hnm inG_X4 tyX4 tyX4_ok nmX4 295 (by omega) rfl rfl rfl 1 (by decide) wk_6_163 rfl rfl (by decide +kernel) rfl rfl (Nat.le_of_ble_eq_true rfl) dX4_init_10 ?_
  refine gb_F (F' := mF E (.inr (8, [.int 0, .ref (eB E + 296), .null, .null, .null, .null, .null, .null, .int 0, .null, .null, .null, .null, .int 0, .int 0, .int 0, .int 0, .int 0, .int 0, .int 0, .null, .null, .int 0, .int 0, .int 0, .int 0, .int 0, .null, .null, .int 0])) μ) (fun i _ => (congrFun mF_put i).symm) ?_
  refine gb_aload_n (i := 0) C dX4_init_13 rfl 0 rfl ?_
  refine gb_sipush (v := 521) C dX4_init_14 (by decide) ?_
  refine gb_newa (atype := .int) (ty := .int) (a0 := (521, .inl (fun _ => 0))) (v := 521) (N := 521) C wk_1_60 rfl 1 rfl (fun _ _ h => ra_i h) (fun _ => rfl) (by decide) (by decide) (Nat.le_of_ble_eq_true rfl) (by omega) (Or.inl (by omega)) ⟨(Nat.le_of_ble_eq_true rfl), (Nat.le_of_ble_eq_true rfl)⟩ dX4_init_17 ?_
  refine gb_F (F' := mF E (.inr (8, [.int 0, .ref (eB E + 296), .null, .null, .null, .null, .null, .null, .int 0, .null, .null, .null, .null, .int 0, .int 0, .int 0, .int 0, .int 0, .int 0, .int 0, .null, .null, .int 0, .int 0, .int 0, .int 0, .int 0, .null, .null, .int 0])) μ) (mF_push hμ (by decide) (by decide) (fw_i (q := 297) (N := 521) (by unfold NS; decide) (by decide +kernel) (by decide +kernel) (by decide +kernel))) ?_
  refine gb_k (k' := 2) (sl' := 1042) rfl rfl ?_
  refine gb_putF (ci := 8) (ty := .array .int) C hnm inG_X4 tyX4 tyX4_ok nmX4 295 (by omega) rfl rfl rfl 2 (by decide) wk_6_164 rfl rfl (by decide +kernel) rfl rfl (Nat.le_of_ble_eq_true rfl) dX4_init_19 ?_
  refine gb_F (F' := mF E (.inr (8, [.int 0, .ref (eB E + 296), .ref (eB E + 297), .null, .null, .null, .null, .null, .int 0, .null, .null, .null, .null, .int 0, .int 0, .int 0, .int 0, .int 0, .int 0, .int 0, .null, .null, .int 0, .int 0, .int 0, .int 0, .int 0, .null, .null, .int 0])) μ) (fun i _ => (congrFun mF_put i).symm) ?_
  refine gb_aload_n (i := 0) C dX4_init_22 rfl 0 rfl ?_
  refine gb_sipush (v := 521) C dX4_init_23 (by decide) ?_
  refine gb_newa (atype := .int) (ty := .int) (a0 := (521, .inl (fun _ => 0))) (v := 521) (N := 521) C wk_1_60 rfl 1 rfl (fun _ _ h => ra_i h) (fun _ => rfl) (by decide) (by decide) (Nat.le_of_ble_eq_true rfl) (by omega) (Or.inl (by omega)) ⟨(Nat.le_of_ble_eq_true rfl), (Nat.le_of_ble_eq_true rfl)⟩ dX4_init_26 ?_
  refine gb_F (F' := mF E (.inr (8, [.int 0, .ref (eB E + 296), .ref (eB E + 297), .null, .null, .null, .null, .null, .int 0, .null, .null, .null, .null, .int 0, .int 0, .int 0, .int 0, .int 0, .int 0, .int 0, .null, .null, .int 0, .int 0, .int 0, .int 0, .int 0, .null, .null, .int 0])) μ) (mF_push hμ (by decide) (by decide) (fw_i (q := 298) (N := 521) (by unfold NS; decide) (by decide +kernel) (by decide +kernel) (by decide +kernel))) ?_
  refine gb_k (k' := 3) (sl' := 1563) rfl rfl ?_
  refine gb_putF (ci := 8) (ty := .array .int) C hnm inG_X4 tyX4 tyX4_ok nmX4 295 (by omega) rfl rfl rfl 3 (by decide) wk_6_165 rfl rfl (by decide +kernel) rfl rfl (Nat.le_of_ble_eq_true rfl) dX4_init_28 ?_
  refine gb_F (F' := mF E (.inr (8, [.int 0, .ref (eB E + 296), .ref (eB E + 297), .ref (eB E + 298), .null, .null, .null, .null, .int 0, .null, .null, .null, .null, .int 0, .int 0, .int 0, .int 0, .int 0, .int 0, .int 0, .null, .null, .int 0, .int 0, .int 0, .int 0, .int 0, .null, .null, .int 0])) μ) (fun i _ => (congrFun mF_put i).symm) ?_
  refine gb_aload_n (i := 0) C dX4_init_31 rfl 0 rfl ?_
  refine gb_sipush (v := 4168) C dX4_init_32 (by decide) ?_
  refine gb_newa (atype := .int) (ty := .int) (a0 := (4168, .inl (fun _ => 0))) (v := 4168) (N := 4168) C wk_1_60 rfl 1 rfl (fun _ _ h => ra_i h) (fun _ => rfl) (by decide) (by decide) (Nat.le_of_ble_eq_true rfl) (by omega) (Or.inl (by omega)) ⟨(Nat.le_of_ble_eq_true rfl), (Nat.le_of_ble_eq_true rfl)⟩ dX4_init_35 ?_
  refine gb_F (F' := mF E (.inr (8, [.int 0, .ref (eB E + 296), .ref (eB E + 297), .ref (eB E + 298), .null, .null, .null, .null, .int 0, .null, .null, .null, .null, .int 0, .int 0, .int 0, .int 0, .int 0, .int 0, .int 0, .null, .null, .int 0, .int 0, .int 0, .int 0, .int 0, .null, .null, .int 0])) μ) (mF_push hμ (by decide) (by decide) (fw_i (q := 299) (N := 4168) (by unfold NS; decide) (by decide +kernel) (by decide +kernel) (by decide +kernel))) ?_
  refine gb_k (k' := 4) (sl' := 5731) rfl rfl ?_
  refine gb_putF (ci := 8) (ty := .array .int) C hnm inG_X4 tyX4 tyX4_ok nmX4 295 (by omega) rfl rfl rfl 4 (by decide) wk_6_166 rfl rfl (by decide +kernel) rfl rfl (Nat.le_of_ble_eq_true rfl) dX4_init_37 ?_
  refine gb_F (F' := mF E (.inr (8, [.int 0, .ref (eB E + 296), .ref (eB E + 297), .ref (eB E + 298), .ref (eB E + 299), .null, .null, .null, .int 0, .null, .null, .null, .null, .int 0, .int 0, .int 0, .int 0, .int 0, .int 0, .int 0, .null, .null, .int 0, .int 0, .int 0, .int 0, .int 0, .null, .null, .int 0])) μ) (fun i _ => (congrFun mF_put i).symm) ?_
  refine gb_aload_n (i := 0) C dX4_init_40 rfl 0 rfl ?_
  refine gb_bipush (v := 15) C dX4_init_41 (by decide) ?_
  refine gb_newa (atype := .long) (ty := .long) (a0 := (15, .inr (.inl (fun _ => 0)))) (v := 15) (N := 15) C wk_1_142 rfl 2 rfl (fun _ _ h => ra_l h) (fun _ => rfl) (by decide) (by decide) (Nat.le_of_ble_eq_true rfl) (by omega) (Or.inl (by omega)) ⟨(Nat.le_of_ble_eq_true rfl), (Nat.le_of_ble_eq_true rfl)⟩ dX4_init_43 ?_
  refine gb_F (F' := mF E (.inr (8, [.int 0, .ref (eB E + 296), .ref (eB E + 297), .ref (eB E + 298), .ref (eB E + 299), .null, .null, .null, .int 0, .null, .null, .null, .null, .int 0, .int 0, .int 0, .int 0, .int 0, .int 0, .int 0, .null, .null, .int 0, .int 0, .int 0, .int 0, .int 0, .null, .null, .int 0])) μ) (mF_push hμ (by decide) (by decide) (fw_l (q := 300) (N := 15) (by unfold NS; decide) (by decide +kernel) (by decide +kernel))) ?_
  refine gb_k (k' := 5) (sl' := 5746) rfl rfl ?_
  refine gb_putF (ci := 8) (ty := .array .long) C hnm inG_X4 tyX4 tyX4_ok nmX4 295 (by omega) rfl rfl rfl 5 (by decide) wk_6_167 rfl rfl (by decide +kernel) rfl rfl (Nat.le_of_ble_eq_true rfl) dX4_init_45 ?_
  refine gb_F (F' := mF E (.inr (8, [.int 0, .ref (eB E + 296), .ref (eB E + 297), .ref (eB E + 298), .ref (eB E + 299), .ref (eB E + 300), .null, .null, .int 0, .null, .null, .null, .null, .int 0, .int 0, .int 0, .int 0, .int 0, .int 0, .int 0, .null, .null, .int 0, .int 0, .int 0, .int 0, .int 0, .null, .null, .int 0])) μ) (fun i _ => (congrFun mF_put i).symm) ?_
  refine gb_aload_n (i := 0) C dX4_init_48 rfl 0 rfl ?_
  refine gb_bipush (v := 15) C dX4_init_49 (by decide) ?_
  refine gb_newa (atype := .long) (ty := .long) (a0 := (15, .inr (.inl (fun _ => 0)))) (v := 15) (N := 15) C wk_1_142 rfl 2 rfl (fun _ _ h => ra_l h) (fun _ => rfl) (by decide) (by decide) (Nat.le_of_ble_eq_true rfl) (by omega) (Or.inl (by omega)) ⟨(Nat.le_of_ble_eq_true rfl), (Nat.le_of_ble_eq_true rfl)⟩ dX4_init_51 ?_
  refine gb_F (F' := mF E (.inr (8, [.int 0, .ref (eB E + 296), .ref (eB E + 297), .ref (eB E + 298), .ref (eB E + 299), .ref (eB E + 300), .null, .null, .int 0, .null, .null, .null, .null, .int 0, .int 0, .int 0, .int 0, .int 0, .int 0, .int 0, .null, .null, .int 0, .int 0, .int 0, .int 0, .int 0, .null, .null, .int 0])) μ) (mF_push hμ (by decide) (by decide) (fw_l (q := 301) (N := 15) (by unfold NS; decide) (by decide +kernel) (by decide +kernel))) ?_
  refine gb_k (k' := 6) (sl' := 5761) rfl rfl ?_
  refine gb_putF (ci := 8) (ty := .array .long) C hnm inG_X4 tyX4 tyX4_ok nmX4 295 (by omega) rfl rfl rfl 6 (by decide) wk_6_168 rfl rfl (by decide +kernel) rfl rfl (Nat.le_of_ble_eq_true rfl) dX4_init_53 ?_
  refine gb_F (F' := mF E (.inr (8, [.int 0, .ref (eB E + 296), .ref (eB E + 297), .ref (eB E + 298), .ref (eB E + 299), .ref (eB E + 300), .ref (eB E + 301), .null, .int 0, .null, .null, .null, .null, .int 0, .int 0, .int 0, .int 0, .int 0, .int 0, .int 0, .null, .null, .int 0, .int 0, .int 0, .int 0, .int 0, .null, .null, .int 0])) μ) (fun i _ => (congrFun mF_put i).symm) ?_
  refine gb_aload_n (i := 0) C dX4_init_56 rfl 0 rfl ?_
  refine gb_bipush (v := 120) C dX4_init_57 (by decide) ?_
  refine gb_newa (atype := .long) (ty := .long) (a0 := (120, .inr (.inl (fun _ => 0)))) (v := 120) (N := 120) C wk_1_142 rfl 2 rfl (fun _ _ h => ra_l h) (fun _ => rfl) (by decide) (by decide) (Nat.le_of_ble_eq_true rfl) (by omega) (Or.inl (by omega)) ⟨(Nat.le_of_ble_eq_true rfl), (Nat.le_of_ble_eq_true rfl)⟩ dX4_init_59 ?_
  refine gb_F (F' := mF E (.inr (8, [.int 0, .ref (eB E + 296), .ref (eB E + 297), .ref (eB E + 298), .ref (eB E + 299), .ref (eB E + 300), .ref (eB E + 301), .null, .int 0, .null, .null, .null, .null, .int 0, .int 0, .int 0, .int 0, .int 0, .int 0, .int 0, .null, .null, .int 0, .int 0, .int 0, .int 0, .int 0, .null, .null, .int 0])) μ) (mF_push hμ (by decide) (by decide) (fw_l (q := 302) (N := 120) (by unfold NS; decide) (by decide +kernel) (by decide +kernel))) ?_
  refine gb_k (k' := 7) (sl' := 5881) rfl rfl ?_
  refine gb_putF (ci := 8) (ty := .array .long) C hnm inG_X4 tyX4 tyX4_ok nmX4 295 (by omega) rfl rfl rfl 7 (by decide) wk_6_169 rfl rfl (by decide +kernel) rfl rfl (Nat.le_of_ble_eq_true rfl) dX4_init_61 ?_
  refine gb_F (F' := mF E (.inr (8, [.int 0, .ref (eB E + 296), .ref (eB E + 297), .ref (eB E + 298), .ref (eB E + 299), .ref (eB E + 300), .ref (eB E + 301), .ref (eB E + 302), .int 0, .null, .null, .null, .null, .int 0, .int 0, .int 0, .int 0, .int 0, .int 0, .int 0, .null, .null, .int 0, .int 0, .int 0, .int 0, .int 0, .null, .null, .int 0])) μ) (fun i _ => (congrFun mF_put i).symm) ?_
  refine gb_aload_n (i := 0) C dX4_init_64 rfl 0 rfl ?_
  refine gb_sipush (v := 1042) C dX4_init_65 (by decide) ?_
  refine gb_newa (atype := .int) (ty := .int) (a0 := (1042, .inl (fun _ => 0))) (v := 1042) (N := 1042) C wk_1_60 rfl 1 rfl (fun _ _ h => ra_i h) (fun _ => rfl) (by decide) (by decide) (Nat.le_of_ble_eq_true rfl) (by omega) (Or.inl (by omega)) ⟨(Nat.le_of_ble_eq_true rfl), (Nat.le_of_ble_eq_true rfl)⟩ dX4_init_68 ?_
  refine gb_F (F' := mF E (.inr (8, [.int 0, .ref (eB E + 296), .ref (eB E + 297), .ref (eB E + 298), .ref (eB E + 299), .ref (eB E + 300), .ref (eB E + 301), .ref (eB E + 302), .int 0, .null, .null, .null, .null, .int 0, .int 0, .int 0, .int 0, .int 0, .int 0, .int 0, .null, .null, .int 0, .int 0, .int 0, .int 0, .int 0, .null, .null, .int 0])) μ) (mF_push hμ (by decide) (by decide) (fw_i (q := 303) (N := 1042) (by unfold NS; decide) (by decide +kernel) (by decide +kernel) (by decide +kernel))) ?_
  refine gb_k (k' := 8) (sl' := 6923) rfl rfl ?_
  refine gb_putF (ci := 8) (ty := .array .int) C hnm inG_X4 tyX4 tyX4_ok nmX4 295 (by omega) rfl rfl rfl 9 (by decide) wk_6_171 rfl rfl (by decide +kernel) rfl rfl (Nat.le_of_ble_eq_true rfl) dX4_init_70 ?_
  refine gb_F (F' := mF E (.inr (8, [.int 0, .ref (eB E + 296), .ref (eB E + 297), .ref (eB E + 298), .ref (eB E + 299), .ref (eB E + 300), .ref (eB E + 301), .ref (eB E + 302), .int 0, .ref (eB E + 303), .null, .null, .null, .int 0, .int 0, .int 0, .int 0, .int 0, .int 0, .int 0, .null, .null, .int 0, .int 0, .int 0, .int 0, .int 0, .null, .null, .int 0])) μ) (fun i _ => (congrFun mF_put i).symm) ?_
  refine gb_aload_n (i := 0) C dX4_init_73 rfl 0 rfl ?_
  refine gb_bipush (v := 30) C dX4_init_74 (by decide) ?_
  refine gb_newa (atype := .long) (ty := .long) (a0 := (30, .inr (.inl (fun _ => 0)))) (v := 30) (N := 30) C wk_1_142 rfl 2 rfl (fun _ _ h => ra_l h) (fun _ => rfl) (by decide) (by decide) (Nat.le_of_ble_eq_true rfl) (by omega) (Or.inl (by omega)) ⟨(Nat.le_of_ble_eq_true rfl), (Nat.le_of_ble_eq_true rfl)⟩ dX4_init_76 ?_
  refine gb_F (F' := mF E (.inr (8, [.int 0, .ref (eB E + 296), .ref (eB E + 297), .ref (eB E + 298), .ref (eB E + 299), .ref (eB E + 300), .ref (eB E + 301), .ref (eB E + 302), .int 0, .ref (eB E + 303), .null, .null, .null, .int 0, .int 0, .int 0, .int 0, .int 0, .int 0, .int 0, .null, .null, .int 0, .int 0, .int 0, .int 0, .int 0, .null, .null, .int 0])) μ) (mF_push hμ (by decide) (by decide) (fw_l (q := 304) (N := 30) (by unfold NS; decide) (by decide +kernel) (by decide +kernel))) ?_
  refine gb_k (k' := 9) (sl' := 6953) rfl rfl ?_
  refine gb_putF (ci := 8) (ty := .array .long) C hnm inG_X4 tyX4 tyX4_ok nmX4 295 (by omega) rfl rfl rfl 10 (by decide) wk_6_172 rfl rfl (by decide +kernel) rfl rfl (Nat.le_of_ble_eq_true rfl) dX4_init_78 ?_
  refine gb_F (F' := mF E (.inr (8, [.int 0, .ref (eB E + 296), .ref (eB E + 297), .ref (eB E + 298), .ref (eB E + 299), .ref (eB E + 300), .ref (eB E + 301), .ref (eB E + 302), .int 0, .ref (eB E + 303), .ref (eB E + 304), .null, .null, .int 0, .int 0, .int 0, .int 0, .int 0, .int 0, .int 0, .null, .null, .int 0, .int 0, .int 0, .int 0, .int 0, .null, .null, .int 0])) μ) (fun i _ => (congrFun mF_put i).symm) ?_
  refine gb_aload_n (i := 0) C dX4_init_81 rfl 0 rfl ?_
  refine gb_iconst (v := 2) C dX4_init_82 (by decide) ?_
  refine gb_newa (atype := .boolean) (ty := .boolean) (a0 := (2, .inl (fun _ => 0))) (v := 2) (N := 2) C wk_1_214 rfl 3 rfl (fun _ _ h => ra_z h) (fun _ => rfl) (by decide) (by decide) (Nat.le_of_ble_eq_true rfl) (by omega) (Or.inl (by omega)) ⟨(Nat.le_of_ble_eq_true rfl), (Nat.le_of_ble_eq_true rfl)⟩ dX4_init_83 ?_
  refine gb_F (F' := mF E (.inr (8, [.int 0, .ref (eB E + 296), .ref (eB E + 297), .ref (eB E + 298), .ref (eB E + 299), .ref (eB E + 300), .ref (eB E + 301), .ref (eB E + 302), .int 0, .ref (eB E + 303), .ref (eB E + 304), .null, .null, .int 0, .int 0, .int 0, .int 0, .int 0, .int 0, .int 0, .null, .null, .int 0, .int 0, .int 0, .int 0, .int 0, .null, .null, .int 0])) μ) (mF_push hμ (by decide) (by decide) (fw_z (q := 305) (N := 2) (by unfold NS; decide) (by decide +kernel) (by decide +kernel) (by decide +kernel))) ?_
  refine gb_k (k' := 10) (sl' := 6955) rfl rfl ?_
  refine gb_putF (ci := 8) (ty := .array .boolean) C hnm inG_X4 tyX4 tyX4_ok nmX4 295 (by omega) rfl rfl rfl 11 (by decide) wk_6_173 rfl rfl (by decide +kernel) rfl rfl (Nat.le_of_ble_eq_true rfl) dX4_init_85 ?_
  refine gb_F (F' := mF E (.inr (8, [.int 0, .ref (eB E + 296), .ref (eB E + 297), .ref (eB E + 298), .ref (eB E + 299), .ref (eB E + 300), .ref (eB E + 301), .ref (eB E + 302), .int 0, .ref (eB E + 303), .ref (eB E + 304), .ref (eB E + 305), .null, .int 0, .int 0, .int 0, .int 0, .int 0, .int 0, .int 0, .null, .null, .int 0, .int 0, .int 0, .int 0, .int 0, .null, .null, .int 0])) μ) (fun i _ => (congrFun mF_put i).symm) ?_
  refine gb_aload_n (i := 0) C dX4_init_88 rfl 0 rfl ?_
  refine gb_sipush (v := 900) C dX4_init_89 (by decide) ?_
  refine gb_newa (atype := .byte) (ty := .byte) (a0 := (900, .inl (fun _ => 0))) (v := 900) (N := 900) C wk_1_180 rfl 0 rfl (fun _ _ h => ra_b h) (fun _ => rfl) (by decide) (by decide) (Nat.le_of_ble_eq_true rfl) (by omega) (Or.inl (by omega)) ⟨(Nat.le_of_ble_eq_true rfl), (Nat.le_of_ble_eq_true rfl)⟩ dX4_init_92 ?_
  refine gb_F (F' := mF E (.inr (8, [.int 0, .ref (eB E + 296), .ref (eB E + 297), .ref (eB E + 298), .ref (eB E + 299), .ref (eB E + 300), .ref (eB E + 301), .ref (eB E + 302), .int 0, .ref (eB E + 303), .ref (eB E + 304), .ref (eB E + 305), .null, .int 0, .int 0, .int 0, .int 0, .int 0, .int 0, .int 0, .null, .null, .int 0, .int 0, .int 0, .int 0, .int 0, .null, .null, .int 0])) μ) (mF_push hμ (by decide) (by decide) (fw_b (q := 306) (N := 900) (by unfold NS; decide) (by decide +kernel) (by decide +kernel) (by decide +kernel))) ?_
  refine gb_k (k' := 11) (sl' := 7855) rfl rfl ?_
  refine gb_putF (ci := 8) (ty := .array .byte) C hnm inG_X4 tyX4 tyX4_ok nmX4 295 (by omega) rfl rfl rfl 12 (by decide) wk_6_174 rfl rfl (by decide +kernel) rfl rfl (Nat.le_of_ble_eq_true rfl) dX4_init_94 ?_
  refine gb_F (F' := mF E (.inr (8, [.int 0, .ref (eB E + 296), .ref (eB E + 297), .ref (eB E + 298), .ref (eB E + 299), .ref (eB E + 300), .ref (eB E + 301), .ref (eB E + 302), .int 0, .ref (eB E + 303), .ref (eB E + 304), .ref (eB E + 305), .ref (eB E + 306), .int 0, .int 0, .int 0, .int 0, .int 0, .int 0, .int 0, .null, .null, .int 0, .int 0, .int 0, .int 0, .int 0, .null, .null, .int 0])) μ) (fun i _ => (congrFun mF_put i).symm) ?_
  refine gb_aload_n (i := 0) C dX4_init_97 rfl 0 rfl ?_
  refine gb_iconst (v := -1) C dX4_init_98 (by decide) ?_
  refine gb_put (ci := 8) (ty := .int) C inG_X4 tyX4 tyX4_ok nmX4 295 (by omega) rfl rfl rfl 16 (by decide) wk_6_178 rfl rfl (by decide +kernel) rfl rfl (Nat.le_of_ble_eq_true rfl) dX4_init_99 ?_
  refine gb_F (F' := mF E (.inr (8, [.int 0, .ref (eB E + 296), .ref (eB E + 297), .ref (eB E + 298), .ref (eB E + 299), .ref (eB E + 300), .ref (eB E + 301), .ref (eB E + 302), .int 0, .ref (eB E + 303), .ref (eB E + 304), .ref (eB E + 305), .ref (eB E + 306), .int 0, .int 0, .int 0, .int (-1), .int 0, .int 0, .int 0, .null, .null, .int 0, .int 0, .int 0, .int 0, .int 0, .null, .null, .int 0])) μ) (fun i _ => (congrFun mF_put i).symm) ?_
  refine gb_aload_n (i := 0) C dX4_init_102 rfl 0 rfl ?_
  refine gb_bipush (v := 6) C dX4_init_103 (by decide) ?_
  refine gb_newa (atype := .int) (ty := .int) (a0 := (6, .inl (fun _ => 0))) (v := 6) (N := 6) C wk_1_60 rfl 1 rfl (fun _ _ h => ra_i h) (fun _ => rfl) (by decide) (by decide) (Nat.le_of_ble_eq_true rfl) (by omega) (Or.inl (by omega)) ⟨(Nat.le_of_ble_eq_true rfl), (Nat.le_of_ble_eq_true rfl)⟩ dX4_init_105 ?_
  refine gb_F (F' := mF E (.inr (8, [.int 0, .ref (eB E + 296), .ref (eB E + 297), .ref (eB E + 298), .ref (eB E + 299), .ref (eB E + 300), .ref (eB E + 301), .ref (eB E + 302), .int 0, .ref (eB E + 303), .ref (eB E + 304), .ref (eB E + 305), .ref (eB E + 306), .int 0, .int 0, .int 0, .int (-1), .int 0, .int 0, .int 0, .null, .null, .int 0, .int 0, .int 0, .int 0, .int 0, .null, .null, .int 0])) μ) (mF_push hμ (by decide) (by decide) (fw_i (q := 307) (N := 6) (by unfold NS; decide) (by decide +kernel) (by decide +kernel) (by decide +kernel))) ?_
  refine gb_k (k' := 12) (sl' := 7861) rfl rfl ?_
  refine gb_putF (ci := 8) (ty := .array .int) C hnm inG_X4 tyX4 tyX4_ok nmX4 295 (by omega) rfl rfl rfl 20 (by decide) wk_6_182 rfl rfl (by decide +kernel) rfl rfl (Nat.le_of_ble_eq_true rfl) dX4_init_107 ?_
  refine gb_F (F' := mF E (.inr (8, [.int 0, .ref (eB E + 296), .ref (eB E + 297), .ref (eB E + 298), .ref (eB E + 299), .ref (eB E + 300), .ref (eB E + 301), .ref (eB E + 302), .int 0, .ref (eB E + 303), .ref (eB E + 304), .ref (eB E + 305), .ref (eB E + 306), .int 0, .int 0, .int 0, .int (-1), .int 0, .int 0, .int 0, .ref (eB E + 307), .null, .int 0, .int 0, .int 0, .int 0, .int 0, .null, .null, .int 0])) μ) (fun i _ => (congrFun mF_put i).symm) ?_
  refine gb_aload_n (i := 0) C dX4_init_110 rfl 0 rfl ?_
  refine gb_bipush (v := 10) C dX4_init_111 (by decide) ?_
  refine gb_newa (atype := .boolean) (ty := .boolean) (a0 := (10, .inl (fun _ => 0))) (v := 10) (N := 10) C wk_1_214 rfl 3 rfl (fun _ _ h => ra_z h) (fun _ => rfl) (by decide) (by decide) (Nat.le_of_ble_eq_true rfl) (by omega) (Or.inl (by omega)) ⟨(Nat.le_of_ble_eq_true rfl), (Nat.le_of_ble_eq_true rfl)⟩ dX4_init_113 ?_
  refine gb_F (F' := mF E (.inr (8, [.int 0, .ref (eB E + 296), .ref (eB E + 297), .ref (eB E + 298), .ref (eB E + 299), .ref (eB E + 300), .ref (eB E + 301), .ref (eB E + 302), .int 0, .ref (eB E + 303), .ref (eB E + 304), .ref (eB E + 305), .ref (eB E + 306), .int 0, .int 0, .int 0, .int (-1), .int 0, .int 0, .int 0, .ref (eB E + 307), .null, .int 0, .int 0, .int 0, .int 0, .int 0, .null, .null, .int 0])) μ) (mF_push hμ (by decide) (by decide) (fw_z (q := 308) (N := 10) (by unfold NS; decide) (by decide +kernel) (by decide +kernel) (by decide +kernel))) ?_
  refine gb_k (k' := 13) (sl' := 7871) rfl rfl ?_
  refine gb_putF (ci := 8) (ty := .array .boolean) C hnm inG_X4 tyX4 tyX4_ok nmX4 295 (by omega) rfl rfl rfl 21 (by decide) wk_6_183 rfl rfl (by decide +kernel) rfl rfl (Nat.le_of_ble_eq_true rfl) dX4_init_115 ?_
  refine gb_F (F' := mF E (.inr (8, [.int 0, .ref (eB E + 296), .ref (eB E + 297), .ref (eB E + 298), .ref (eB E + 299), .ref (eB E + 300), .ref (eB E + 301), .ref (eB E + 302), .int 0, .ref (eB E + 303), .ref (eB E + 304), .ref (eB E + 305), .ref (eB E + 306), .int 0, .int 0, .int 0, .int (-1), .int 0, .int 0, .int 0, .ref (eB E + 307), .ref (eB E + 308), .int 0, .int 0, .int 0, .int 0, .int 0, .null, .null, .int 0])) μ) (fun i _ => (congrFun mF_put i).symm) ?_
  refine gb_aload_n (i := 0) C dX4_init_118 rfl 0 rfl ?_
  refine gb_iconst (v := -1) C dX4_init_119 (by decide) ?_
  refine gb_put (ci := 8) (ty := .int) C inG_X4 tyX4 tyX4_ok nmX4 295 (by omega) rfl rfl rfl 22 (by decide) wk_6_184 rfl rfl (by decide +kernel) rfl rfl (Nat.le_of_ble_eq_true rfl) dX4_init_120 ?_
  refine gb_F (F' := mF E (.inr (8, [.int 0, .ref (eB E + 296), .ref (eB E + 297), .ref (eB E + 298), .ref (eB E + 299), .ref (eB E + 300), .ref (eB E + 301), .ref (eB E + 302), .int 0, .ref (eB E + 303), .ref (eB E + 304), .ref (eB E + 305), .ref (eB E + 306), .int 0, .int 0, .int 0, .int (-1), .int 0, .int 0, .int 0, .ref (eB E + 307), .ref (eB E + 308), .int (-1), .int 0, .int 0, .int 0, .int 0, .null, .null, .int 0])) μ) (fun i _ => (congrFun mF_put i).symm) ?_
  refine gb_aload_n (i := 0) C dX4_init_123 rfl 0 rfl ?_
  refine gb_iconst (v := -1) C dX4_init_124 (by decide) ?_
  refine gb_put (ci := 8) (ty := .int) C inG_X4 tyX4 tyX4_ok nmX4 295 (by omega) rfl rfl rfl 24 (by decide) wk_6_186 rfl rfl (by decide +kernel) rfl rfl (Nat.le_of_ble_eq_true rfl) dX4_init_125 ?_
  refine gb_F (F' := mF E (.inr (8, [.int 0, .ref (eB E + 296), .ref (eB E + 297), .ref (eB E + 298), .ref (eB E + 299), .ref (eB E + 300), .ref (eB E + 301), .ref (eB E + 302), .int 0, .ref (eB E + 303), .ref (eB E + 304), .ref (eB E + 305), .ref (eB E + 306), .int 0, .int 0, .int 0, .int (-1), .int 0, .int 0, .int 0, .ref (eB E + 307), .ref (eB E + 308), .int (-1), .int 0, .int (-1), .int 0, .int 0, .null, .null, .int 0])) μ) (fun i _ => (congrFun mF_put i).symm) ?_
  refine gb_aload_n (i := 0) C dX4_init_128 rfl 0 rfl ?_
  refine gb_iconst (v := -1) C dX4_init_129 (by decide) ?_
  refine gb_put (ci := 8) (ty := .int) C inG_X4 tyX4 tyX4_ok nmX4 295 (by omega) rfl rfl rfl 26 (by decide) wk_6_188 rfl rfl (by decide +kernel) rfl rfl (Nat.le_of_ble_eq_true rfl) dX4_init_130 ?_
  refine gb_F (F' := mF E (.inr (8, [.int 0, .ref (eB E + 296), .ref (eB E + 297), .ref (eB E + 298), .ref (eB E + 299), .ref (eB E + 300), .ref (eB E + 301), .ref (eB E + 302), .int 0, .ref (eB E + 303), .ref (eB E + 304), .ref (eB E + 305), .ref (eB E + 306), .int 0, .int 0, .int 0, .int (-1), .int 0, .int 0, .int 0, .ref (eB E + 307), .ref (eB E + 308), .int (-1), .int 0, .int (-1), .int 0, .int (-1), .null, .null, .int 0])) μ) (fun i _ => (congrFun mF_put i).symm) ?_
  refine gb_aload_n (i := 0) C dX4_init_133 rfl 0 rfl ?_
  refine gb_bipush (v := 10) C dX4_init_134 (by decide) ?_
  refine gb_newa (atype := .int) (ty := .int) (a0 := (10, .inl (fun _ => 0))) (v := 10) (N := 10) C wk_1_60 rfl 1 rfl (fun _ _ h => ra_i h) (fun _ => rfl) (by decide) (by decide) (Nat.le_of_ble_eq_true rfl) (by omega) (Or.inl (by omega)) ⟨(Nat.le_of_ble_eq_true rfl), (Nat.le_of_ble_eq_true rfl)⟩ dX4_init_136 ?_
  refine gb_F (F' := mF E (.inr (8, [.int 0, .ref (eB E + 296), .ref (eB E + 297), .ref (eB E + 298), .ref (eB E + 299), .ref (eB E + 300), .ref (eB E + 301), .ref (eB E + 302), .int 0, .ref (eB E + 303), .ref (eB E + 304), .ref (eB E + 305), .ref (eB E + 306), .int 0, .int 0, .int 0, .int (-1), .int 0, .int 0, .int 0, .ref (eB E + 307), .ref (eB E + 308), .int (-1), .int 0, .int (-1), .int 0, .int (-1), .null, .null, .int 0])) μ) (mF_push hμ (by decide) (by decide) (fw_i (q := 309) (N := 10) (by unfold NS; decide) (by decide +kernel) (by decide +kernel) (by decide +kernel))) ?_
  refine gb_k (k' := 14) (sl' := 7881) rfl rfl ?_
  refine gb_putF (ci := 8) (ty := .array .int) C hnm inG_X4 tyX4 tyX4_ok nmX4 295 (by omega) rfl rfl rfl 27 (by decide) wk_6_189 rfl rfl (by decide +kernel) rfl rfl (Nat.le_of_ble_eq_true rfl) dX4_init_138 ?_
  refine gb_F (F' := mF E (.inr (8, [.int 0, .ref (eB E + 296), .ref (eB E + 297), .ref (eB E + 298), .ref (eB E + 299), .ref (eB E + 300), .ref (eB E + 301), .ref (eB E + 302), .int 0, .ref (eB E + 303), .ref (eB E + 304), .ref (eB E + 305), .ref (eB E + 306), .int 0, .int 0, .int 0, .int (-1), .int 0, .int 0, .int 0, .ref (eB E + 307), .ref (eB E + 308), .int (-1), .int 0, .int (-1), .int 0, .int (-1), .ref (eB E + 309), .null, .int 0])) μ) (fun i _ => (congrFun mF_put i).symm) ?_
  refine gb_aload_n (i := 0) C dX4_init_141 rfl 0 rfl ?_
  refine gb_sipush (v := 400) C dX4_init_142 (by decide) ?_
  refine gb_newa (atype := .int) (ty := .int) (a0 := (400, .inl (fun _ => 0))) (v := 400) (N := 400) C wk_1_60 rfl 1 rfl (fun _ _ h => ra_i h) (fun _ => rfl) (by decide) (by decide) (Nat.le_of_ble_eq_true rfl) (by omega) (Or.inl (by omega)) ⟨(Nat.le_of_ble_eq_true rfl), (Nat.le_of_ble_eq_true rfl)⟩ dX4_init_145 ?_
  refine gb_F (F' := mF E (.inr (8, [.int 0, .ref (eB E + 296), .ref (eB E + 297), .ref (eB E + 298), .ref (eB E + 299), .ref (eB E + 300), .ref (eB E + 301), .ref (eB E + 302), .int 0, .ref (eB E + 303), .ref (eB E + 304), .ref (eB E + 305), .ref (eB E + 306), .int 0, .int 0, .int 0, .int (-1), .int 0, .int 0, .int 0, .ref (eB E + 307), .ref (eB E + 308), .int (-1), .int 0, .int (-1), .int 0, .int (-1), .ref (eB E + 309), .null, .int 0])) μ) (mF_push hμ (by decide) (by decide) (fw_i (q := 310) (N := 400) (by unfold NS; decide) (by decide +kernel) (by decide +kernel) (by decide +kernel))) ?_
  refine gb_k (k' := 15) (sl' := 8281) rfl rfl ?_
  refine gb_putF (ci := 8) (ty := .array .int) C hnm inG_X4 tyX4 tyX4_ok nmX4 295 (by omega) rfl rfl rfl 28 (by decide) wk_6_190 rfl rfl (by decide +kernel) rfl rfl (Nat.le_of_ble_eq_true rfl) dX4_init_147 ?_
  refine gb_F (F' := mF E (.inr (8, [.int 0, .ref (eB E + 296), .ref (eB E + 297), .ref (eB E + 298), .ref (eB E + 299), .ref (eB E + 300), .ref (eB E + 301), .ref (eB E + 302), .int 0, .ref (eB E + 303), .ref (eB E + 304), .ref (eB E + 305), .ref (eB E + 306), .int 0, .int 0, .int 0, .int (-1), .int 0, .int 0, .int 0, .ref (eB E + 307), .ref (eB E + 308), .int (-1), .int 0, .int (-1), .int 0, .int (-1), .ref (eB E + 309), .ref (eB E + 310), .int 0])) μ) (fun i _ => (congrFun mF_put i).symm) ?_
  refine gb_aload_n (i := 0) C dX4_init_150 rfl 0 rfl ?_
  refine gb_gq (n := 311) (μ := μ) (fun i hi => ?_) (by decide) hm ?_
  · by_cases e0 : i = 295
    · subst e0
      exact fw_295 hμ
    · exact (if_neg e0).symm
  refine gq_V (As := []) (rest := []) (j := 5) C.wN (c_X4_clears (E := wN E 311) (Nat.le_refl 311) hcl) (show 295 < 311 by decide) (by decide) (by decide) rfl wk_6_154 wk_6_156 ws_X4_clears wk_1_9 wk_6_157 hd_X4_clears ⟨(Nat.le_of_ble_eq_true rfl), (Nat.le_of_ble_eq_true rfl)⟩ (Nat.le_of_ble_eq_true rfl) ⟨(Nat.le_of_ble_eq_true rfl), (Nat.le_of_ble_eq_true rfl)⟩ dX4_init_151 rfl rfl ?_
  refine gq_aload_n (i := 0) C.wN dX4_init_154 rfl 0 rfl ?_
  refine gq_V (As := []) (rest := []) (j := 5) C.wN (c_X4_begins (E := wN E 311) (Nat.le_refl 311) hbe) (show 295 < 311 by decide) (by decide) (by decide) rfl wk_6_158 wk_6_160 ws_X4_begins wk_1_9 wk_6_161 hd_X4_begins ⟨(Nat.le_of_ble_eq_true rfl), (Nat.le_of_ble_eq_true rfl)⟩ (Nat.le_of_ble_eq_true rfl) ⟨(Nat.le_of_ble_eq_true rfl), (Nat.le_of_ble_eq_true rfl)⟩ dX4_init_155 rfl rfl ?_
  exact gq_gb hm2 (gb_vret C hr dX4_init_158 (Nat.le_of_ble_eq_true rfl) (Nat.le_of_ble_eq_true rfl))
