/-! ===== ensureCapacityInternal ===== -/
theorem kd_4 {i : Nat} (h : kd i = 4) : i = 295 := by
  by_cases e : i < 296
  · exact (show ∀ i, i < 296 → kd i = 4 → i = 295 by decide +kernel) i e h
  · exfalso
    unfold kd at h
    rw [List.getD_eq_getElem?_getD, List.getElem?_eq_none (by rw [qShp_len]; omega)] at h
    exact absurd h (by decide)
theorem cn_n4 {E : Ev} {μ : Mm} {a q i : Nat} {f : Nat → Int32} (h : i ≠ 295) : cn E (uN μ a q f) i = cn E μ i := by
  have h4 : ¬ kd i = 4 := fun z => h (kd_4 z)
  unfold cn cnB
  simp only [h4, if_false]
  rfl
theorem wl_len {E : Ev} {μ μ' : Mm} : (wl E μ').length = (wl E μ).length := by
  have h : (tx E μ').length = (tx E μ).length := by unfold tx; split <;> rfl
  unfold wl va_pl
  simp [h]
theorem wl_s {E : Ev} {μ : Mm} {j : Nat} (h : 295 < eN E) : (wl E μ)[j + 1]? = (eL E)[j]?.map (fun b => (b, cn E μ (b - eB E))) := by
  unfold wl va_pl
  rw [tx_1 h]
  show ((eL E).map _)[j]? = _
  exact List.getElem?_map
/-- the builder's array is another one -/
theorem hd_new {E : Ev} {μ : Mm} {a q k : Nat} {f : Nat → Int32} {H : Heap} (hN : 295 < eN E) (hD0 : va_D (eA E) (XW E μ a q f)) (hk : (wl E μ)[k]? = some (eB E + 295, cn E μ 295))
  (hP : va_P E.1 vwCl ((XW E μ a q f).set k (eB E + 295, .inr (1, [.ref a, .int (μ.1 295 1), .int (μ.1 295 2), .int (μ.1 295 3)]))) H) (hD : va_D (eA E) ((XW E μ a q f).set k (eB E + 295, .inr (1, [.ref a, .int (μ.1 295 1), .int (μ.1 295 2), .int (μ.1 295 3)])))) : Hd E (uN μ a q f) H := by
  have hkl : k < (wl E μ).length := (List.getElem?_eq_some_iff.mp hk).1
  have hkX : (XW E μ a q f)[k]? = some (eB E + 295, cn E μ 295) := (xw_l hkl).trans hk
  have hl : (XW E μ a q f).length = (wl E μ).length + 1 := by unfold XW; simp
  have key : ∀ j x, (wl E (uN μ a q f))[j]? = some x → ((XW E μ a q f).set k (eB E + 295, .inr (1, [.ref a, .int (μ.1 295 1), .int (μ.1 295 2), .int (μ.1 295 3)])))[if j = 0 then (wl E μ).length else j]? = some x := by
    intro j x hx
    cases j with
    | zero =>
      rw [if_pos rfl, List.getElem?_set_ne (by omega), xw_n]
      rw [wl_b0 hN] at hx
      exact hx
    | succ j =>
      rw [if_neg (Nat.succ_ne_zero j)]
      have hjl : j + 1 < (wl E μ).length := by
        have := (List.getElem?_eq_some_iff.mp hx).1
        rw [wl_len (μ := μ)] at this
        exact this
      rw [wl_s hN] at hx
      obtain ⟨b, hb, rfl⟩ := Option.map_eq_some_iff.mp hx
      have hbm : b ∈ eL E := List.mem_of_getElem? hb
      obtain ⟨i, hi, hi2, rfl⟩ := eL_ge hbm
      have hX : (XW E μ a q f)[j + 1]? = some (eB E + i, cn E μ i) := by
        rw [xw_l hjl, wl_s hN, hb]
        show some (eB E + i, cn E μ (eB E + i - eB E)) = _
        rw [Nat.add_sub_cancel_left]
      rw [Nat.add_sub_cancel_left]
      by_cases e : j + 1 = k
      · have e2 : i = 295 := by
          rw [e, hkX] at hX
          have := congrArg Prod.fst (Option.some.inj hX)
          have h3 : eB E + 295 = eB E + i := this
          omega
        rw [e, e2, List.getElem?_set_self (by omega)]
        rw [cn_4 kd_295]
        rfl
      · rw [List.getElem?_set_ne (fun z => e z.symm), hX]
        have e2 : i ≠ 295 := fun z => e (hD0.1 _ _ _ _ hX hkX (by rw [z]))
        rw [cn_n4 e2]
  refine ⟨fun j x hx => hP _ x (key j x hx), fun i j p q' hp hq he => ?_, fun j x hx => hD.2 _ x (key j x hx)⟩
  have h1 := key i p hp
  have h2 := key j q' hq
  have h3 := hD.1 _ _ _ _ h1 h2 he
  have b1 := (List.getElem?_eq_some_iff.mp hp).1
  have b2 := (List.getElem?_eq_some_iff.mp hq).1
  rw [wl_len (μ := μ)] at b1 b2
  by_cases e1 : i = 0
  · by_cases e2 : j = 0
    · omega
    · rw [if_pos e1, if_neg e2] at h3
      omega
  · by_cases e2 : j = 0
    · rw [if_neg e1, if_pos e2] at h3
      omega
    · rw [if_neg e1, if_neg e2] at h3
      exact h3
def EnsP (q : Nat) (μ μ' : Mm) : Prop := (q ≤ μ.2.2.2.1 ∧ μ' = μ) ∨ (μ.2.2.2.1 < q ∧ ∃ a f, μ' = uN μ a (capG q μ.2.2.2.1) f ∧ ((∀ k, k < μ.2.2.2.1 → f k = μ.2.2.2.2 k) ∧ Fitb f))
abbrev rm_ens (q m : Nat) : Room := { frames := 3, cells := if q ≤ m then 0 else 1, slots := if q ≤ m then 0 else capG q m, locals := 130 }
section SBE
variable {l : Launch} {E : Ev} {μ : Mm}
set_option maxHeartbeats 4000000 in
set_option maxRecDepth 100000 in
theorem c_J5_ensure {q : Nat} (hN : 295 < eN E) (hU : (eU E).1 = 0) (h1 : μ.1 295 1 = 0) (hq : q < 2 ^ 24) (hm : μ.2.2.2.1 < 2 ^ 24) (hf : Fitb μ.2.2.2.2) : CtS l E yJ5_ensureCapacityInternal_d00df (Cond.code yJ5_ensureCapacityInternal_d00df cJ5_ensureCapacityInternal_d00df 3 none :: GP) (rm_ens q μ.2.2.2.1) [.ref (eB E + 295), .int (nI q)] μ (fun o μ' => o = none ∧ EnsP q μ μ') := by
  refine ctp_of (by decide) (Nat.le_of_ble_eq_true rfl) (fun p e s m args below meth c C hx hr => ?_)
  have C : Cq E p s m args meth c cJ5_ensureCapacityInternal_d00df 3 RJ5 := C
  have hxx : p.tables.exec = Jvm.exec := C.1
  refine gq_lv (lv' := [(0, .ref (eB E + 295)), (1, .int (nI q))]) rfl ?_
  refine gq_aload_n (i := 0) C dJ5_ensureCapacityInternal_d00df_0 rfl 0 rfl ?_
  refine gq_get4 C hN kd_295 0 (by decide) wk_3_43 rfl dJ5_ensureCapacityInternal_d00df_1 ?_
  refine gq_sblen (v := nI μ.2.2.2.1) C hN rfl dJ5_ensureCapacityInternal_d00df_4 ?_
  refine gq_aload_n (i := 0) C dJ5_ensureCapacityInternal_d00df_5 rfl 0 rfl ?_
  refine gq_get4 C hN kd_295 1 (by decide) wk_3_44 rfl dJ5_ensureCapacityInternal_d00df_6 ?_
  rw [h1]
  refine gq_ishr C dJ5_ensureCapacityInternal_d00df_9 ?_
  rw [shr_0]
  refine gq_istore_n (i := 2) C dJ5_ensureCapacityInternal_d00df_10 rfl (by decide) rfl ?_
  refine gq_iload_n (i := 1) C dJ5_ensureCapacityInternal_d00df_11 rfl 2 rfl ?_
  refine gq_iload_n (i := 2) C dJ5_ensureCapacityInternal_d00df_12 rfl 0 rfl ?_
  refine gq_isub C dJ5_ensureCapacityInternal_d00df_13 ?_
  have hle : nI q - nI μ.2.2.2.1 ≤ 0 ↔ q ≤ μ.2.2.2.1 := by
    rw [Int32.le_iff_toInt_le, pk_sub_toInt (by omega) (by omega), Int32.toInt_zero]
    omega
  by_cases e1 : q ≤ μ.2.2.2.1
  · refine gq_if_le_t (tgt := 38) C dJ5_ensureCapacityInternal_d00df_14 (by decide) (hle.mpr e1) ?_
    refine gs_end (P := fun o μ' => o = none ∧ EnsP q μ μ') (o := none) (μ' := μ) ⟨rfl, Or.inl ⟨e1, rfl⟩⟩ ?_
    exact gq_vret C hr dJ5_ensureCapacityInternal_d00df_38 (Nat.zero_le _) (Nat.zero_le _)
  · have hc1 : (rm_ens q μ.2.2.2.1).cells = 1 := if_neg e1
    have hs1 : (rm_ens q μ.2.2.2.1).slots = capG q μ.2.2.2.1 := if_neg e1
    have hcg : μ.2.2.2.1 < capG q μ.2.2.2.1 ∧ capG q μ.2.2.2.1 < 2 ^ 27 := by unfold capG; split <;> omega
    refine gq_if_le_f (tgt := 38) C dJ5_ensureCapacityInternal_d00df_14 (by decide) (fun z => e1 (hle.mp z)) ?_
    refine gq_aload_n (i := 0) C dJ5_ensureCapacityInternal_d00df_17 rfl 1 rfl ?_
    refine gq_aload_n (i := 0) C dJ5_ensureCapacityInternal_d00df_18 rfl 1 rfl ?_
    refine gq_get4 C hN kd_295 0 (by decide) wk_3_43 rfl dJ5_ensureCapacityInternal_d00df_19 ?_
    refine gq_aload_n (i := 0) C dJ5_ensureCapacityInternal_d00df_22 rfl 1 rfl ?_
    refine gq_iload_n (i := 1) C dJ5_ensureCapacityInternal_d00df_23 rfl 2 rfl ?_
    refine gq_call (run_VU (As := [.int (nI q)]) (rest := [.ref μ.2.2.1, .ref (eB E + 295)]) (j := 4) C hx (c_J5_newCapacity_0f7a4 hN h1 (by omega) (by omega)) (fun w h => gp_w h) hN kd_295 (by decide) rfl wk_3_134 wk_5_29 gp_newc wk_3_136 wk_1_7 wk_3_137 hb_newc ⟨Nat.le_of_ble_eq_true rfl, Nat.le_of_ble_eq_true rfl⟩ (Nat.le_of_ble_eq_true rfl) ⟨Nat.zero_le _, Nat.zero_le _⟩ dJ5_ensureCapacityInternal_d00df_24 rfl) rfl ?_
    refine gq_aload_n (i := 0) C dJ5_ensureCapacityInternal_d00df_27 rfl 1 rfl ?_
    refine gq_get4 C hN kd_295 1 (by decide) wk_3_44 rfl dJ5_ensureCapacityInternal_d00df_28 ?_
    rw [h1]
    refine gq_ishl C dJ5_ensureCapacityInternal_d00df_31 ?_
    rw [shl_0]
    refine gq_callC (run_SX (As := [.ref μ.2.2.1, .int (nI (capG q μ.2.2.2.1))]) (rest := [.ref (eB E + 295)]) (rm := { frames := 1, cells := 1, slots := capG q μ.2.2.2.1, locals := 80 }) C (c_J7_copyOf_9075b hN hU hcg.2 hcg.1 hf) wk_3_146 wk_3_147 wk_1_13 wk_3_148 ht_copy ⟨Nat.le_of_ble_eq_true rfl, Nat.le_of_ble_eq_true rfl⟩ (Nat.le_of_ble_eq_true rfl) ⟨by rw [hc1]; exact Nat.le_refl _, by rw [hs1]; show 0 + 0 + capG q μ.2.2.2.1 ≤ _; omega⟩ dJ5_ensureCapacityInternal_d00df_32 rfl) (fun b f hf1 hf2 H locs ls hH hS hl => ?_)
    obtain ⟨k0, hk0⟩ := wl_get E μ hN (by decide)
    have hkl : k0 < (wl E μ).length := (List.getElem?_eq_some_iff.mp hk0).1
    have hkX : (XW E μ b (capG q μ.2.2.2.1) f)[k0]? = some (eB E + 295, .inr (1, [.ref μ.2.2.1, .int (μ.1 295 1), .int (μ.1 295 2), .int (μ.1 295 3)])) := by
      rw [xw_l hkl, hk0, cn_4 kd_295]
    refine va_put (ci := 1) (C := RJ4) (T := TJ4) (N := 4) (ty := .array .byte) C.1 C.2.1 C.2.2.2.2.1 inG_J4 tyJ4 tyJ4_ok nmJ4 C.2.2.2.1 C.2.2.2.2.2.2.1 hH.1 hH.2 hS k0 hkX rfl 0 (by decide) (C.2.2.2.2.1 _ wk_3_43) (fun _ h => h) rfl (by decide +kernel) rfl rfl (Nat.le_of_ble_eq_true rfl) dJ5_ensureCapacityInternal_d00df_35 (fun H1 locs1 hP hD hS1 => ?_)
    have hN2 : Hd E (uN μ b (capG q μ.2.2.2.1) f) H1 := hd_new hN hH.2 hk0 hP hD
    refine gs_end (P := fun o μ' => o = none ∧ EnsP q μ μ') (o := none) (μ := uN μ b (capG q μ.2.2.2.1) f) (μ' := uN μ b (capG q μ.2.2.2.1) f) (lv := [(2, .int (nI μ.2.2.2.1)), (0, .ref (eB E + 295)), (1, .int (nI q))]) ⟨rfl, Or.inr ⟨by omega, b, f, rfl, hf1, hf2⟩⟩ ?_ H1 locs1 ls hN2 hS1 hl
    exact gq_vret C hr dJ5_ensureCapacityInternal_d00df_38 (by rw [hc1]; exact Nat.le_refl _) (by rw [hs1]; show 0 + 0 + capG q μ.2.2.2.1 ≤ _; omega)
end SBE

