theorem wk_1_27 : Cond.classLink "WaterExchangeLaw" (8 : Nat) "WaterExchange" ∈ GW := gw_1 (List.mem_of_getElem? (i := 27) rfl) rfl
theorem wk_1_28 : Cond.instantiable "WaterExchange" (9 : Nat) ∈ GW := gw_1 (List.mem_of_getElem? (i := 28) rfl) rfl
theorem wk_1_29 : Cond.methodLink "WaterExchangeLaw" (127 : Nat) ({ cls := "WaterExchange", name := "<init>", desc := "()V" } : MethodName) ∈ GW := gw_1 (List.mem_of_getElem? (i := 29) rfl) rfl
theorem wk_1_30 : Cond.instanceMethod ({ cls := "WaterExchange", name := "<init>", desc := "()V" } : MethodName) ∈ GW := gw_1 (List.mem_of_getElem? (i := 30) rfl) rfl
theorem wk_1_31 : Cond.code ({ cls := "WaterExchange", name := "<init>", desc := "()V" } : MethodName) prog_1_method_1_code (2 : Nat) (Option.none : Option Jvm.ClassFile.FieldType) ∈ GW := gw_1 (List.mem_of_getElem? (i := 31) rfl) rfl
theorem wk_6_148 : Cond.classLink "WaterExchangeLaw" (128 : Nat) "WaterExchangeModel" ∈ GW := gw_6 (List.mem_of_getElem? (i := 148) rfl) rfl
theorem wk_6_149 : Cond.instantiable "WaterExchangeModel" (30 : Nat) ∈ GW := gw_6 (List.mem_of_getElem? (i := 149) rfl) rfl
theorem wk_6_150 : Cond.methodLink "WaterExchangeLaw" (130 : Nat) ({ cls := "WaterExchangeModel", name := "<init>", desc := "()V" } : MethodName) ∈ GW := gw_6 (List.mem_of_getElem? (i := 150) rfl) rfl
theorem wk_6_151 : Cond.instanceMethod ({ cls := "WaterExchangeModel", name := "<init>", desc := "()V" } : MethodName) ∈ GW := gw_6 (List.mem_of_getElem? (i := 151) rfl) rfl
theorem wk_6_152 : Cond.code ({ cls := "WaterExchangeModel", name := "<init>", desc := "()V" } : MethodName) prog_6_method_1_code (1 : Nat) (Option.none : Option Jvm.ClassFile.FieldType) ∈ GW := gw_6 (List.mem_of_getElem? (i := 152) rfl) rfl
/-! ===== the law's loop, its start ===== -/
section LWL
variable {E : Ev} {p : Program} {l : Launch} {e : Env} {s : State} {m : MethodId} {args : Array Value} {below : List Frame} {meth : Method} {c : Code} {k n j : Nat} {Q : State → Prop} {μ : Mm} {b L : Nat} {xs : Nat → Int32} {i : Int32}
set_option maxHeartbeats 4000000 in
set_option maxRecDepth 100000 in
theorem law_sw (C : Cq E p s m args meth c cL_law 9 RL) (X : Sx E s b L xs) (hx : Px args s) (hl9 : l.stackTraces = false) (hN : 312 ≤ eN E) (h : Iv j μ) (hj : j < 512) (hi : ∀ v, v < 7 → vp_in (i + nI v) L) (hK : k ≤ 500000) (hS : n ≤ 6000000) {v : Int32} (kk : ∀ μ', Iv (j + 1) μ' → Gq E p l e room_1 s m args below meth c (k + 128) (n + 4096) 9 Q 2921 (lvL E b i) [] μ') : Gq E p l e room_1 s m args below meth c k n 9 Q 40 (lvL E b i) [.int v] μ := by
  by_cases h1 : v.toInt < 0 ∨ 56 < v.toInt
  · exact gq_tableOut (tgt := 2921) C dL_law_40 h1 (by decide) (gq_widen (Nat.le_add_right _ _) (Nat.le_add_right _ _) (kk μ (h.mono hj)))
  · obtain ⟨y, hy, rfl⟩ := i32_pos (p := v) (fun z => h1 (Or.inl (by
      rw [Int32.lt_iff_toInt_lt] at z
      exact z)))
    rw [nI_toInt hy] at h1
    have hy2 : y < 57 := by omega
    clear h1 hy
    rcases (show y = 0 ∨ y = 1 ∨ y = 2 ∨ y = 3 ∨ y = 4 ∨ y = 5 ∨ y = 6 ∨ y = 7 ∨ y = 8 ∨ y = 9 ∨ y = 10 ∨ y = 11 ∨ y = 12 ∨ y = 13 ∨ y = 14 ∨ y = 15 ∨ y = 16 ∨ y = 17 ∨ y = 18 ∨ y = 19 ∨ y = 20 ∨ y = 21 ∨ y = 22 ∨ y = 23 ∨ y = 24 ∨ y = 25 ∨ y = 26 ∨ y = 27 ∨ y = 28 ∨ y = 29 ∨ y = 30 ∨ y = 31 ∨ y = 32 ∨ y = 33 ∨ y = 34 ∨ y = 35 ∨ y = 36 ∨ y = 37 ∨ y = 38 ∨ y = 39 ∨ y = 40 ∨ y = 41 ∨ y = 42 ∨ y = 43 ∨ y = 44 ∨ y = 45 ∨ y = 46 ∨ y = 47 ∨ y = 48 ∨ y = 49 ∨ y = 50 ∨ y = 51 ∨ y = 52 ∨ y = 53 ∨ y = 54 ∨ y = 55 ∨ y = 56 by omega) with rfl | rfl | rfl | rfl | rfl | rfl | rfl | rfl | rfl | rfl | rfl | rfl | rfl | rfl | rfl | rfl | rfl | rfl | rfl | rfl | rfl | rfl | rfl | rfl | rfl | rfl | rfl | rfl | rfl | rfl | rfl | rfl | rfl | rfl | rfl | rfl | rfl | rfl | rfl | rfl | rfl | rfl | rfl | rfl | rfl | rfl | rfl | rfl | rfl | rfl | rfl | rfl | rfl | rfl | rfl | rfl | rfl
    · exact gq_tableIn (tgt := 284) C dL_law_40 (by decide) (by decide) rfl (by decide) (cs_0 C X hl9 hN h hj hi hK hS kk)
    · exact gq_tableIn (tgt := 357) C dL_law_40 (by decide) (by decide) rfl (by decide) (cs_1 C X hl9 hN h hj hi hK hS kk)
    · exact gq_tableIn (tgt := 382) C dL_law_40 (by decide) (by decide) rfl (by decide) (cs_2 C X hl9 hN h hj hi hK hS kk)
    · exact gq_tableIn (tgt := 426) C dL_law_40 (by decide) (by decide) rfl (by decide) (cs_3 C X hl9 hN h hj hi hK hS kk)
    · exact gq_tableIn (tgt := 439) C dL_law_40 (by decide) (by decide) rfl (by decide) (cs_4 C X hl9 hN h hj hi hK hS kk)
    · exact gq_tableIn (tgt := 452) C dL_law_40 (by decide) (by decide) rfl (by decide) (cs_5 C X hl9 hN h hj hi hK hS kk)
    · exact gq_tableIn (tgt := 508) C dL_law_40 (by decide) (by decide) rfl (by decide) (cs_6 C X hl9 hN h hj hi hK hS kk)
    · exact gq_tableIn (tgt := 564) C dL_law_40 (by decide) (by decide) rfl (by decide) (cs_7 C X hl9 hN h hj hi hK hS kk)
    · exact gq_tableIn (tgt := 620) C dL_law_40 (by decide) (by decide) rfl (by decide) (cs_8 C X hl9 hN h hj hi hK hS kk)
    · exact gq_tableIn (tgt := 688) C dL_law_40 (by decide) (by decide) rfl (by decide) (cs_9 C X hl9 hN h hj hi hK hS kk)
    · exact gq_tableIn (tgt := 744) C dL_law_40 (by decide) (by decide) rfl (by decide) (cs_10 C X hl9 hN h hj hi hK hS kk)
    · exact gq_tableIn (tgt := 799) C dL_law_40 (by decide) (by decide) rfl (by decide) (cs_11 C X hl9 hN h hj hi hK hS kk)
    · exact gq_tableIn (tgt := 855) C dL_law_40 (by decide) (by decide) rfl (by decide) (cs_12 C X hl9 hN h hj hi hK hS kk)
    · exact gq_tableIn (tgt := 923) C dL_law_40 (by decide) (by decide) rfl (by decide) (cs_13 C X hl9 hN h hj hi hK hS kk)
    · exact gq_tableIn (tgt := 948) C dL_law_40 (by decide) (by decide) rfl (by decide) (cs_14 C X hl9 hN h hj hi hK hS kk)
    · exact gq_tableIn (tgt := 1016) C dL_law_40 (by decide) (by decide) rfl (by decide) (cs_15 C X hl9 hN h hj hi hK hS kk)
    · exact gq_tableIn (tgt := 1084) C dL_law_40 (by decide) (by decide) rfl (by decide) (cs_16 C X hl9 hN h hj hi hK hS kk)
    · exact gq_tableIn (tgt := 1097) C dL_law_40 (by decide) (by decide) rfl (by decide) (cs_17 C X hl9 hN h hj hi hK hS kk)
    · exact gq_tableIn (tgt := 1165) C dL_law_40 (by decide) (by decide) rfl (by decide) (cs_18 C X hl9 hN h hj hi hK hS kk)
    · exact gq_tableIn (tgt := 1233) C dL_law_40 (by decide) (by decide) rfl (by decide) (cs_19 C X hl9 hN h hj hi hK hS kk)
    · exact gq_tableIn (tgt := 1246) C dL_law_40 (by decide) (by decide) rfl (by decide) (cs_20 C X hl9 hN h hj hi hK hS kk)
    · exact gq_tableIn (tgt := 1259) C dL_law_40 (by decide) (by decide) rfl (by decide) (cs_21 C X hl9 hN h hj hi hK hS kk)
    · exact gq_tableIn (tgt := 1300) C dL_law_40 (by decide) (by decide) rfl (by decide) (cs_22 C X hl9 hN h hj hi hK hS kk)
    · exact gq_tableIn (tgt := 1313) C dL_law_40 (by decide) (by decide) rfl (by decide) (cs_23 C X hl9 hN h hj hi hK hS kk)
    · exact gq_tableIn (tgt := 1326) C dL_law_40 (by decide) (by decide) rfl (by decide) (cs_24 C X hl9 hN h hj hi hK hS kk)
    · exact gq_tableIn (tgt := 1394) C dL_law_40 (by decide) (by decide) rfl (by decide) (cs_25 C X hl9 hN h hj hi hK hS kk)
    · exact gq_tableIn (tgt := 1435) C dL_law_40 (by decide) (by decide) rfl (by decide) (cs_26 C X hl9 hN h hj hi hK hS kk)
    · exact gq_tableIn (tgt := 1491) C dL_law_40 (by decide) (by decide) rfl (by decide) (cs_27 C X hl9 hN h hj hi hK hS kk)
    · exact gq_tableIn (tgt := 1546) C dL_law_40 (by decide) (by decide) rfl (by decide) (cs_28 C X hl9 hN h hj hi hK hS kk)
    · exact gq_tableIn (tgt := 1559) C dL_law_40 (by decide) (by decide) rfl (by decide) (cs_29 C X hl9 hN h hj hi hK hS kk)
    · exact gq_tableIn (tgt := 1572) C dL_law_40 (by decide) (by decide) rfl (by decide) (cs_30 C X hl9 hN h hj hi hK hS kk)
    · exact gq_tableIn (tgt := 1585) C dL_law_40 (by decide) (by decide) rfl (by decide) (cs_31 C X hl9 hN h hj hi hK hS kk)
    · exact gq_tableIn (tgt := 1598) C dL_law_40 (by decide) (by decide) rfl (by decide) (cs_32 C X hl9 hN h hj hi hK hS kk)
    · exact gq_tableIn (tgt := 1611) C dL_law_40 (by decide) (by decide) rfl (by decide) (cs_33 C X hl9 hN h hj hi hK hS kk)
    · exact gq_tableIn (tgt := 1679) C dL_law_40 (by decide) (by decide) rfl (by decide) (cs_34 C X hl9 hN h hj hi hK hS kk)
    · exact gq_tableIn (tgt := 1747) C dL_law_40 (by decide) (by decide) rfl (by decide) (cs_35 C X hl9 hN h hj hi hK hS kk)
    · exact gq_tableIn (tgt := 1814) C dL_law_40 (by decide) (by decide) rfl (by decide) (cs_36 C X hl9 hN h hj hi hK hS kk)
    · exact gq_tableIn (tgt := 1870) C dL_law_40 (by decide) (by decide) rfl (by decide) (cs_37 C X hl9 hN h hj hi hK hS kk)
    · exact gq_tableIn (tgt := 1883) C dL_law_40 (by decide) (by decide) rfl (by decide) (cs_38 C X hl9 hN h hj hi hK hS kk)
    · exact gq_tableIn (tgt := 1939) C dL_law_40 (by decide) (by decide) rfl (by decide) (cs_39 C X hl9 hN h hj hi hK hS kk)
    · exact gq_tableIn (tgt := 1995) C dL_law_40 (by decide) (by decide) rfl (by decide) (cs_40 C X hl9 hN h hj hi hK hS kk)
    · exact gq_tableIn (tgt := 2075) C dL_law_40 (by decide) (by decide) rfl (by decide) (cs_41 C X hl9 hN h hj hi hK hS kk)
    · exact gq_tableIn (tgt := 2131) C dL_law_40 (by decide) (by decide) rfl (by decide) (cs_42 C X hl9 hN h hj hi hK hS kk)
    · exact gq_tableIn (tgt := 2187) C dL_law_40 (by decide) (by decide) rfl (by decide) (cs_43 C X hl9 hN h hj hi hK hS kk)
    · exact gq_tableIn (tgt := 2305) C dL_law_40 (by decide) (by decide) rfl (by decide) (cs_44 C X hl9 hN h hj hi hK hS kk)
    · exact gq_tableIn (tgt := 2361) C dL_law_40 (by decide) (by decide) rfl (by decide) (cs_45 C X hl9 hN h hj hi hK hS kk)
    · exact gq_tableIn (tgt := 2441) C dL_law_40 (by decide) (by decide) rfl (by decide) (cs_46 C X hl9 hN h hj hi hK hS kk)
    · exact gq_tableIn (tgt := 2509) C dL_law_40 (by decide) (by decide) rfl (by decide) (cs_47 C X hl9 hN h hj hi hK hS kk)
    · exact gq_tableIn (tgt := 2577) C dL_law_40 (by decide) (by decide) rfl (by decide) (cs_48 C X hl9 hN h hj hi hK hS kk)
    · exact gq_tableIn (tgt := 2657) C dL_law_40 (by decide) (by decide) rfl (by decide) (cs_49 C X hl9 hN h hj hi hK hS kk)
    · exact gq_tableIn (tgt := 2725) C dL_law_40 (by decide) (by decide) rfl (by decide) (cs_50 C X hl9 hN h hj hi hK hS kk)
    · exact gq_tableIn (tgt := 2738) C dL_law_40 (by decide) (by decide) rfl (by decide) (cs_51 C X hl9 hN h hj hi hK hS kk)
    · exact gq_tableIn (tgt := 2751) C dL_law_40 (by decide) (by decide) rfl (by decide) (cs_52 C X hl9 hN h hj hi hK hS kk)
    · exact gq_tableIn (tgt := 2814) C dL_law_40 (by decide) (by decide) rfl (by decide) (cs_53 C X hl9 hN h hj hi hK hS kk)
    · exact gq_tableIn (tgt := 2870) C dL_law_40 (by decide) (by decide) rfl (by decide) (cs_54 C X hx hl9 hN h hj hi hK hS kk)
    · exact gq_tableIn (tgt := 2883) C dL_law_40 (by decide) (by decide) rfl (by decide) (cs_55 C X hx hl9 hN h hj hi hK hS kk)
    · exact gq_tableIn (tgt := 2896) C dL_law_40 (by decide) (by decide) rfl (by decide) (cs_56 C X hl9 hN h hj hi hK hS kk)
theorem lw_sub7 {L : Nat} (h : 7 ≤ L) : Int32.ofNat L - 7 = nI (L - 7) := by
  obtain ⟨z, rfl⟩ : ∃ z, L = z + 7 := ⟨L - 7, by omega⟩
  rw [Nat.add_sub_cancel]
  show nI (z + 7) - nI 7 = nI z
  rw [← nI_add]
  exact Int32.add_sub_cancel _ _
theorem lw_neg7 {L q : Nat} (h : L < 7) (hq : q < 2 ^ 31) : Int32.ofNat L - 7 < nI q := by
  have h1 : Int32.ofNat L - 7 < 0 := by
    rcases (show L = 0 ∨ L = 1 ∨ L = 2 ∨ L = 3 ∨ L = 4 ∨ L = 5 ∨ L = 6 by omega) with rfl | rfl | rfl | rfl | rfl | rfl | rfl <;> decide
  have h2 := nI_pos hq
  rw [Int32.lt_iff_toInt_lt] at h1 h2 ⊢
  omega
set_option maxHeartbeats 4000000 in
theorem law_loop (C : Cq E p s m args meth c cL_law 9 RL) (X : Sx E s b L xs) (hx : Px args s) (hl9 : l.stackTraces = false) (hN : 312 ≤ eN E) (hL : L ≤ 3584) (hend : ∀ (k n : Nat) (i : Int32) (μ : Mm), k ≤ 500000 → n ≤ 6000000 → Gq E p l e room_1 s m args below meth c k n 9 Q 2927 (lvL E b i) [] μ) {k0 n0 : Nat} (hk0 : k0 ≤ 400000) (hn0 : n0 ≤ 3000000) : ∀ (d j : Nat) (μ : Mm), j + d = 512 → Iv j μ → Gq E p l e room_1 s m args below meth c (k0 + 128 * j) (n0 + 4096 * j) 9 Q 23 (lvL E b (nI (7 * j))) [] μ := by
  intro d
  induction d with
  | zero =>
    intro j μ hj h
    refine gq_lv (lv' := [(4, .int (nI (7 * j))), (3, .ref (eB E + 311)), (2, .ref (eB E + 295)), (1, .ref (eB E + 0)), (0, .ref b)]) rfl ?_
    refine gq_iload (i := 4) C dL_law_23 0 rfl ?_
    refine gq_aload_n (i := 0) C dL_law_25 rfl 4 rfl ?_
    refine gq_slen C X dL_law_26 ?_
    refine gq_bipush (v := 7) C dL_law_27 (by decide) ?_
    refine gq_isub C dL_law_29 ?_
    refine gq_icmp_gt_t (tgt := 2927) C dL_law_30 (by decide) ?_ (hend _ _ _ μ (by omega) (by omega))
    by_cases h7 : 7 ≤ L
    · rw [lw_sub7 h7]
      exact nI_lt (by omega) (by omega)
    · exact lw_neg7 (by omega) (by omega)
  | succ d ih =>
    intro j μ hj h
    refine gq_lv (lv' := [(4, .int (nI (7 * j))), (3, .ref (eB E + 311)), (2, .ref (eB E + 295)), (1, .ref (eB E + 0)), (0, .ref b)]) rfl ?_
    refine gq_iload (i := 4) C dL_law_23 0 rfl ?_
    refine gq_aload_n (i := 0) C dL_law_25 rfl 4 rfl ?_
    refine gq_slen C X dL_law_26 ?_
    refine gq_bipush (v := 7) C dL_law_27 (by decide) ?_
    refine gq_isub C dL_law_29 ?_
    by_cases hc : 7 * j + 7 ≤ L
    · refine gq_icmp_gt_f (tgt := 2927) C dL_law_30 (by decide) (by rw [lw_sub7 (by omega)]; exact nI_nlt (by omega) (by omega)) ?_
      refine gq_aload_n (i := 0) C dL_law_33 rfl 4 rfl ?_
      refine gq_iload (i := 4) C dL_law_34 0 rfl ?_
      refine gq_sld C X (vp_in_nI (by omega) (by omega)) rfl dL_law_36 ?_
      refine gq_bipush (v := 63) C dL_law_37 (by decide) ?_
      refine gq_iand C dL_law_39 ?_
      refine law_sw C X hx hl9 hN h (by omega) (fun v hv => ?_) (by omega) (by omega) (fun μ' h' => ?_)
      · rw [nI_add]
        exact vp_in_nI (by omega) (by omega)
      · rw [show k0 + 128 * j + 128 = k0 + 128 * (j + 1) by omega, show n0 + 4096 * j + 4096 = n0 + 4096 * (j + 1) by omega]
        refine gq_lv (lv' := [(4, .int (nI (7 * j))), (3, .ref (eB E + 311)), (2, .ref (eB E + 295)), (1, .ref (eB E + 0)), (0, .ref b)]) rfl ?_
        refine gq_iinc (q := 0) (v := nI (7 * (j + 1))) (lv' := lvL E b (nI (7 * (j + 1)))) C dL_law_2921 rfl ?_ (by decide) rfl ?_
        · show nI (7 * j) + nI 7 = _
          rw [nI_add, show 7 * j + 7 = 7 * (j + 1) by omega]
        · exact gq_goto (tgt := 23) C dL_law_2924 (by decide) (ih (j + 1) μ' (by omega) h')
    · refine gq_icmp_gt_t (tgt := 2927) C dL_law_30 (by decide) ?_ (hend _ _ _ μ (by omega) (by omega))
      by_cases h7 : 7 ≤ L
      · rw [lw_sub7 h7]
        exact nI_lt (by omega) (by omega)
      · exact lw_neg7 (by omega) (by omega)
end LWL
section LWN
variable {E : Ev} {p : Program} {l : Launch} {e : Env} {R : Room} {s : State} {m : MethodId} {args : Array Value} {below : List Frame} {meth : Method} {c : Code} {k sl nL : Nat} {Q : State → Prop} {pc : Nat} {lv : List (Nat × Value)} {st : List Value} {B n n' : Nat} {F : Nat → va_E}
theorem gb_n (h : n = n') (kk : Gb E B n' F p l e R s m args below meth c k sl nL Q pc lv st) : Gb E B n F p l e R s m args below meth c k sl nL Q pc lv st := by
  subst h
  exact kk
end LWN
theorem df_X3 : ∀ j, j < 9 → defaultValue (tyX3 j) = vp_V [.null, .null, .null, .null, .null, .int 0, .null, .null, .null] j := by
  intro j hj
  rcases (show j = 0 ∨ j = 1 ∨ j = 2 ∨ j = 3 ∨ j = 4 ∨ j = 5 ∨ j = 6 ∨ j = 7 ∨ j = 8 by omega) with rfl | rfl | rfl | rfl | rfl | rfl | rfl | rfl | rfl <;> rfl
theorem df_X4 : ∀ j, j < 30 → defaultValue (tyX4 j) = vp_V [.int 0, .null, .null, .null, .null, .null, .null, .null, .int 0, .null, .null, .null, .null, .int 0, .int 0, .int 0, .int 0, .int 0, .int 0, .int 0, .null, .null, .int 0, .int 0, .int 0, .int 0, .int 0, .null, .null, .int 0] j := by
  intro j hj
  rcases (show j = 0 ∨ j = 1 ∨ j = 2 ∨ j = 3 ∨ j = 4 ∨ j = 5 ∨ j = 6 ∨ j = 7 ∨ j = 8 ∨ j = 9 ∨ j = 10 ∨ j = 11 ∨ j = 12 ∨ j = 13 ∨ j = 14 ∨ j = 15 ∨ j = 16 ∨ j = 17 ∨ j = 18 ∨ j = 19 ∨ j = 20 ∨ j = 21 ∨ j = 22 ∨ j = 23 ∨ j = 24 ∨ j = 25 ∨ j = 26 ∨ j = 27 ∨ j = 28 ∨ j = 29 by omega) with rfl | rfl | rfl | rfl | rfl | rfl | rfl | rfl | rfl | rfl | rfl | rfl | rfl | rfl | rfl | rfl | rfl | rfl | rfl | rfl | rfl | rfl | rfl | rfl | rfl | rfl | rfl | rfl | rfl | rfl <;> rfl
theorem law_end {E : Ev} {p : Program} {l : Launch} {e : Env} {s : State} {m : MethodId} {below : List Frame} {meth : Method} {c : Code} {b : Nat} (C : Cq E p s m #[Value.ref b] meth c cL_law 9 RL) (hB : eB E = s.heap.size) (hr : meth.sig.returnType = ret) (k n : Nat) (lv : List (Nat × Value)) (μ : Mm) (hk : k ≤ 500000) (hn : n ≤ 6000000) : Gq E p l e room_1 s m #[Value.ref b] below meth c k n 9 (lw_Z below #[Value.ref b] s) 2927 lv [] μ := fun H locs ls hH hS hl =>
  lv_iconst (v := 1) C.1 C.2.1 dL_law_2927 (by decide) (va_forget (fun q hq => by have h1 : eB E ≤ q.base := hS.2.2 q hq; omega) (W.widen (show k ≤ 601024 by omega) (show n ≤ 7293034 by omega) (lw_ret (d0 := s.drawn) (Drawn.sameBut.refl s.drawn lw_cs) C.1 C.2.1 hr C.2.2.2.2.2.1 dL_law_2928)))
set_option maxHeartbeats 8000000 in
set_option maxRecDepth 100000 in
theorem law_gb {E : Ev} {p : Program} {l : Launch} {e : Env} {s : State} {m : MethodId} {below : List Frame} {meth : Method} {c : Code} {b L : Nat} {xs : Nat → Int32} (C : Cq E p s m #[Value.ref b] meth c cL_law 9 RL) (hB : eB E = s.heap.size) (hr : meth.sig.returnType = ret) (hAO : va_AO RX1 s) (hx : Px #[Value.ref b] s) (hl9 : l.stackTraces = false) (hX : va_X b L xs s s.heap) (hbl : b < s.heap.size) (hL : L ≤ 3584) : Gb E (eB E) 0 (fun _ => rawX) p l e room_1 s m #[Value.ref b] below meth c 0 0 9 (lw_Z below #[Value.ref b] s) 0 [(0, .ref b)] [] := by
  obtain ⟨μ1, μ2, μ3, z1, z2, z3, z4, z5, z6, z7, z8⟩ := iv_start (E := E)
  have hm1 : μ1.2.2.1 = eB E + 294 := by rw [z5]; rfl
  have hm3 : μ3.2.2.1 = eB E + 294 := by rw [z6]; rfl
  refine gb_new (ci := 7) (fs := [.null, .null, .null, .null, .null, .int 0, .null, .null, .null]) C inG_X3 tyX3 tyX3_ok wk_1_27 wk_1_28 wk_1_1 rfl df_X3 (by omega) (Or.inr rfl) ⟨(Nat.le_of_ble_eq_true rfl), (Nat.le_of_ble_eq_true rfl)⟩ dL_law_0 ?_
  refine gb_dup C dL_law_3 ?_
  refine gb_ctor (F' := fw E μ1) (i := 0) (nb := 1) (n' := 295) (a := eB E) (b := eB E) (As := []) (rest := [.ref (eB E)]) (rm := rmX) C hAO (Nat.le_refl _) rfl (by decide) (c_X3_init z1 hm1) wk_1_29 wk_1_30 wk_1_1 wk_1_31 rfl (by decide +kernel) (by omega) bu_one (fun j hj => absurd hj (Nat.not_lt_zero j)) (fun j hj => by rw [Nat.zero_add]) ⟨(Nat.le_of_ble_eq_true rfl), (Nat.le_of_ble_eq_true rfl)⟩ (Nat.le_of_ble_eq_true rfl) ⟨(Nat.le_of_ble_eq_true rfl), (Nat.le_of_ble_eq_true rfl)⟩ dL_law_4 rfl ?_
  refine gb_n (n' := 295) rfl (gb_k (k' := 295) (sl' := 8512) rfl rfl ?_)
  refine gb_astore_n (i := 1) (lv' := [(1, .ref (eB E)), (0, .ref b)]) C dL_law_7 rfl (by decide) rfl ?_
  refine gb_new (ci := 8) (fs := [.int 0, .null, .null, .null, .null, .null, .null, .null, .int 0, .null, .null, .null, .null, .int 0, .int 0, .int 0, .int 0, .int 0, .int 0, .int 0, .null, .null, .int 0, .int 0, .int 0, .int 0, .int 0, .null, .null, .int 0]) C inG_X4 tyX4 tyX4_ok wk_6_148 wk_6_149 wk_1_9 rfl df_X4 (by omega) (Or.inl (by decide)) ⟨(Nat.le_of_ble_eq_true rfl), (Nat.le_of_ble_eq_true rfl)⟩ dL_law_8 ?_
  refine gb_dup C dL_law_11 ?_
  refine gb_n (n' := 0 + 296) rfl ?_
  refine gb_ctor (F' := fw E μ3) (i := 0) (nb := 296) (n' := 311) (a := eB E + 295) (b := eB E) (As := []) (rest := [.ref (eB E + 295)]) (rm := rmM) C hAO (Nat.le_refl _) rfl (by decide) (c_X4_init z4 hm1 z2 z3 hm3) wk_6_150 wk_6_151 wk_1_9 wk_6_152 rfl (by decide +kernel) (by omega) (fun j hj => by rw [Nat.zero_add]; rfl) (fun j hj => absurd hj (Nat.not_lt_zero j)) (fun j hj => by rw [Nat.zero_add]) ⟨(Nat.le_of_ble_eq_true rfl), (Nat.le_of_ble_eq_true rfl)⟩ (Nat.le_of_ble_eq_true rfl) ⟨(Nat.le_of_ble_eq_true rfl), (Nat.le_of_ble_eq_true rfl)⟩ dL_law_12 rfl ?_
  refine gb_n (n' := 311) rfl (gb_k (k' := 311) (sl' := 16823) rfl rfl ?_)
  refine gb_astore_n (i := 2) (lv' := [(2, .ref (eB E + 295)), (1, .ref (eB E)), (0, .ref b)]) C dL_law_15 rfl (by decide) rfl ?_
  refine gb_iconst (v := 1) C dL_law_16 (by decide) ?_
  refine gb_newa (atype := .long) (ty := .long) (a0 := (1, .inr (.inl (fun _ => 0)))) (v := 1) (N := 1) C wk_1_142 rfl 2 rfl (fun _ _ h => ra_l h) (fun _ => rfl) (by decide) (by decide) (Nat.le_of_ble_eq_true rfl) (by omega) (Or.inl (by decide)) ⟨(Nat.le_of_ble_eq_true rfl), (Nat.le_of_ble_eq_true rfl)⟩ dL_law_17 ?_
  refine gb_n (n' := 312) rfl (gb_k (k' := 312) (sl' := 16824) rfl rfl ?_)
  refine gb_astore_n (i := 3) (lv' := [(3, .ref (eB E + 311)), (2, .ref (eB E + 295)), (1, .ref (eB E)), (0, .ref b)]) C dL_law_19 rfl (by decide) rfl ?_
  refine gb_iconst (v := nI 0) C dL_law_20 (by decide) ?_
  refine gb_istore (lv' := [(4, .int (nI 0)), (3, .ref (eB E + 311)), (2, .ref (eB E + 295)), (1, .ref (eB E)), (0, .ref b)]) C dL_law_21 (by decide) rfl ?_
  refine gb_gq (μ := μ3) (fun i hi => ?_) (by decide) hm3 ?_
  · by_cases e1 : i = 311
    · subst e1
      rw [bu_eq, fw_n (by decide), cn_7 (by decide +kernel), ln311, z7]
    · rw [bu_ne e1]
  · exact law_loop (k0 := 312) (n0 := 16824) C.wN ⟨hX, hbl, fun z => by have z : eB E ≤ b := z; omega⟩ hx hl9 (show 312 ≤ 312 by decide) hL (fun k n i μ hk hn => law_end (E := wN E 312) C.wN hB hr k n _ μ hk hn) (by decide) (by decide) 512 0 μ3 (by decide) z8
set_option maxHeartbeats 4000000 in
theorem whole_start {p : Program} {e : Env} {s : State} {m : MethodId} {below : List Frame} {meth : Method} {c : Code} (l : Launch) (hflags : l.flags = flags0) {b L : Nat} {xs : Nat → Int32} (hL : L ≤ 3584) (C0 : lw_At p s m meth c b L xs) : W p l e room_1 s m #[Value.ref b] below meth c s.heap [] 0 0 (lw_Z below #[Value.ref b] s) (entryFrame m ([Value.ref b] : List Value).toArray 9) := by
  obtain ⟨hx, hb, hr, hml, hown, hts, hX, hbl, hlocks, hgv⟩ := id C0
  obtain ⟨K, V, hO⟩ := env_old hts hgv
  obtain ⟨D, cy, hK⟩ := env_K hts
  have C : Cq (D, (cy, ((s.heap.size, 312), (K, V)))) p s m #[Value.ref b] meth c cL_law 9 RL := ⟨hx, hb, hml, hown, fun w hw => hts w (List.mem_filter.mp hw).1, hlocks, hK _ _ _ _, Nat.le_refl _, hO _ _ _⟩
  have hl9 : l.stackTraces = false := by
    unfold Launch.stackTraces
    rw [hflags]
    decide +kernel
  have hl := lv_entry ([.ref b]) (n := 9) (Nat.le_of_ble_eq_true rfl)
  rw [lg_entry_eq]
  exact law_gb C rfl hr (va_AO.of (hts _ in_arr.2.2.2)) (px_start hts) hl9 hX hbl hL s.heap [] _ (fun i hi => absurd hi (Nat.not_lt_zero i)) va_S.rf hl
