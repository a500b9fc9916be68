/-! ===== a month of the law ===== -/
theorem wk_1_0 : Cond.initialized "WaterExchangeLaw" ∈ GW := gw_1 (List.mem_of_getElem? (i := 0) rfl) rfl
theorem wk_1_101 : Cond.methodLink "WaterExchangeLaw" (36 : Nat) ({ cls := "WaterExchange", name := "coming", desc := "(I)I" } : MethodName) ∈ GW := gw_1 (List.mem_of_getElem? (i := 101) rfl) rfl
theorem wk_1_102 : Cond.instanceMethod ({ cls := "WaterExchange", name := "coming", desc := "(I)I" } : MethodName) ∈ GW := gw_1 (List.mem_of_getElem? (i := 102) rfl) rfl
theorem wk_1_103 : Cond.selects "WaterExchange" ({ cls := "WaterExchange", name := "coming", desc := "(I)I" } : MethodName) ({ cls := "WaterExchange", name := "coming", desc := "(I)I" } : MethodName) ∈ GW := gw_1 (List.mem_of_getElem? (i := 103) rfl) rfl
theorem wk_1_104 : Cond.code ({ cls := "WaterExchange", name := "coming", desc := "(I)I" } : MethodName) prog_1_method_11_code (2 : Nat) (Option.some Jvm.ClassFile.FieldType.int) ∈ GW := gw_1 (List.mem_of_getElem? (i := 104) rfl) rfl
theorem wk_1_153 : Cond.methodLink "WaterExchangeLaw" (49 : Nat) ({ cls := "WaterExchange", name := "claims", desc := "()I" } : MethodName) ∈ GW := gw_1 (List.mem_of_getElem? (i := 153) rfl) rfl
theorem wk_1_154 : Cond.instanceMethod ({ cls := "WaterExchange", name := "claims", desc := "()I" } : MethodName) ∈ GW := gw_1 (List.mem_of_getElem? (i := 154) rfl) rfl
theorem wk_1_155 : Cond.selects "WaterExchange" ({ cls := "WaterExchange", name := "claims", desc := "()I" } : MethodName) ({ cls := "WaterExchange", name := "claims", desc := "()I" } : MethodName) ∈ GW := gw_1 (List.mem_of_getElem? (i := 155) rfl) rfl
theorem wk_1_156 : Cond.code ({ cls := "WaterExchange", name := "claims", desc := "()I" } : MethodName) prog_1_method_18_code (1 : Nat) (Option.some Jvm.ClassFile.FieldType.int) ∈ GW := gw_1 (List.mem_of_getElem? (i := 156) rfl) rfl
theorem wk_1_161 : Cond.methodLink "WaterExchangeLaw" (45 : Nat) ({ cls := "WaterExchange", name := "gauge", desc := "(II)I" } : MethodName) ∈ GW := gw_1 (List.mem_of_getElem? (i := 161) rfl) rfl
theorem wk_1_162 : Cond.instanceMethod ({ cls := "WaterExchange", name := "gauge", desc := "(II)I" } : MethodName) ∈ GW := gw_1 (List.mem_of_getElem? (i := 162) rfl) rfl
theorem wk_1_163 : Cond.selects "WaterExchange" ({ cls := "WaterExchange", name := "gauge", desc := "(II)I" } : MethodName) ({ cls := "WaterExchange", name := "gauge", desc := "(II)I" } : MethodName) ∈ GW := gw_1 (List.mem_of_getElem? (i := 163) rfl) rfl
theorem wk_1_164 : Cond.code ({ cls := "WaterExchange", name := "gauge", desc := "(II)I" } : MethodName) prog_1_method_20_code (3 : Nat) (Option.some Jvm.ClassFile.FieldType.int) ∈ GW := gw_1 (List.mem_of_getElem? (i := 164) rfl) rfl
theorem wk_1_165 : Cond.methodLink "WaterExchangeLaw" (63 : Nat) ({ cls := "WaterExchange", name := "outflow", desc := "()I" } : MethodName) ∈ GW := gw_1 (List.mem_of_getElem? (i := 165) rfl) rfl
theorem wk_1_166 : Cond.instanceMethod ({ cls := "WaterExchange", name := "outflow", desc := "()I" } : MethodName) ∈ GW := gw_1 (List.mem_of_getElem? (i := 166) rfl) rfl
theorem wk_1_167 : Cond.selects "WaterExchange" ({ cls := "WaterExchange", name := "outflow", desc := "()I" } : MethodName) ({ cls := "WaterExchange", name := "outflow", desc := "()I" } : MethodName) ∈ GW := gw_1 (List.mem_of_getElem? (i := 167) rfl) rfl
theorem wk_1_168 : Cond.code ({ cls := "WaterExchange", name := "outflow", desc := "()I" } : MethodName) prog_1_method_24_code (1 : Nat) (Option.some Jvm.ClassFile.FieldType.int) ∈ GW := gw_1 (List.mem_of_getElem? (i := 168) rfl) rfl
theorem wk_1_173 : Cond.methodLink "WaterExchangeLaw" (42 : Nat) ({ cls := "WaterExchange", name := "run", desc := "(I)I" } : MethodName) ∈ GW := gw_1 (List.mem_of_getElem? (i := 173) rfl) rfl
theorem wk_1_174 : Cond.instanceMethod ({ cls := "WaterExchange", name := "run", desc := "(I)I" } : MethodName) ∈ GW := gw_1 (List.mem_of_getElem? (i := 174) rfl) rfl
theorem wk_1_175 : Cond.selects "WaterExchange" ({ cls := "WaterExchange", name := "run", desc := "(I)I" } : MethodName) ({ cls := "WaterExchange", name := "run", desc := "(I)I" } : MethodName) ∈ GW := gw_1 (List.mem_of_getElem? (i := 175) rfl) rfl
theorem wk_1_176 : Cond.code ({ cls := "WaterExchange", name := "run", desc := "(I)I" } : MethodName) prog_1_method_48_code (4 : Nat) (Option.some Jvm.ClassFile.FieldType.int) ∈ GW := gw_1 (List.mem_of_getElem? (i := 176) rfl) rfl
theorem wk_1_26 : Cond.methodLink "WaterExchangeLaw" (66 : Nat) ({ cls := "WaterExchange", name := "count", desc := "(I)I" } : MethodName) ∈ GW := gw_1 (List.mem_of_getElem? (i := 26) rfl) rfl
theorem wk_1_27 : Cond.instanceMethod ({ cls := "WaterExchange", name := "count", desc := "(I)I" } : MethodName) ∈ GW := gw_1 (List.mem_of_getElem? (i := 27) rfl) rfl
theorem wk_1_28 : Cond.selects "WaterExchange" ({ cls := "WaterExchange", name := "count", desc := "(I)I" } : MethodName) ({ cls := "WaterExchange", name := "count", desc := "(I)I" } : MethodName) ∈ GW := gw_1 (List.mem_of_getElem? (i := 28) rfl) rfl
theorem wk_1_29 : Cond.code ({ cls := "WaterExchange", name := "count", desc := "(I)I" } : MethodName) prog_1_method_7_code (2 : Nat) (Option.some Jvm.ClassFile.FieldType.int) ∈ GW := gw_1 (List.mem_of_getElem? (i := 29) rfl) rfl
theorem wk_5_19 : Cond.methodLink "WaterExchangeLaw" (59 : Nat) ({ cls := "WaterExchangeLaw", name := "fits", desc := "(LWaterExchange;LWaterExchangeLaw$Made;II[IZ)Z" } : MethodName) ∈ GW := gw_5 (List.mem_of_getElem? (i := 19) rfl) rfl
theorem wk_5_20 : Cond.static ({ cls := "WaterExchangeLaw", name := "fits", desc := "(LWaterExchange;LWaterExchangeLaw$Made;II[IZ)Z" } : MethodName) ∈ GW := gw_5 (List.mem_of_getElem? (i := 20) rfl) rfl
theorem wk_5_21 : Cond.code ({ cls := "WaterExchangeLaw", name := "fits", desc := "(LWaterExchange;LWaterExchangeLaw$Made;II[IZ)Z" } : MethodName) method_4_code (12 : Nat) (Option.some Jvm.ClassFile.FieldType.boolean) ∈ GW := gw_5 (List.mem_of_getElem? (i := 21) rfl) rfl
section MON
variable {E : Ev} {p : Program} {l : Launch} {e : Env} {u : State} {m : MethodId} {args : Array Value} {below : List Frame} {meth : Method} {c : Code} {Q : State → Prop} {B b r0 m0 f0 i t : Nat} {μ : Mm} {z z1 : Nat → Int32} {g : Nat → Int64} {mv : Nat → Int32}
/-- the flow as it is summed up -/
def fC (z : Nat → Int32) (i : Nat) : Nat → Int32 := fun q => if q < i then sumF (comN z) (q + 1) else 0
set_option maxHeartbeats 4000000 in
set_option maxRecDepth 100000 in
theorem mo_l1 (C : Cq E p u m args meth c cL_law 15 RL) (hU : (eU E).1 = 0) (hB : eB E ≤ B) (hl9 : l.stackTraces = false) (hV : NV μ 1 z g) (hv : Vt z) (h06 : ct z 0 ≤ 6) (h1 : mv 1 = nI (ct z 0)) {K N : Nat} (hK : K ≤ 500000) (hN : N ≤ 7000000) (kk : ∀ k n, k ≤ K → n ≤ N → Gz E p l e room_1 u m args below meth c k n 15 Q 107 [(8, .int (nI (ct z 0))), (7, .int (sumF (comN z) (ct z 0))), (6, .ref f0), (5, .int (nI t)), (4, .ref B), (3, .ref m0), (2, .ref r0), (1, .int (nI i)), (0, .ref b)] [] (yF E B f0 m0 (fC z (ct z 0)) mv ++ wl (eX E B) μ)) : ∀ (d j k n : Nat), j + d = ct z 0 → k + d ≤ K → n + 6 * d ≤ N → Gz E p l e room_1 u m args below meth c k n 15 Q 73 [(8, .int (nI j)), (7, .int (sumF (comN z) j)), (6, .ref f0), (5, .int (nI t)), (4, .ref B), (3, .ref m0), (2, .ref r0), (1, .int (nI i)), (0, .ref b)] [] (yF E B f0 m0 (fC z j) mv ++ wl (eX E B) μ) := by
  intro d
  induction d with
  | zero =>
    intro j k n hj hk hn
    obtain rfl : j = ct z 0 := by omega
    refine gz_iload C dL_law_73 0 rfl ?_
    refine gz_aload_n C dL_law_75 rfl 5 rfl ?_
    refine gz_getN (ci := 6) (N := 7) (T := TX4) C inG_X4 1 rfl rfl 1 (by decide) wk_4_223 rfl dL_law_76 ?_
    rw [h1]
    refine gz_icmp_ge_t (tgt := 107) C dL_law_79 (by decide) (nI_le (Nat.le_refl _) (by omega)) ?_
    exact kk k n (by omega) (by omega)
  | succ d ih =>
    intro j k n hj hk hn
    have hj6 : j < ct z 0 := by omega
    refine gz_iload C dL_law_73 0 rfl ?_
    refine gz_aload_n C dL_law_75 rfl 5 rfl ?_
    refine gz_getN (ci := 6) (N := 7) (T := TX4) C inG_X4 1 rfl rfl 1 (by decide) wk_4_223 rfl dL_law_76 ?_
    rw [h1]
    refine gz_icmp_ge_f (tgt := 107) C dL_law_79 (by decide) (nI_ge hj6 (by omega)) ?_
    refine gz_iload C dL_law_82 1 rfl ?_
    refine gz_aload C dL_law_84 4 rfl ?_
    refine gz_iload C dL_law_86 0 rfl ?_
    refine gz_ask (As := [.int (nI j)]) (rest := [.int (sumF (comN z) j)]) C hU hB (cx_ct (c_X3_coming (E := eX E B) (Nat.le_refl 295) hl9 (x3_com hV hv hj6))) wk_1_101 wk_1_102 wk_1_103 wk_1_3 wk_1_104 hd_X3_coming ⟨(Nat.le_of_ble_eq_true rfl), (Nat.le_of_ble_eq_true rfl)⟩ (Nat.le_of_ble_eq_true rfl) ⟨by show k + 1 ≤ 600074; omega, by show n + 6 ≤ 7301550; omega⟩ dL_law_88 rfl rfl ?_
    refine gz_iadd C dL_law_91 ?_
    have e0 : sumF (comN z) j + comN z j = sumF (comN z) (j + 1) := rfl
    rw [e0]
    refine gz_istore (i := 7) C dL_law_92 (by decide) rfl ?_
    refine gz_aload C dL_law_94 2 rfl ?_
    refine gz_iload C dL_law_96 1 rfl ?_
    refine gz_iload C dL_law_98 0 rfl ?_
    refine gz_iast (ν' := yF E B f0 m0 (fC z (j + 1)) mv ++ wl (eX E B) μ) C 0 rfl (nI_in (by omega) (by decide)) ?_ dL_law_100 ?_
    · rw [nI_clamp (by omega)]
      have e1 : upd (fC z j) j (sumF (comN z) (j + 1)) = fC z (j + 1) := by
        funext q
        unfold upd fC
        by_cases e9 : q = j
        · rw [if_pos e9, if_pos (by omega), e9]
        · rw [if_neg e9]
          by_cases e8 : q < j
          · rw [if_pos e8, if_pos (by omega)]
          · rw [if_neg e8, if_neg (by omega)]
      rw [← e1]
      rfl
    · refine gz_iinc (i := 8) (q := 1) (v := (nI (j + 1))) C dL_law_101 rfl (nI_add _ 1) (by decide) rfl ?_
      refine gz_goto (tgt := 73) C dL_law_104 (by decide) ?_
      refine gz_sub [0, 1, 2, 3, 4, 5, 6, 7, 8] (lv' := [(8, .int (nI (j + 1))), (7, .int (sumF (comN z) (j + 1))), (6, .ref f0), (5, .int (nI t)), (4, .ref B), (3, .ref m0), (2, .ref r0), (1, .int (nI i)), (0, .ref b)]) rfl ?_
      exact ih (j + 1) (k + 1) (n + 6) (by omega) (by omega) (by omega)
set_option maxHeartbeats 4000000 in
set_option maxRecDepth 100000 in
theorem mo_l2 {bf go al : Int32} {fl : Nat → Int32} (C : Cq E p u m args meth c cL_law 15 RL) (hU : (eU E).1 = 0) (hB : eB E ≤ B) (hl9 : l.stackTraces = false) (hV : NV μ 1 z g) (h57 : z 57 = 1) (h06 : ct z 0 ≤ 6) (h1 : mv 1 = nI (ct z 0)) (hfl : ∀ q, q < ct z 0 → z (394 + 5 * q + 1) = fl q) {K N : Nat} (hK : K ≤ 500000) (hN : N ≤ 7000000) (kk : ∀ k n, k ≤ K → n ≤ N → Gz E p l e room_1 u m args below meth c k n 15 Q 157 [(11, .int (nI (ct z 0))), (10, .int bf), (9, .int go), (8, .int al), (6, .ref f0), (5, .int (nI t)), (4, .ref B), (3, .ref m0), (2, .ref r0), (1, .int (nI i)), (0, .ref b)] [] (yF E B f0 m0 fl mv ++ wl (eX E B) μ)) : ∀ (d j k n : Nat), j + d = ct z 0 → k + 2 * d ≤ K → n + 12 * d ≤ N → Gz E p l e room_1 u m args below meth c k n 15 Q 124 [(11, .int (nI j)), (10, .int bf), (9, .int go), (8, .int al), (6, .ref f0), (5, .int (nI t)), (4, .ref B), (3, .ref m0), (2, .ref r0), (1, .int (nI i)), (0, .ref b)] [] (yF E B f0 m0 fl mv ++ wl (eX E B) μ) := by
  have h57 : ¬ z 57 = 0 := by rw [h57]; decide
  intro d
  induction d with
  | zero =>
    intro j k n hj hk hn
    obtain rfl : j = ct z 0 := by omega
    refine gz_iload C dL_law_124 0 rfl ?_
    refine gz_aload_n C dL_law_126 rfl 7 rfl ?_
    refine gz_getN (ci := 6) (N := 7) (T := TX4) C inG_X4 1 rfl rfl 1 (by decide) wk_4_223 rfl dL_law_127 ?_
    rw [h1]
    refine gz_icmp_ge_t (tgt := 157) C dL_law_130 (by decide) (nI_le (Nat.le_refl _) (by omega)) ?_
    exact kk k n (by omega) (by omega)
  | succ d ih =>
    intro j k n hj hk hn
    have hj6 : j < ct z 0 := by omega
    refine gz_iload C dL_law_124 0 rfl ?_
    refine gz_aload_n C dL_law_126 rfl 7 rfl ?_
    refine gz_getN (ci := 6) (N := 7) (T := TX4) C inG_X4 1 rfl rfl 1 (by decide) wk_4_223 rfl dL_law_127 ?_
    rw [h1]
    refine gz_icmp_ge_f (tgt := 157) C dL_law_130 (by decide) (nI_ge hj6 (by omega)) ?_
    refine gz_aload C dL_law_133 6 rfl ?_
    refine gz_iload C dL_law_135 0 rfl ?_
    refine gz_iconst (v := 1) C dL_law_137 (by decide) ?_
    refine gz_ask (As := [.int (nI j), .int 1]) (rest := []) C hU hB (cx_ct (c_X3_gauge (E := eX E B) (Nat.le_refl 295) hl9 ((x3_gau (k := 1) hV h57 hj6 (by decide)).trans (by rw [hfl j hj6])))) wk_1_161 wk_1_162 wk_1_163 wk_1_3 wk_1_164 hd_X3_gauge ⟨(Nat.le_of_ble_eq_true rfl), (Nat.le_of_ble_eq_true rfl)⟩ (Nat.le_of_ble_eq_true rfl) ⟨by show k + 2 ≤ 600074; omega, by show n + 12 ≤ 7301550; omega⟩ dL_law_138 rfl rfl ?_
    refine gz_aload C dL_law_141 4 rfl ?_
    refine gz_iload C dL_law_143 0 rfl ?_
    refine gz_iald (x := fl j) C 0 rfl (nI_in (by omega) (by decide)) (by rw [nI_clamp (by omega)]) dL_law_145 ?_
    refine gz_icmp_eq_t (tgt := 151) C dL_law_146 (by decide) rfl ?_
    refine gz_iinc (i := 11) (q := 0) (v := (nI (j + 1))) C dL_law_151 rfl (nI_add _ 1) (by decide) rfl ?_
    refine gz_goto (tgt := 124) C dL_law_154 (by decide) ?_
    exact ih (j + 1) (k + 2) (n + 12) (by omega) (by omega) (by omega)
set_option maxHeartbeats 4000000 in
set_option maxRecDepth 100000 in
theorem mo_l4 {bf go al : Int32} {fl : Nat → Int32} (C : Cq E p u m args meth c cL_law 15 RL) (hU : (eU E).1 = 0) (hB : eB E ≤ B) (hl9 : l.stackTraces = false) (hV : NV μ 1 z g) (h57 : z 57 = 1) (h06 : ct z 0 ≤ 6) (h1 : mv 1 = nI (ct z 0)) (hfl : ∀ q, q < ct z 0 → z (394 + 5 * q + 2) = fl q) {K N : Nat} (hK : K ≤ 500000) (hN : N ≤ 7000000) (kk : ∀ k n, k ≤ K → n ≤ N → Gz E p l e room_1 u m args below meth c k n 15 Q 338 [(11, .int (nI (ct z 0))), (10, .int bf), (9, .int go), (8, .int al), (6, .ref f0), (5, .int (nI t)), (4, .ref B), (3, .ref m0), (2, .ref r0), (1, .int (nI i)), (0, .ref b)] [] (yF E B f0 m0 fl mv ++ wl (eX E B) μ)) : ∀ (d j k n : Nat), j + d = ct z 0 → k + 2 * d ≤ K → n + 12 * d ≤ N → Gz E p l e room_1 u m args below meth c k n 15 Q 305 [(11, .int (nI j)), (10, .int bf), (9, .int go), (8, .int al), (6, .ref f0), (5, .int (nI t)), (4, .ref B), (3, .ref m0), (2, .ref r0), (1, .int (nI i)), (0, .ref b)] [] (yF E B f0 m0 fl mv ++ wl (eX E B) μ) := by
  have h57 : ¬ z 57 = 0 := by rw [h57]; decide
  intro d
  induction d with
  | zero =>
    intro j k n hj hk hn
    obtain rfl : j = ct z 0 := by omega
    refine gz_iload C dL_law_305 0 rfl ?_
    refine gz_aload_n C dL_law_307 rfl 7 rfl ?_
    refine gz_getN (ci := 6) (N := 7) (T := TX4) C inG_X4 1 rfl rfl 1 (by decide) wk_4_223 rfl dL_law_308 ?_
    rw [h1]
    refine gz_icmp_ge_t (tgt := 338) C dL_law_311 (by decide) (nI_le (Nat.le_refl _) (by omega)) ?_
    exact kk k n (by omega) (by omega)
  | succ d ih =>
    intro j k n hj hk hn
    have hj6 : j < ct z 0 := by omega
    refine gz_iload C dL_law_305 0 rfl ?_
    refine gz_aload_n C dL_law_307 rfl 7 rfl ?_
    refine gz_getN (ci := 6) (N := 7) (T := TX4) C inG_X4 1 rfl rfl 1 (by decide) wk_4_223 rfl dL_law_308 ?_
    rw [h1]
    refine gz_icmp_ge_f (tgt := 338) C dL_law_311 (by decide) (nI_ge hj6 (by omega)) ?_
    refine gz_aload C dL_law_314 6 rfl ?_
    refine gz_iload C dL_law_316 0 rfl ?_
    refine gz_iconst (v := 2) C dL_law_318 (by decide) ?_
    refine gz_ask (As := [.int (nI j), .int 2]) (rest := []) C hU hB (cx_ct (c_X3_gauge (E := eX E B) (Nat.le_refl 295) hl9 ((x3_gau (k := 2) hV h57 hj6 (by decide)).trans (by rw [hfl j hj6])))) wk_1_161 wk_1_162 wk_1_163 wk_1_3 wk_1_164 hd_X3_gauge ⟨(Nat.le_of_ble_eq_true rfl), (Nat.le_of_ble_eq_true rfl)⟩ (Nat.le_of_ble_eq_true rfl) ⟨by show k + 2 ≤ 600074; omega, by show n + 12 ≤ 7301550; omega⟩ dL_law_319 rfl rfl ?_
    refine gz_aload C dL_law_322 4 rfl ?_
    refine gz_iload C dL_law_324 0 rfl ?_
    refine gz_iald (x := fl j) C 0 rfl (nI_in (by omega) (by decide)) (by rw [nI_clamp (by omega)]) dL_law_326 ?_
    refine gz_icmp_eq_t (tgt := 332) C dL_law_327 (by decide) rfl ?_
    refine gz_iinc (i := 11) (q := 0) (v := (nI (j + 1))) C dL_law_332 rfl (nI_add _ 1) (by decide) rfl ?_
    refine gz_goto (tgt := 305) C dL_law_335 (by decide) ?_
    exact ih (j + 1) (k + 2) (n + 12) (by omega) (by omega) (by omega)
theorem okC_congr {z fl f : Nat → Int32} {its r reach x : Nat} (h : ∀ q, q < ct z 0 → f q = fl q) : okC z its r reach x f = okC z its r reach x fl := by
  unfold okC okN
  refine decide_eq_decide.mpr ⟨fun w q hq hr => ?_, fun w q hq hr => ?_⟩
  · have := w q hq hr
    dsimp only at this
    rw [show ct f q = ct fl q from congrArg Int32.toNatClampNeg (h q hq)] at this
    exact this
  · have := w q hq hr
    dsimp only at this
    rw [show ct fl q = ct f q from (congrArg Int32.toNatClampNeg (h q hq)).symm] at this
    exact this
def bfC (z : Nat → Int32) (ri : Nat → Nat) (j : Nat) : Int32 := if j = 0 then 0 else z (58 + 10 * ri (j - 1) + 2)
set_option maxHeartbeats 4000000 in
set_option maxRecDepth 100000 in
theorem mo_l3 {al : Int32} {Fw : Nat → Nat → Int32} {ri : Nat → Nat} (C : Cq E p u m args meth c cL_law 15 RL) (hU : (eU E).1 = 0) (hB : eB E ≤ B) (hl9 : l.stackTraces = false) (hV : NV μ 1 z g) (hR : Rv z) (h56 : ct z 56 ≤ 19) (h1 : mv 1 = nI (ct z 0)) (hcl : ∀ c, c < ct z 56 → FitC z (cRow z c) (Fw c) (Fw (c + 1)) ∧ (z (242 + 8 * c + 1) = nI (ri c) ∧ (ri c < ct z 2 ∧ (¬ z (58 + 10 * ri c + 2) < 0 ∧ (0 < c → ¬ z (58 + 10 * ri c + 2) < z (58 + 10 * ri (c - 1) + 2)))))) {K N : Nat} (hK : K ≤ 500000) (hN : N ≤ 7000000) (kk : ∀ k n fl, k ≤ K → n ≤ N → (∀ q, q < ct z 0 → fl q = Fw (ct z 56) q) → Gz E p l e room_1 u m args below meth c k n 15 Q 293 [(11, .int (nI (ct z 56))), (10, .int (bfC z ri (ct z 56))), (9, .int (sumF (fun q => z (242 + 8 * q + 5)) (ct z 56))), (8, .int al), (6, .ref f0), (5, .int (nI t)), (4, .ref B), (3, .ref m0), (2, .ref r0), (1, .int (nI i)), (0, .ref b)] [] (yF E B f0 m0 fl mv ++ wl (eX E B) μ)) : ∀ (d j k n : Nat) (fl : Nat → Int32), j + d = ct z 56 → k + 140 * d ≤ K → n + 840 * d ≤ N → (∀ q, q < ct z 0 → fl q = Fw j q) → Gz E p l e room_1 u m args below meth c k n 15 Q 160 [(11, .int (nI j)), (10, .int (bfC z ri j)), (9, .int (sumF (fun q => z (242 + 8 * q + 5)) j)), (8, .int al), (6, .ref f0), (5, .int (nI t)), (4, .ref B), (3, .ref m0), (2, .ref r0), (1, .int (nI i)), (0, .ref b)] [] (yF E B f0 m0 fl mv ++ wl (eX E B) μ) := by
  have h2 := hR.2.2.1.2
  intro d
  induction d with
  | zero =>
    intro j k n fl hj hk hn hfl
    obtain rfl : j = ct z 56 := by omega
    refine gz_iload C dL_law_160 0 rfl ?_
    refine gz_aload C dL_law_162 6 rfl ?_
    refine gz_ask (As := []) (rest := [.int (nI (ct z 56))]) C hU hB (c_X3_claims (E := eX E B) (Nat.le_refl 295) (x3_cls hV)) wk_1_153 wk_1_154 wk_1_155 wk_1_3 wk_1_156 hd_X3_claims ⟨(Nat.le_of_ble_eq_true rfl), (Nat.le_of_ble_eq_true rfl)⟩ (Nat.le_of_ble_eq_true rfl) ⟨by show k + 0 ≤ 600074; omega, by show n + 0 ≤ 7301550; omega⟩ dL_law_164 rfl rfl ?_
    refine gz_icmp_ge_t (tgt := 293) C dL_law_167 (by decide) (nI_le (Nat.le_refl _) (by omega)) ?_
    exact kk k n fl (by omega) (by omega) hfl
  | succ d ih =>
    intro j k n fl hj hk hn hfl
    have hj9 : j < ct z 56 := by omega
    obtain ⟨⟨its, r, reach, w, got, hits, ⟨q0, q1, q3, q4, q5, q6, q7⟩, hr, hre, hw, hgw, hok, hno, hFlo, hF1⟩, p1, p2, p3, p4⟩ := hcl j hj9
    have q0 : z (242 + 8 * j + 0) = nI its := q0
    have q1 : z (242 + 8 * j + 1) = nI r := q1
    have q3 : z (242 + 8 * j + 3) = nI reach := q3
    have q4 : z (242 + 8 * j + 4) = nI w := q4
    have q5 : z (242 + 8 * j + 5) = nI got := q5
    have er : ri j = r := nI_inj (by omega) (by omega) (p1.symm.trans q1)
    rw [er] at p3 p4
    have hFl : Flo (ct z 0) fl := fun q hq => by
      have := hFlo q hq
      unfold ct at this ⊢
      rw [hfl q hq]
      exact this
    have hok2 : okC z its r reach got fl = true := by rw [okC_congr hfl]; exact hok
    have hno2 : got < w → ¬ okC z its r reach (got + 1) fl = true := fun h => by rw [okC_congr hfl]; exact hno h
    have hq : ∀ x, x ≤ 1000 → FQ μ z g j its r reach x := fun x hx => ⟨hV, hR, hj9, ⟨q0, q1, q3⟩, hits, hr, hre, hx⟩
    have hbf : ¬ z (58 + 10 * r + 2) < bfC z ri j := by
      unfold bfC
      by_cases e9 : j = 0
      · rw [if_pos e9]; exact p3
      · rw [if_neg e9]; exact p4 (by omega)
    refine gz_iload C dL_law_160 0 rfl ?_
    refine gz_aload C dL_law_162 6 rfl ?_
    refine gz_ask (As := []) (rest := [.int (nI j)]) C hU hB (c_X3_claims (E := eX E B) (Nat.le_refl 295) (x3_cls hV)) wk_1_153 wk_1_154 wk_1_155 wk_1_3 wk_1_156 hd_X3_claims ⟨(Nat.le_of_ble_eq_true rfl), (Nat.le_of_ble_eq_true rfl)⟩ (Nat.le_of_ble_eq_true rfl) ⟨by show k + 0 ≤ 600074; omega, by show n + 0 ≤ 7301550; omega⟩ dL_law_164 rfl rfl ?_
    refine gz_icmp_ge_f (tgt := 293) C dL_law_167 (by decide) (nI_ge hj9 (by omega)) ?_
    refine gz_aload C dL_law_170 6 rfl ?_
    refine gz_iload C dL_law_172 0 rfl ?_
    refine gz_iconst (v := 1) C dL_law_174 (by decide) ?_
    refine gz_ask (As := [.int (nI j), .int 1]) (rest := []) C hU hB (cx_ct (c_X3_claim (E := eX E B) (Nat.le_refl 295) hl9 ((hq 0 (by omega)).c1))) wk_1_157 wk_1_158 wk_1_159 wk_1_3 wk_1_160 hd_X3_claim ⟨(Nat.le_of_ble_eq_true rfl), (Nat.le_of_ble_eq_true rfl)⟩ (Nat.le_of_ble_eq_true rfl) ⟨by show k + 0 + 2 ≤ 600074; omega, by show n + 0 + 12 ≤ 7301550; omega⟩ dL_law_175 rfl rfl ?_
    refine gz_istore (i := 12) C dL_law_178 (by decide) rfl ?_
    refine gz_aload C dL_law_180 7 rfl ?_
    refine gz_iload C dL_law_182 0 rfl ?_
    refine gz_iconst (v := 2) C dL_law_184 (by decide) ?_
    refine gz_ask (As := [.int (nI r), .int 2]) (rest := []) C hU hB (cx_ct (c_X3_right (E := eX E B) (Nat.le_refl 295) hl9 (x3_rig (k := 2) hV hr (by decide)))) wk_1_144 wk_1_145 wk_1_146 wk_1_3 wk_1_147 hd_X3_right ⟨(Nat.le_of_ble_eq_true rfl), (Nat.le_of_ble_eq_true rfl)⟩ (Nat.le_of_ble_eq_true rfl) ⟨by show k + 2 + 2 ≤ 600074; omega, by show n + 12 + 12 ≤ 7301550; omega⟩ dL_law_185 rfl rfl ?_
    refine gz_iload C dL_law_188 2 rfl ?_
    refine gz_icmp_ge_t (tgt := 195) C dL_law_190 (by decide) (Int32.not_lt.mp hbf) ?_
    refine gz_aload C dL_law_195 7 rfl ?_
    refine gz_iload C dL_law_197 0 rfl ?_
    refine gz_iconst (v := 2) C dL_law_199 (by decide) ?_
    refine gz_ask (As := [.int (nI r), .int 2]) (rest := []) C hU hB (cx_ct (c_X3_right (E := eX E B) (Nat.le_refl 295) hl9 (x3_rig (k := 2) hV hr (by decide)))) wk_1_144 wk_1_145 wk_1_146 wk_1_3 wk_1_147 hd_X3_right ⟨(Nat.le_of_ble_eq_true rfl), (Nat.le_of_ble_eq_true rfl)⟩ (Nat.le_of_ble_eq_true rfl) ⟨by show k + 4 + 2 ≤ 600074; omega, by show n + 24 + 12 ≤ 7301550; omega⟩ dL_law_200 rfl rfl ?_
    refine gz_istore (i := 10) C dL_law_203 (by decide) rfl ?_
    refine gz_aload C dL_law_205 7 rfl ?_
    refine gz_iload C dL_law_207 2 rfl ?_
    refine gz_iconst (v := 4) C dL_law_209 (by decide) ?_
    refine gz_ask (As := [.int (nI j), .int 4]) (rest := []) C hU hB (cx_ct (c_X3_claim (E := eX E B) (Nat.le_refl 295) hl9 ((hq 0 (by omega)).cN (k := 4) (by decide) q4))) wk_1_157 wk_1_158 wk_1_159 wk_1_3 wk_1_160 hd_X3_claim ⟨(Nat.le_of_ble_eq_true rfl), (Nat.le_of_ble_eq_true rfl)⟩ (Nat.le_of_ble_eq_true rfl) ⟨by show k + 6 + 2 ≤ 600074; omega, by show n + 36 + 12 ≤ 7301550; omega⟩ dL_law_210 rfl rfl ?_
    refine gz_istore (i := 13) C dL_law_213 (by decide) rfl ?_
    refine gz_aload C dL_law_215 8 rfl ?_
    refine gz_iload C dL_law_217 3 rfl ?_
    refine gz_iconst (v := 5) C dL_law_219 (by decide) ?_
    refine gz_ask (As := [.int (nI j), .int 5]) (rest := []) C hU hB (cx_ct (c_X3_claim (E := eX E B) (Nat.le_refl 295) hl9 ((hq 0 (by omega)).cN (k := 5) (by decide) q5))) wk_1_157 wk_1_158 wk_1_159 wk_1_3 wk_1_160 hd_X3_claim ⟨(Nat.le_of_ble_eq_true rfl), (Nat.le_of_ble_eq_true rfl)⟩ (Nat.le_of_ble_eq_true rfl) ⟨by show k + 8 + 2 ≤ 600074; omega, by show n + 48 + 12 ≤ 7301550; omega⟩ dL_law_220 rfl rfl ?_
    refine gz_istore (i := 14) C dL_law_223 (by decide) rfl ?_
    refine gz_iload C dL_law_225 0 rfl ?_
    refine gz_if_lt_f (tgt := 278) C dL_law_227 (by decide) (nI_pos (by omega)) ?_
    refine gz_iload C dL_law_230 0 rfl ?_
    refine gz_iload C dL_law_232 1 rfl ?_
    refine gz_icmp_gt_f (tgt := 278) C dL_law_234 (by decide) (nI_nlt hgw (by omega)) ?_
    refine gz_iload C dL_law_237 0 rfl ?_
    refine gz_iload C dL_law_239 1 rfl ?_
    have hJ : ∀ (k n : Nat), k + 64 + 140 * d ≤ K → n + 384 + 840 * d ≤ N → Gz E p l e room_1 u m args below meth c k n 15 Q 262 [(14, .int (nI got)), (13, .int (nI w)), (10, .int (z (58 + 10 * r + 2))), (12, .int (nI r)), (11, .int (nI j)), (9, .int (sumF (fun q => z (242 + 8 * q + 5)) j)), (8, .int al), (6, .ref f0), (5, .int (nI t)), (4, .ref B), (3, .ref m0), (2, .ref r0), (1, .int (nI i)), (0, .ref b)] [] (yF E B f0 m0 fl mv ++ wl (eX E B) μ) := by
      intro k n hk hn
      refine gz_aload C dL_law_262 9 rfl ?_
      refine gz_aload_n C dL_law_264 rfl 10 rfl ?_
      refine gz_iload C dL_law_265 4 rfl ?_
      refine gz_iload C dL_law_267 0 rfl ?_
      refine gz_aload C dL_law_269 7 rfl ?_
      refine gz_iconst (v := 1) C dL_law_271 (by decide) ?_
      refine gz_S (As := [.ref B, .ref m0, .int (nI j), .int (nI got), .ref f0, .int 1]) (rest := []) C (c_L_fits1 hU hB hl9 (hq got (by omega)) hFl h1 hok2 q6 q7) wk_5_19 wk_5_20 wk_1_0 wk_5_21 hd_L_fits ⟨(Nat.le_of_ble_eq_true rfl), (Nat.le_of_ble_eq_true rfl)⟩ (Nat.le_of_ble_eq_true rfl) ⟨by show k + 64 ≤ 600074; omega, by show n + 384 ≤ 7301550; omega⟩ dL_law_272 rfl (fun o ν' hP => ?_)
      obtain ⟨rfl, rfl⟩ := hP
      refine gz_if_ne_t (tgt := 280) C dL_law_275 (by decide) (by decide) ?_
      refine gz_iload C dL_law_280 5 rfl ?_
      refine gz_iload C dL_law_282 0 rfl ?_
      refine gz_iadd C dL_law_284 ?_
      refine gz_istore (i := 9) C dL_law_285 (by decide) rfl ?_
      refine gz_iinc (i := 11) (q := 5) (v := (nI (j + 1))) C dL_law_287 rfl (nI_add _ 1) (by decide) rfl ?_
      refine gz_goto (tgt := 160) C dL_law_290 (by decide) ?_
      have e0 : sumF (fun q => z (242 + 8 * q + 5)) j + nI got = sumF (fun q => z (242 + 8 * q + 5)) (j + 1) := by
        rw [← q5]
        rfl
      have e1 : z (58 + 10 * r + 2) = bfC z ri (j + 1) := by
        unfold bfC
        rw [if_neg (Nat.succ_ne_zero j), Nat.add_sub_cancel, er]
      rw [e0, e1]
      refine gz_sub [0, 4, 1, 6, 7, 8, 9, 10, 11, 12, 13] (lv' := [(11, .int (nI (j + 1))), (10, .int (bfC z ri (j + 1))), (9, .int (sumF (fun q => z (242 + 8 * q + 5)) (j + 1))), (8, .int al), (6, .ref f0), (5, .int (nI t)), (4, .ref B), (3, .ref m0), (2, .ref r0), (1, .int (nI i)), (0, .ref b)]) rfl ?_
      refine ih (j + 1) (k + 64) (n + 384) (flC z fl its r reach got) (by omega) (by omega) (by omega) (fun q hq => ?_)
      rw [hF1]
      unfold flC
      rw [hfl q hq]
    by_cases hlt : got < w
    · refine gz_icmp_ge_f (tgt := 262) C dL_law_241 (by decide) (nI_ge hlt (by omega)) ?_
      refine gz_aload C dL_law_244 9 rfl ?_
      refine gz_aload_n C dL_law_246 rfl 10 rfl ?_
      refine gz_iload C dL_law_247 4 rfl ?_
      refine gz_iload C dL_law_249 0 rfl ?_
      refine gz_iconst (v := 1) C dL_law_251 (by decide) ?_
      refine gz_iadd C dL_law_252 ?_
      refine gz_aload C dL_law_253 7 rfl ?_
      refine gz_iconst (v := 0) C dL_law_255 (by decide) ?_
      rw [nI_1]
      refine gz_S (As := [.ref B, .ref m0, .int (nI j), .int (nI (got + 1)), .ref f0, .int 0]) (rest := []) C (c_L_fits0 hU hB hl9 (hq (got + 1) (by omega)) hFl h1 (hno2 hlt)) wk_5_19 wk_5_20 wk_1_0 wk_5_21 hd_L_fits ⟨(Nat.le_of_ble_eq_true rfl), (Nat.le_of_ble_eq_true rfl)⟩ (Nat.le_of_ble_eq_true rfl) ⟨by show k + 10 + 64 ≤ 600074; omega, by show n + 60 + 384 ≤ 7301550; omega⟩ dL_law_256 rfl (fun o ν' hP => ?_)
      obtain ⟨rfl, rfl⟩ := hP
      refine gz_if_ne_f (tgt := 278) C dL_law_259 (by decide) rfl ?_
      exact hJ (k + 10 + 64) (n + 60 + 384) (by omega) (by omega)
    · refine gz_icmp_ge_t (tgt := 262) C dL_law_241 (by decide) (nI_le (by omega) (by omega)) ?_
      exact hJ (k + 10) (n + 60) (by omega) (by omega)
set_option maxHeartbeats 4000000 in
set_option maxRecDepth 100000 in
theorem law_month (C : Cq E p u m args meth c cL_law 15 RL) (hU : (eU E).1 = 0) (hB : eB E ≤ B) (hl9 : l.stackTraces = false) (ht : t < 14) (hV : NV μ 1 z g) (hok : Ok t z) (h5 : z 5 = nI t) (hP : (∃ (c1 : Nat) (p1 : Nat → Nat) (S1 : Nat → Sh), PC μ c1 p1 S1)) (h0 : ct z 0 ≠ 0) (h1 : mv 1 = nI (ct z 0)) {k n : Nat} (hk : k ≤ 400000) (hn : n ≤ 6000000) (kk : ∀ (μ1 : Mm) (z1 : Nat → Int32) (g1 : Nat → Int64) (k1 n1 : Nat), k1 ≤ k + 3000 → n1 ≤ n + 18000 → NV μ1 1 z1 g1 → Ok (t + 1) z1 → z1 5 = nI (t + 1) → (∃ (c1 : Nat) (p1 : Nat → Nat) (S1 : Nat → Sh), PC μ1 c1 p1 S1) → ct z1 0 = ct z 0 → Gz E p l e room_1 u m args below meth c k1 n1 15 Q 54 [(5, .int (nI (t + 1))), (4, .ref B), (3, .ref m0), (2, .ref r0), (1, .int (nI i)), (0, .ref b)] [] ([(m0, .inr (6, fM B mv))] ++ wl (eX E B) μ1)) : Gz E p l e room_1 u m args below meth c k n 15 Q 54 [(5, .int (nI t)), (4, .ref B), (3, .ref m0), (2, .ref r0), (1, .int (nI i)), (0, .ref b)] [] ([(m0, .inr (6, fM B mv))] ++ wl (eX E B) μ) := by
  have h06 := hok.1.1.1.2
  obtain ⟨c1, p1, S1, hP⟩ := hP
  have hv := hok.1.1.2.2.2.1
  obtain ⟨μ1, x1, x2, x3, x4, x5⟩ := x3_run1 (fl := fun _ => 0) (cut := fun _ => 0) hP hV hok (by omega) h0
  have hmo := ev_mo (st := (z, g, (fun _ => 0), (fun _ => 0))) hok (by omega)
  generalize ev (-1) (z, g, (fun _ => 0), (fun _ => 0)) = w at *
  obtain ⟨z1, g1, w2⟩ := w
  generalize evS (-1) (z, g, (fun _ => 0), (fun _ => 0)) = all at *
  obtain ⟨Fw, ri, ⟨y57, y5, y0, y56⟩, yq, yall, ycl⟩ := hmo
  have x2 : NV μ1 1 z1 g1 := x2
  have x3 : Ok (t + 1) z1 := x3
  have y57 : z1 57 = 1 := y57
  have y5 : z1 5 = z 5 + 1 := y5
  have y0 : ct z1 0 = ct z 0 := y0
  have y56 : ct z1 56 ≤ 19 := y56
  refine gz_iload C dL_law_54 0 rfl ?_
  refine gz_bipush (v := 14) C dL_law_56 (by decide) ?_
  refine gz_icmp_ge_f (tgt := 376) C dL_law_58 (by decide) (show ¬ (14 : Int32) ≤ nI t from nI_ge (b := 14) ht (by decide)) ?_
  refine gz_bipush (v := 6) C dL_law_61 (by decide) ?_
  refine gz_newa (atype := .int) (ty := .int) (a0 := (6, .inl (fun _ => 0))) (v := 6) (N := 6) C hU wk_2_149 rfl 1 rfl (fun _ _ h => ra_i h) (fun _ => rfl) (by decide) (by decide) (Nat.le_of_ble_eq_true rfl) ⟨by show k + 1 ≤ 600074; omega, by show n + 6 ≤ 7301550; omega⟩ dL_law_63 (fun f0 hf1 hf2 hf3 => ?_)
  refine gz_astore (i := 6) C dL_law_65 (by decide) rfl ?_
  refine gz_iconst (v := 0) C dL_law_67 (by decide) ?_
  refine gz_istore (i := 7) C dL_law_68 (by decide) rfl ?_
  refine gz_iconst (v := 0) C dL_law_70 (by decide) ?_
  refine gz_istore (i := 8) C dL_law_71 (by decide) rfl ?_
  refine gz_sub [0, 1, 2, 3, 4, 5, 6, 7, 8] (lv' := [(8, .int (nI 0)), (7, .int (sumF (comN z) 0)), (6, .ref f0), (5, .int (nI t)), (4, .ref B), (3, .ref m0), (2, .ref r0), (1, .int (nI i)), (0, .ref b)]) rfl ?_
  refine gz_hw (ν' := yF E B f0 m0 (fC z 0) mv ++ wl (eX E B) μ) (fun H h => ?_) ?_
  · have e9 : fC z 0 = fun _ => 0 := funext fun q => if_neg (Nat.not_lt_zero q)
    rw [e9]
    exact h
  refine mo_l1 (K := k + 7) (N := n + 42) C hU hB hl9 hV hv h06 h1 (by omega) (by omega) (fun k2 n2 hk2 hn2 => ?_) (ct z 0) 0 (k + 1) (n + 6) (Nat.zero_add _) (by omega) (by omega)
  refine gz_aload C dL_law_107 4 rfl ?_
  refine gz_iconst (v := 1) C dL_law_109 (by decide) ?_
  refine gz_ask (As := [.int 1]) (rest := []) C hU hB (cx_ct (c_X3_run (E := eX E B) (Nat.le_refl 295) hl9 x1)) wk_1_173 wk_1_174 wk_1_175 wk_1_3 wk_1_176 hd_X3_run ⟨(Nat.le_of_ble_eq_true rfl), (Nat.le_of_ble_eq_true rfl)⟩ (Nat.le_of_ble_eq_true rfl) ⟨by show k2 + 2 ≤ 600074; omega, by show n2 + 12 ≤ 7301550; omega⟩ dL_law_110 rfl rfl ?_
  refine gz_istore (i := 8) C dL_law_113 (by decide) rfl ?_
  refine gz_iconst (v := 0) C dL_law_115 (by decide) ?_
  refine gz_istore (i := 9) C dL_law_116 (by decide) rfl ?_
  refine gz_iconst (v := 0) C dL_law_118 (by decide) ?_
  refine gz_istore (i := 10) C dL_law_119 (by decide) rfl ?_
  refine gz_iconst (v := 0) C dL_law_121 (by decide) ?_
  refine gz_istore (i := 11) C dL_law_122 (by decide) rfl ?_
  refine gz_sub [0, 1, 2, 3, 5, 6, 7, 8, 9, 10, 11] (lv' := [(11, .int (nI 0)), (10, .int 0), (9, .int 0), (8, .int all), (6, .ref f0), (5, .int (nI t)), (4, .ref B), (3, .ref m0), (2, .ref r0), (1, .int (nI i)), (0, .ref b)]) rfl ?_
  have h1b : mv 1 = nI (ct z1 0) := by rw [y0]; exact h1
  refine mo_l2 (K := k + 30) (N := n + 180) C hU hB hl9 x2 y57 (by omega) h1b (fun q hq => ?_) (by omega) (by omega) (fun k3 n3 hk3 hn3 => ?_) (ct z1 0) 0 (k2 + 2) (n2 + 12) (Nat.zero_add _) (by omega) (by omega)
  · have hq9 : q < ct z 0 := by rw [y0] at hq; exact hq
    exact (yq q hq9).1.trans (if_pos hq9).symm
  refine gz_iconst (v := 0) C dL_law_157 (by decide) ?_
  refine gz_istore (i := 11) C dL_law_158 (by decide) rfl ?_
  refine gz_sub [0, 1, 2, 3, 4, 5, 6, 7, 8, 9, 10] (lv' := [(11, .int (nI 0)), (10, .int (bfC z1 ri 0)), (9, .int (sumF (fun q => z1 (242 + 8 * q + 5)) 0)), (8, .int all), (6, .ref f0), (5, .int (nI t)), (4, .ref B), (3, .ref m0), (2, .ref r0), (1, .int (nI i)), (0, .ref b)]) rfl ?_
  refine mo_l3 (K := k + 2900) (N := n + 17400) C hU hB hl9 x2 x3.1.1 y56 h1b ycl (by omega) (by omega) (fun k4 n4 fl hk4 hn4 hfl => ?_) (ct z1 56) 0 k3 n3 (fC z (ct z 0)) (Nat.zero_add _) (by omega) (by omega) (fun q hq => ?_)
  rotate_left
  · rw [y0] at hq
    exact (if_pos hq).trans (yq q hq).2.1.symm
  refine gz_iload C dL_law_293 3 rfl ?_
  refine gz_iload C dL_law_295 2 rfl ?_
  refine gz_icmp_eq_t (tgt := 302) C dL_law_297 (by decide) yall ?_
  refine gz_iconst (v := 0) C dL_law_302 (by decide) ?_
  refine gz_istore (i := 11) C dL_law_303 (by decide) rfl ?_
  refine gz_sub [0, 1, 2, 3, 4, 5, 6, 7, 8, 9, 10] (lv' := [(11, .int (nI 0)), (10, .int (bfC z1 ri (ct z1 56))), (9, .int (sumF (fun q => z1 (242 + 8 * q + 5)) (ct z1 56))), (8, .int all), (6, .ref f0), (5, .int (nI t)), (4, .ref B), (3, .ref m0), (2, .ref r0), (1, .int (nI i)), (0, .ref b)]) rfl ?_
  refine mo_l4 (K := k + 2950) (N := n + 17700) C hU hB hl9 x2 y57 (by omega) h1b (fun q hq => ?_) (by omega) (by omega) (fun k5 n5 hk5 hn5 => ?_) (ct z1 0) 0 k4 n4 (Nat.zero_add _) (by omega) (by omega)
  · rw [hfl q hq]
    exact (yq q (by rw [y0] at hq; exact hq)).2.2
  have h57b : ¬ z1 57 = 0 := by rw [y57]; decide
  refine gz_aload C dL_law_338 6 rfl ?_
  refine gz_ask (As := []) (rest := []) C hU hB (c_X3_outflow (E := eX E B) (Nat.le_refl 295) (x3_out x2 h57b (by rw [y0]; exact h0))) wk_1_165 wk_1_166 wk_1_167 wk_1_3 wk_1_168 hd_X3_outflow ⟨(Nat.le_of_ble_eq_true rfl), (Nat.le_of_ble_eq_true rfl)⟩ (Nat.le_of_ble_eq_true rfl) ⟨by show k5 + 0 ≤ 600074; omega, by show n5 + 0 ≤ 7301550; omega⟩ dL_law_340 rfl rfl ?_
  refine gz_aload C dL_law_343 4 rfl ?_
  refine gz_aload_n C dL_law_345 rfl 7 rfl ?_
  refine gz_getN (ci := 6) (N := 7) (T := TX4) C inG_X4 1 rfl rfl 1 (by decide) wk_4_223 rfl dL_law_346 ?_
  refine gz_iconst (v := 1) C dL_law_349 (by decide) ?_
  refine gz_isub C dL_law_350 ?_
  rw [h1b, show (nI (ct z1 0) : Int32) - 1 = nI (ct z1 0 - 1) from pk_sub (b := 1) (by omega)]
  refine gz_iald (x := fl (ct z1 0 - 1)) C 0 rfl (nI_in (by omega) (by decide)) (by rw [nI_clamp (by omega)]) dL_law_351 ?_
  refine gz_icmp_ne_f (tgt := 368) C dL_law_352 (by decide) (by rw [hfl _ (by omega)]; exact (yq (ct z1 0 - 1) (show ct z1 0 - 1 < ct z 0 by omega)).2.2) ?_
  refine gz_aload C dL_law_355 6 rfl ?_
  refine gz_iconst (v := 5) C dL_law_357 (by decide) ?_
  refine gz_ask (As := [.int 5]) (rest := []) C hU hB (cx_ct (c_X3_count (E := eX E B) (Nat.le_refl 295) hl9 (x3_cn5 x2))) wk_1_26 wk_1_27 wk_1_28 wk_1_3 wk_1_29 hd_X3_count ⟨(Nat.le_of_ble_eq_true rfl), (Nat.le_of_ble_eq_true rfl)⟩ (Nat.le_of_ble_eq_true rfl) ⟨by show k5 + 1 ≤ 600074; omega, by show n5 + 6 ≤ 7301550; omega⟩ dL_law_358 rfl rfl ?_
  refine gz_iload C dL_law_361 5 rfl ?_
  refine gz_iconst (v := 1) C dL_law_363 (by decide) ?_
  refine gz_iadd C dL_law_364 ?_
  refine gz_icmp_eq_t (tgt := 370) C dL_law_365 (by decide) (by rw [y5, h5]) ?_
  refine gz_iinc (i := 5) (q := 5) (v := (nI (t + 1))) C dL_law_370 rfl (nI_add _ 1) (by decide) rfl ?_
  refine gz_goto (tgt := 54) C dL_law_373 (by decide) ?_
  refine gz_sub [0, 6, 7, 8, 9, 10] (lv' := [(5, .int (nI (t + 1))), (4, .ref B), (3, .ref m0), (2, .ref r0), (1, .int (nI i)), (0, .ref b)]) rfl ?_
  refine gz_hw (ν' := [(m0, .inr (6, fM B mv))] ++ wl (eX E B) μ1) (fun H h => hw_subl (List.Sublist.append (show List.Sublist [(m0, .inr (6, fM B mv))] (yF E B f0 m0 fl mv) from List.sublist_cons_self _ _) (List.Sublist.refl _)) h) ?_
  exact kk μ1 z1 g1 (k5 + 1) (n5 + 6) (by omega) (by omega) x2 x3 (by rw [y5, h5, nI_1]) x4 y0
end MON
