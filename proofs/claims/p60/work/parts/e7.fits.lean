/-! ===== a claim can get so much, or not ===== -/
theorem wk_1_144 : Cond.methodLink "WaterExchangeLaw" (56 : Nat) ({ cls := "WaterExchange", name := "right", desc := "(II)I" } : MethodName) ∈ GW := gw_1 (List.mem_of_getElem? (i := 144) rfl) rfl
theorem wk_1_145 : Cond.instanceMethod ({ cls := "WaterExchange", name := "right", desc := "(II)I" } : MethodName) ∈ GW := gw_1 (List.mem_of_getElem? (i := 145) rfl) rfl
theorem wk_1_146 : Cond.selects "WaterExchange" ({ cls := "WaterExchange", name := "right", desc := "(II)I" } : MethodName) ({ cls := "WaterExchange", name := "right", desc := "(II)I" } : MethodName) ∈ GW := gw_1 (List.mem_of_getElem? (i := 146) rfl) rfl
theorem wk_1_147 : Cond.code ({ cls := "WaterExchange", name := "right", desc := "(II)I" } : MethodName) prog_1_method_14_code (3 : Nat) (Option.some Jvm.ClassFile.FieldType.int) ∈ GW := gw_1 (List.mem_of_getElem? (i := 147) rfl) rfl
theorem wk_1_157 : Cond.methodLink "WaterExchangeLaw" (53 : Nat) ({ cls := "WaterExchange", name := "claim", desc := "(II)I" } : MethodName) ∈ GW := gw_1 (List.mem_of_getElem? (i := 157) rfl) rfl
theorem wk_1_158 : Cond.instanceMethod ({ cls := "WaterExchange", name := "claim", desc := "(II)I" } : MethodName) ∈ GW := gw_1 (List.mem_of_getElem? (i := 158) rfl) rfl
theorem wk_1_159 : Cond.selects "WaterExchange" ({ cls := "WaterExchange", name := "claim", desc := "(II)I" } : MethodName) ({ cls := "WaterExchange", name := "claim", desc := "(II)I" } : MethodName) ∈ GW := gw_1 (List.mem_of_getElem? (i := 159) rfl) rfl
theorem wk_1_160 : Cond.code ({ cls := "WaterExchange", name := "claim", desc := "(II)I" } : MethodName) prog_1_method_19_code (3 : Nat) (Option.some Jvm.ClassFile.FieldType.int) ∈ GW := gw_1 (List.mem_of_getElem? (i := 160) rfl) rfl
theorem wk_4_223 : Cond.fieldLinkNest "WaterExchangeLaw" (32 : Nat) "WaterExchangeLaw$Made" "reaches" "I" "WaterExchangeLaw" ∈ NW := gn_4 (List.mem_of_getElem? (i := 223) rfl) rfl
theorem wk_5_22 : Cond.methodLink "WaterExchangeLaw" (69 : Nat) ({ cls := "WaterExchange", name := "reach", desc := "(II)I" } : MethodName) ∈ GW := gw_5 (List.mem_of_getElem? (i := 22) rfl) rfl
theorem wk_5_23 : Cond.instanceMethod ({ cls := "WaterExchange", name := "reach", desc := "(II)I" } : MethodName) ∈ GW := gw_5 (List.mem_of_getElem? (i := 23) rfl) rfl
theorem wk_5_24 : Cond.selects "WaterExchange" ({ cls := "WaterExchange", name := "reach", desc := "(II)I" } : MethodName) ({ cls := "WaterExchange", name := "reach", desc := "(II)I" } : MethodName) ∈ GW := gw_5 (List.mem_of_getElem? (i := 24) rfl) rfl
theorem wk_5_25 : Cond.code ({ cls := "WaterExchange", name := "reach", desc := "(II)I" } : MethodName) prog_1_method_10_code (3 : Nat) (Option.some Jvm.ClassFile.FieldType.int) ∈ GW := gw_5 (List.mem_of_getElem? (i := 25) rfl) rfl
theorem hd_L_fits : yL_fits.cls = RL ∧ yL_fits.cls ≠ "java/lang/invoke/MethodHandle" ∧ yL_fits.cls ≠ "java/lang/invoke/VarHandle" ∧ (parseMethodDescriptor yL_fits.desc).map (fun d => d.parameters.length) = some 6 := by decide +kernel
abbrev rm_fits : Room := { frames := 8, cells := 64, slots := 384, locals := 160 }
def ow (its : Nat) : Int32 := if its = 0 then 1 else 0
/-- the flow array, Made -/
def yF (E : Ev) (B f0 m0 : Nat) (fl mv : Nat → Int32) : va_W := [(f0, .inl (eC E 1, 6, .inl fl)), (m0, .inr (6, fM B mv))]
/-- a claim at which the law looks -/
def FQ (μ : Mm) (z : Nat → Int32) (g : Nat → Int64) (cl its r reach x : Nat) : Prop := NV μ 1 z g ∧ (Rv z ∧ (cl < ct z 56 ∧ ((z (242 + 8 * cl + 0) = nI its ∧ (z (242 + 8 * cl + 1) = nI r ∧ z (242 + 8 * cl + 3) = nI reach)) ∧ (its ≤ 2 ∧ (r < ct z 2 ∧ (reach < ct z 0 ∧ x ≤ 1000))))))
section FQS
variable {μ : Mm} {z : Nat → Int32} {g : Nat → Int64} {cl its r reach x : Nat}
theorem FQ.c0 (h : FQ μ z g cl its r reach x) : F_X3_claim (nI cl) 0 μ = some (0, nI its) := (x3_clm (k := 0) h.1 h.2.2.1 (by decide)).trans (by rw [h.2.2.2.1.1])
theorem FQ.c1 (h : FQ μ z g cl its r reach x) : F_X3_claim (nI cl) 1 μ = some (0, nI r) := (x3_clm (k := 1) h.1 h.2.2.1 (by decide)).trans (by rw [h.2.2.2.1.2.1])
theorem FQ.c3 (h : FQ μ z g cl its r reach x) : F_X3_claim (nI cl) 3 μ = some (0, nI reach) := (x3_clm (k := 3) h.1 h.2.2.1 (by decide)).trans (by rw [h.2.2.2.1.2.2])
theorem FQ.cN (h : FQ μ z g cl its r reach x) {k v : Nat} (hk : k < 8) (hv : z (242 + 8 * cl + k) = nI v) : F_X3_claim (nI cl) (nI k) μ = some (0, nI v) := (x3_clm (k := k) h.1 h.2.2.1 hk).trans (by rw [hv])
theorem FQ.rf (h : FQ μ z g cl its r reach x) : Rf z r := h.2.1.2.2.2.2.2 r h.2.2.2.2.2.1
theorem FQ.r4 (h : FQ μ z g cl its r reach x) : F_X3_right (nI r) 4 μ = some (0, nI (ct z (58 + 10 * r + 4))) := (x3_rig (k := 4) h.1 h.2.2.2.2.2.1 (by decide)).trans (by rw [← h.rf.2.2.2.2.1.1])
theorem FQ.r5 (h : FQ μ z g cl its r reach x) : F_X3_right (nI r) 5 μ = some (0, nI (ct z (58 + 10 * r + 5))) := (x3_rig (k := 5) h.1 h.2.2.2.2.2.1 (by decide)).trans (by rw [← h.rf.2.2.1.1])
theorem FQ.r6 (h : FQ μ z g cl its r reach x) : F_X3_right (nI r) 6 μ = some (0, nI (ct z (58 + 10 * r + 6))) := (x3_rig (k := 6) h.1 h.2.2.2.2.2.1 (by decide)).trans (by rw [← h.rf.2.2.2.2.2.1.1])
theorem FQ.mn (h : FQ μ z g cl its r reach x) {q : Nat} (hq : q < ct z 0) : F_X3_reach (nI q) 1 μ = some (0, nI (ct z (14 + q))) := (x3_rea (k := 1) h.1 hq (by decide)).trans (by rw [show 8 + 6 * 1 + q = 14 + q by omega, ← (h.2.1.2.2.2.2.1 q hq).1])
theorem FQ.n0 (h : FQ μ z g cl its r reach x) : ct z 0 ≤ 6 := h.2.1.1.2
theorem FQ.to (h : FQ μ z g cl its r reach x) : ct z (58 + 10 * r + 5) < 6 := by
  have := h.rf.2.2.1.2
  have := h.n0
  omega
end FQS
theorem bk_le {z : Nat → Int32} {its r x : Nat} (h4 : ct z (58 + 10 * r + 4) ≤ 90) : backN (kpC z its r) (rtC z its r) x ≤ x := by
  unfold backN
  have hr : rtC z its r ≤ 100 := by
    unfold rtC
    split <;> omega
  have h1 : x - x * kpC z its r / 100 ≤ x := Nat.sub_le _ _
  have h2 : (x - x * kpC z its r / 100) * rtC z its r ≤ x * 100 := Nat.mul_le_mul h1 hr
  omega
theorem nI_sub_lt {a b d : Nat} (ha : a < 2 ^ 30) (hb : b < 2 ^ 30) (hd : d < 2 ^ 30) : nI d ≤ nI a - nI b ↔ b + d ≤ a := by
  rw [Int32.le_iff_toInt_le, pk_sub_toInt ha hb, nI_toInt (by omega)]
  omega
section FITS
variable {E : Ev} {p : Program} {l : Launch} {e : Env} {u : State} {m : MethodId} {args : Array Value} {below : List Frame} {meth : Method} {c : Code} {B : Nat} {μ : Mm} {z : Nat → Int32} {g : Nat → Int64} {f0 m0 cl x its r reach : Nat} {dz : Int32} {fl : Nat → Int32} {mv : Nat → Int32} {P : Option Value → va_W → Prop}
set_option maxHeartbeats 4000000 in
set_option maxRecDepth 100000 in
theorem fits_pre (C : Cq E p u m args meth c cL_fits 12 RL) (hU : (eU E).1 = 0) (hB : eB E ≤ B) (hl9 : l.stackTraces = false) (hq : FQ μ z g cl its r reach x) (kk : ∀ k n, k ≤ 8 → n ≤ 48 → Gz E p l e rm_fits u m args below meth c k n 12 (MQ below (qSz E P) args u rm_fits.cells rm_fits.slots (eA E)) 74 [(9, .int (nI (backN (kpC z its r) (rtC z its r) x))), (8, .int (nI (bkC z its r x))), (7, .int (ow its)), (6, .int (nI r)), (0, .ref B), (1, .ref m0), (2, .int (nI cl)), (3, .int (nI x)), (4, .ref f0), (5, .int dz)] [] (yF E B f0 m0 fl mv ++ wl (eX E B) μ)) : Gz E p l e rm_fits u m args below meth c 0 0 12 (MQ below (qSz E P) args u rm_fits.cells rm_fits.slots (eA E)) 0 [(0, .ref B), (1, .ref m0), (2, .int (nI cl)), (3, .int (nI x)), (4, .ref f0), (5, .int dz)] [] (yF E B f0 m0 fl mv ++ wl (eX E B) μ) := by
  have h4 := hq.rf.2.2.2.2.1.2
  have h6 := hq.rf.2.2.2.2.2.1.2
  have hx := hq.2.2.2.2.2.2.2
  have hit := hq.2.2.2.2.1
  refine gz_aload_n C dL_fits_0 rfl 0 rfl ?_
  refine gz_iload_n C dL_fits_1 rfl 2 rfl ?_
  refine gz_iconst (v := 1) C dL_fits_2 (by decide) ?_
  refine gz_ask (As := [.int (nI cl), .int 1]) (rest := []) C hU hB (cx_ct (c_X3_claim (E := eX E B) (Nat.le_refl 295) hl9 (hq.c1))) wk_1_157 wk_1_158 wk_1_159 wk_1_3 wk_1_160 hd_X3_claim ⟨(Nat.le_of_ble_eq_true rfl), (Nat.le_of_ble_eq_true rfl)⟩ (Nat.le_of_ble_eq_true rfl) ⟨(Nat.le_of_ble_eq_true rfl), (Nat.le_of_ble_eq_true rfl)⟩ dL_fits_3 rfl rfl ?_
  refine gz_istore (i := 6) C dL_fits_6 (by decide) rfl ?_
  refine gz_aload_n C dL_fits_8 rfl 1 rfl ?_
  refine gz_iload_n C dL_fits_9 rfl 3 rfl ?_
  refine gz_iconst (v := 0) C dL_fits_10 (by decide) ?_
  refine gz_ask (As := [.int (nI cl), .int 0]) (rest := []) C hU hB (cx_ct (c_X3_claim (E := eX E B) (Nat.le_refl 295) hl9 (hq.c0))) wk_1_157 wk_1_158 wk_1_159 wk_1_3 wk_1_160 hd_X3_claim ⟨(Nat.le_of_ble_eq_true rfl), (Nat.le_of_ble_eq_true rfl)⟩ (Nat.le_of_ble_eq_true rfl) ⟨(Nat.le_of_ble_eq_true rfl), (Nat.le_of_ble_eq_true rfl)⟩ dL_fits_11 rfl rfl ?_
  by_cases h0 : its = 0
  · have hk : kpC z its r = ct z (58 + 10 * r + 6) := if_pos h0
    have ht : rtC z its r = ct z (58 + 10 * r + 4) := if_pos h0
    have ho : ow its = 1 := if_pos h0
    refine gz_if_ne_f (tgt := 21) C dL_fits_14 (by decide) (by rw [h0]; rfl) ?_
    refine gz_iconst (v := 1) C dL_fits_17 (by decide) ?_
    refine gz_goto (tgt := 22) C dL_fits_18 (by decide) ?_
    refine gz_istore (i := 7) C dL_fits_22 (by decide) rfl ?_
    refine gz_iload C dL_fits_24 0 rfl ?_
    refine gz_if_eq_f (tgt := 45) C dL_fits_26 (by decide) (by decide) ?_
    refine gz_iload_n C dL_fits_29 rfl 5 rfl ?_
    refine gz_aload_n C dL_fits_30 rfl 2 rfl ?_
    refine gz_iload C dL_fits_31 1 rfl ?_
    refine gz_bipush (v := 6) C dL_fits_33 (by decide) ?_
    refine gz_ask (As := [.int (nI r), .int 6]) (rest := [.int (nI x)]) C hU hB (cx_ct (c_X3_right (E := eX E B) (Nat.le_refl 295) hl9 (hq.r6))) wk_1_144 wk_1_145 wk_1_146 wk_1_3 wk_1_147 hd_X3_right ⟨(Nat.le_of_ble_eq_true rfl), (Nat.le_of_ble_eq_true rfl)⟩ (Nat.le_of_ble_eq_true rfl) ⟨(Nat.le_of_ble_eq_true rfl), (Nat.le_of_ble_eq_true rfl)⟩ dL_fits_35 rfl rfl ?_
    refine gz_imul C dL_fits_38 ?_
    refine gz_bipush (v := 100) C dL_fits_39 (by decide) ?_
    have m1 : x * ct z (58 + 10 * r + 6) ≤ 1000 * 100 := Nat.mul_le_mul hx h6
    refine gz_idiv C dL_fits_41 (by decide) ?_
    rw [pk_mul, show (nI (x * ct z (58 + 10 * r + 6)) : Int32) / 100 = nI (x * ct z (58 + 10 * r + 6) / 100) from pk_div (d := 100) (by omega) (by decide) (by decide)]
    refine gz_goto (tgt := 46) C dL_fits_42 (by decide) ?_
    refine gz_istore (i := 8) C dL_fits_46 (by decide) rfl ?_
    refine gz_iload C dL_fits_48 1 rfl ?_
    refine gz_if_eq_f (tgt := 71) C dL_fits_50 (by decide) (by decide) ?_
    refine gz_iload_n C dL_fits_53 rfl 6 rfl ?_
    refine gz_iload C dL_fits_54 0 rfl ?_
    refine gz_isub C dL_fits_56 ?_
    refine gz_aload_n C dL_fits_57 rfl 3 rfl ?_
    refine gz_iload C dL_fits_58 2 rfl ?_
    refine gz_iconst (v := 4) C dL_fits_60 (by decide) ?_
    refine gz_ask (As := [.int (nI r), .int 4]) (rest := [.int ((nI x) - (nI (x * ct z (58 + 10 * r + 6) / 100)))]) C hU hB (cx_ct (c_X3_right (E := eX E B) (Nat.le_refl 295) hl9 (hq.r4))) wk_1_144 wk_1_145 wk_1_146 wk_1_3 wk_1_147 hd_X3_right ⟨(Nat.le_of_ble_eq_true rfl), (Nat.le_of_ble_eq_true rfl)⟩ (Nat.le_of_ble_eq_true rfl) ⟨(Nat.le_of_ble_eq_true rfl), (Nat.le_of_ble_eq_true rfl)⟩ dL_fits_61 rfl rfl ?_
    refine gz_imul C dL_fits_64 ?_
    refine gz_bipush (v := 100) C dL_fits_65 (by decide) ?_
    have m2 : x * ct z (58 + 10 * r + 6) / 100 ≤ x := by
      have : x * ct z (58 + 10 * r + 6) ≤ x * 100 := Nat.mul_le_mul_left x h6
      omega
    have m3 : (x - x * ct z (58 + 10 * r + 6) / 100) * ct z (58 + 10 * r + 4) ≤ 1000 * 100 := Nat.mul_le_mul (by omega) (by omega)
    refine gz_idiv C dL_fits_67 (by decide) ?_
    rw [pk_sub m2, pk_mul, show (nI ((x - x * ct z (58 + 10 * r + 6) / 100) * ct z (58 + 10 * r + 4)) : Int32) / 100 = nI ((x - x * ct z (58 + 10 * r + 6) / 100) * ct z (58 + 10 * r + 4) / 100) from pk_div (d := 100) (by omega) (by decide) (by decide)]
    refine gz_goto (tgt := 72) C dL_fits_68 (by decide) ?_
    refine gz_istore (i := 9) C dL_fits_72 (by decide) rfl ?_
    refine gz_lv (lv' := [(9, .int (nI (backN (kpC z its r) (rtC z its r) x))), (8, .int (nI (bkC z its r x))), (7, .int (ow its)), (6, .int (nI r)), (0, .ref B), (1, .ref m0), (2, .int (nI cl)), (3, .int (nI x)), (4, .ref f0), (5, .int dz)]) (by unfold backN bkC; rw [hk, ht, ho]; rfl) (kk _ _ (Nat.le_of_ble_eq_true rfl) (Nat.le_of_ble_eq_true rfl))
  · have hk : kpC z its r = 0 := if_neg h0
    have ht : rtC z its r = 0 := if_neg h0
    have ho : ow its = 0 := if_neg h0
    refine gz_if_ne_t (tgt := 21) C dL_fits_14 (by decide) (nI_ne0 (by omega) (by omega)) ?_
    refine gz_iconst (v := 0) C dL_fits_21 (by decide) ?_
    refine gz_istore (i := 7) C dL_fits_22 (by decide) rfl ?_
    refine gz_iload C dL_fits_24 0 rfl ?_
    refine gz_if_eq_t (tgt := 45) C dL_fits_26 (by decide) rfl ?_
    refine gz_iconst (v := 0) C dL_fits_45 (by decide) ?_
    refine gz_istore (i := 8) C dL_fits_46 (by decide) rfl ?_
    refine gz_iload C dL_fits_48 1 rfl ?_
    refine gz_if_eq_t (tgt := 71) C dL_fits_50 (by decide) rfl ?_
    refine gz_iconst (v := 0) C dL_fits_71 (by decide) ?_
    refine gz_istore (i := 9) C dL_fits_72 (by decide) rfl ?_
    refine gz_lv (lv' := [(9, .int (nI (backN (kpC z its r) (rtC z its r) x))), (8, .int (nI (bkC z its r x))), (7, .int (ow its)), (6, .int (nI r)), (0, .ref B), (1, .ref m0), (2, .int (nI cl)), (3, .int (nI x)), (4, .ref f0), (5, .int dz)]) (by unfold backN bkC; rw [hk, ht, ho, Nat.mul_zero, Nat.mul_zero, Nat.zero_div]; rfl) (kk _ _ (Nat.le_of_ble_eq_true rfl) (Nat.le_of_ble_eq_true rfl))
set_option maxHeartbeats 4000000 in
set_option maxRecDepth 100000 in
theorem fits_l1 (C : Cq E p u m args meth c cL_fits 12 RL) (hrt : meth.sig.returnType = some .boolean) (hU : (eU E).1 = 0) (hB : eB E ≤ B) (hl9 : l.stackTraces = false) (hq : FQ μ z g cl its r reach x) (hF : Flo (ct z 0) fl) (h1 : mv 1 = nI (ct z 0)) (hT : okC z its r reach x fl = true → ∀ k n, k ≤ 40 → n ≤ 240 → Gz E p l e rm_fits u m args below meth c k n 12 (MQ below (qSz E P) args u rm_fits.cells rm_fits.slots (eA E)) 180 [(10, .int (nI (ct z 0))), (9, .int (nI (backN (kpC z its r) (rtC z its r) x))), (7, .int (ow its)), (6, .int (nI r)), (0, .ref B), (1, .ref m0), (2, .int (nI cl)), (3, .int (nI x)), (4, .ref f0), (5, .int dz)] [] (yF E B f0 m0 fl mv ++ wl (eX E B) μ)) (h0 : ¬ okC z its r reach x fl = true → P (some (.int 0)) (yF E B f0 m0 fl mv ++ wl (eX E B) μ)) :
    ∀ (d i k n : Nat), i + d = ct z 0 → reach ≤ i → (∀ q, q < i → reach ≤ q → (byC z its r x q = 0 ∨ byC z its r x q + ct z (14 + q) ≤ ct fl q)) → k + 4 * d ≤ 40 → n + 24 * d ≤ 240 → Gz E p l e rm_fits u m args below meth c k n 12 (MQ below (qSz E P) args u rm_fits.cells rm_fits.slots (eA E)) 113 [(10, .int (nI i)), (9, .int (nI (backN (kpC z its r) (rtC z its r) x))), (7, .int (ow its)), (6, .int (nI r)), (0, .ref B), (1, .ref m0), (2, .int (nI cl)), (3, .int (nI x)), (4, .ref f0), (5, .int dz)] [] (yF E B f0 m0 fl mv ++ wl (eX E B) μ) := by
  have hn := hq.n0
  have hx := hq.2.2.2.2.2.2.2
  have hto := hq.to
  have hbk := bk_le (its := its) (x := x) hq.rf.2.2.2.2.1.2
  have h14 : ∀ q, q < ct z 0 → ct z (14 + q) ≤ 999 := fun q hq0 => (hq.2.1.2.2.2.2.1 q hq0).2
  intro d
  induction d with
  | zero =>
    intro i k n hi hre hok hk hn2
    obtain rfl : i = ct z 0 := by omega
    refine gz_iload C dL_fits_113 0 rfl ?_
    refine gz_aload_n C dL_fits_115 rfl 5 rfl ?_
    refine gz_getN (ci := 6) (N := 7) (T := TX4) C inG_X4 1 rfl rfl 1 (by decide) wk_4_223 rfl dL_fits_116 ?_
    rw [h1]
    refine gz_icmp_ge_t (tgt := 180) C dL_fits_119 (by decide) (nI_le (Nat.le_refl _) (by omega)) ?_
    exact hT (decide_eq_true (fun q h2 h3 => hok q h2 h3)) k n (by omega) (by omega)
  | succ d ih =>
    intro i k n hi hre hok hk hn2
    have hi6 : i < ct z 0 := by omega
    obtain ⟨f1, f2⟩ := hF i hi6
    refine gz_iload C dL_fits_113 0 rfl ?_
    refine gz_aload_n C dL_fits_115 rfl 5 rfl ?_
    refine gz_getN (ci := 6) (N := 7) (T := TX4) C inG_X4 1 rfl rfl 1 (by decide) wk_4_223 rfl dL_fits_116 ?_
    rw [h1]
    refine gz_icmp_ge_f (tgt := 180) C dL_fits_119 (by decide) (nI_ge hi6 (by omega)) ?_
    refine gz_iload_n C dL_fits_122 rfl 7 rfl ?_
    refine gz_iload C dL_fits_123 2 rfl ?_
    have hJ : ∀ (bb k n : Nat), bb ≤ x → byC z its r x i = x - bb → k + 2 + 4 * d ≤ 40 → n + 12 + 24 * d ≤ 240 → Gz E p l e rm_fits u m args below meth c k n 12 (MQ below (qSz E P) args u rm_fits.cells rm_fits.slots (eA E)) 146 [(10, .int (nI i)), (9, .int (nI (backN (kpC z its r) (rtC z its r) x))), (7, .int (ow its)), (6, .int (nI r)), (0, .ref B), (1, .ref m0), (2, .int (nI cl)), (3, .int (nI x)), (4, .ref f0), (5, .int dz)] [.int (nI bb), .int (nI x)] (yF E B f0 m0 fl mv ++ wl (eX E B) μ) := by
      intro bb k n hb hby hk hn2
      refine gz_isub C dL_fits_146 ?_
      rw [pk_sub hb, ← hby]
      have hby2 : byC z its r x i ≤ 1000 := by omega
      refine gz_istore (i := 11) C dL_fits_147 (by decide) rfl ?_
      refine gz_iload C dL_fits_149 0 rfl ?_
      by_cases hz0 : byC z its r x i = 0
      · have hoki : byC z its r x i = 0 ∨ byC z its r x i + ct z (14 + i) ≤ ct fl i := Or.inl hz0
        refine gz_if_le_t (tgt := 174) C dL_fits_151 (by decide) (by rw [hz0]; decide) ?_
        refine gz_iinc (i := 10) (q := 1) (v := (nI (i + 1))) C dL_fits_174 rfl (nI_add _ 1) (by decide) rfl ?_
        refine gz_goto (tgt := 113) C dL_fits_177 (by decide) ?_
        refine gz_sub [0, 2, 3, 4, 5, 6, 7, 8, 9, 10] (lv' := [(10, .int (nI (i + 1))), (9, .int (nI (backN (kpC z its r) (rtC z its r) x))), (7, .int (ow its)), (6, .int (nI r)), (0, .ref B), (1, .ref m0), (2, .int (nI cl)), (3, .int (nI x)), (4, .ref f0), (5, .int dz)]) rfl ?_
        refine ih (i + 1) _ _ (by omega) (by omega) (fun q h2 h3 => ?_) (by omega) (by omega)
        by_cases e9 : q = i
        · rw [e9]
          exact hoki
        · exact hok q (by omega) h3
      · refine gz_if_le_f (tgt := 174) C dL_fits_151 (by decide) (nI_nle (by omega) (by omega)) ?_
        refine gz_aload C dL_fits_154 9 rfl ?_
        refine gz_iload C dL_fits_156 1 rfl ?_
        refine gz_iald (x := fl i) C 0 rfl (nI_in (by omega) (by decide)) (by rw [nI_clamp (by omega)]) dL_fits_158 ?_
        rw [f1]
        refine gz_iload C dL_fits_159 0 rfl ?_
        refine gz_isub C dL_fits_161 ?_
        refine gz_aload_n C dL_fits_162 rfl 5 rfl ?_
        refine gz_iload C dL_fits_163 1 rfl ?_
        refine gz_iconst (v := 1) C dL_fits_165 (by decide) ?_
        refine gz_ask (As := [.int (nI i), .int 1]) (rest := [.int ((nI (ct fl i)) - (nI (byC z its r x i)))]) C hU hB (cx_ct (c_X3_reach (E := eX E B) (Nat.le_refl 295) hl9 (hq.mn hi6))) wk_5_22 wk_5_23 wk_5_24 wk_1_3 wk_5_25 hd_X3_reach ⟨(Nat.le_of_ble_eq_true rfl), (Nat.le_of_ble_eq_true rfl)⟩ (Nat.le_of_ble_eq_true rfl) ⟨by show k + 2 ≤ 64; omega, by show n + 12 ≤ 384; omega⟩ dL_fits_166 rfl rfl ?_
        by_cases hg : byC z its r x i + ct z (14 + i) ≤ ct fl i
        · have hoki : byC z its r x i = 0 ∨ byC z its r x i + ct z (14 + i) ≤ ct fl i := Or.inr hg
          refine gz_icmp_ge_t (tgt := 174) C dL_fits_169 (by decide) ((nI_sub_lt f2 (by omega) (by have := h14 i hi6; omega)).mpr hg) ?_
          refine gz_iinc (i := 10) (q := 1) (v := (nI (i + 1))) C dL_fits_174 rfl (nI_add _ 1) (by decide) rfl ?_
          refine gz_goto (tgt := 113) C dL_fits_177 (by decide) ?_
          refine gz_sub [0, 2, 3, 4, 5, 6, 7, 8, 9, 10] (lv' := [(10, .int (nI (i + 1))), (9, .int (nI (backN (kpC z its r) (rtC z its r) x))), (7, .int (ow its)), (6, .int (nI r)), (0, .ref B), (1, .ref m0), (2, .int (nI cl)), (3, .int (nI x)), (4, .ref f0), (5, .int dz)]) rfl ?_
          refine ih (i + 1) (k + 2) (n + 12) (by omega) (by omega) (fun q h2 h3 => ?_) (by omega) (by omega)
          by_cases e9 : q = i
          · rw [e9]
            exact hoki
          · exact hok q (by omega) h3
        · refine gz_icmp_ge_f (tgt := 174) C dL_fits_169 (by decide) (fun w => hg ((nI_sub_lt f2 (by omega) (by have := h14 i hi6; omega)).mp w)) ?_
          refine gz_iconst (v := 0) C dL_fits_172 (by decide) ?_
          refine gz_end (o := some (.int 0)) (h0 (fun w => ?_)) (gz_zret C hrt (by decide) dL_fits_173 (by show k + 2 ≤ 64; omega) (by show n + 12 ≤ 384; omega))
          rcases of_decide_eq_true w i hi6 hre with w | w
          · exact hz0 w
          · exact hg w
    have hJ2 := hJ
    by_cases hw : its = 0
    · have ho : ow its = 1 := if_pos hw
      refine gz_if_eq_f (tgt := 145) C dL_fits_125 (by decide) (by rw [ho]; decide) ?_
      refine gz_iload C dL_fits_128 0 rfl ?_
      refine gz_aload_n C dL_fits_130 rfl 4 rfl ?_
      refine gz_iload C dL_fits_131 3 rfl ?_
      refine gz_iconst (v := 5) C dL_fits_133 (by decide) ?_
      refine gz_ask (As := [.int (nI r), .int 5]) (rest := [.int (nI i), .int (nI x)]) C hU hB (cx_ct (c_X3_right (E := eX E B) (Nat.le_refl 295) hl9 (hq.r5))) wk_1_144 wk_1_145 wk_1_146 wk_1_3 wk_1_147 hd_X3_right ⟨(Nat.le_of_ble_eq_true rfl), (Nat.le_of_ble_eq_true rfl)⟩ (Nat.le_of_ble_eq_true rfl) ⟨by show k + 2 ≤ 64; omega, by show n + 12 ≤ 384; omega⟩ dL_fits_134 rfl rfl ?_
      by_cases hc : ct z (58 + 10 * r + 5) ≤ i
      · refine gz_icmp_lt_f (tgt := 145) C dL_fits_137 (by decide) (nI_nlt hc (by omega)) ?_
        refine gz_iload C dL_fits_140 1 rfl ?_
        refine gz_goto (tgt := 146) C dL_fits_142 (by decide) ?_
        exact hJ (backN (kpC z its r) (rtC z its r) x) (k + 2) (n + 12) hbk (if_pos hc) (by omega) (by omega)
      · refine gz_icmp_lt_t (tgt := 145) C dL_fits_137 (by decide) (nI_lt (by omega) (by omega)) ?_
        refine gz_iconst (v := 0) C dL_fits_145 (by decide) ?_
        exact hJ 0 (k + 2) (n + 12) (Nat.zero_le _) ((if_neg hc).trans (Nat.sub_zero _).symm) (by omega) (by omega)
    · have ho : ow its = 0 := if_neg hw
      have hb0 : (backN (kpC z its r) (rtC z its r) x) = 0 := by
        unfold backN rtC
        rw [if_neg hw, Nat.mul_zero, Nat.zero_div]
      refine gz_if_eq_t (tgt := 145) C dL_fits_125 (by decide) ho ?_
      refine gz_iconst (v := 0) C dL_fits_145 (by decide) ?_
      refine hJ 0 k n (Nat.zero_le _) ?_ (by omega) (by omega)
      unfold byC byN
      rw [hb0]
      split <;> rfl
/-- the flow, as far as it was lowered -/
def fF (z fl : Nat → Int32) (its r reach x i : Nat) : Nat → Int32 := fun q => if reach ≤ q ∧ q < i then fl q - nI (byC z its r x q) else fl q
set_option maxHeartbeats 4000000 in
set_option maxRecDepth 100000 in
theorem fits_l2 (C : Cq E p u m args meth c cL_fits 12 RL) (hrt : meth.sig.returnType = some .boolean) (hU : (eU E).1 = 0) (hB : eB E ≤ B) (hl9 : l.stackTraces = false) (hq : FQ μ z g cl its r reach x) (hd : dz = 1) (h1 : mv 1 = nI (ct z 0)) (h0 : P (some (.int 1)) (yF E B f0 m0 (flC z fl its r reach x) mv ++ wl (eX E B) μ)) :
    ∀ (d i k n : Nat), i + d = ct z 0 → reach ≤ i → k + 2 * d ≤ 60 → n + 12 * d ≤ 360 → Gz E p l e rm_fits u m args below meth c k n 12 (MQ below (qSz E P) args u rm_fits.cells rm_fits.slots (eA E)) 188 [(10, .int (nI i)), (9, .int (nI (backN (kpC z its r) (rtC z its r) x))), (7, .int (ow its)), (6, .int (nI r)), (0, .ref B), (1, .ref m0), (2, .int (nI cl)), (3, .int (nI x)), (4, .ref f0), (5, .int dz)] [] (yF E B f0 m0 (fF z fl its r reach x i) mv ++ wl (eX E B) μ) := by
  have hn := hq.n0
  have hx := hq.2.2.2.2.2.2.2
  have hto := hq.to
  have hbk := bk_le (its := its) (x := x) hq.rf.2.2.2.2.1.2
  subst hd
  intro d
  induction d with
  | zero =>
    intro i k n hi hre hk hn2
    obtain rfl : i = ct z 0 := by omega
    refine gz_iload C dL_fits_188 0 rfl ?_
    refine gz_aload_n C dL_fits_190 rfl 5 rfl ?_
    refine gz_getN (ci := 6) (N := 7) (T := TX4) C inG_X4 1 rfl rfl 1 (by decide) wk_4_223 rfl dL_fits_191 ?_
    rw [h1]
    refine gz_icmp_ge_t (tgt := 241) C dL_fits_194 (by decide) (nI_le (Nat.le_refl _) (by omega)) ?_
    refine gz_iconst (v := 1) C dL_fits_241 (by decide) ?_
    exact gz_end (o := some (.int 1)) h0 (gz_zret C hrt (by decide) dL_fits_242 (by show k ≤ 64; omega) (by show n ≤ 384; omega))
  | succ d ih =>
    intro i k n hi hre hk hn2
    have hi6 : i < ct z 0 := by omega
    have hfi : fF z fl its r reach x i i = fl i := if_neg (by omega)
    have hup : ∀ v : Int32, v = fl i - nI (byC z its r x i) → upd (fF z fl its r reach x i) i v = fF z fl its r reach x (i + 1) := fun v hv => by
      funext q
      unfold upd fF
      by_cases e9 : q = i
      · rw [if_pos e9, if_pos (by omega), hv, e9]
      · rw [if_neg e9]
        by_cases e8 : reach ≤ q ∧ q < i
        · rw [if_pos e8, if_pos (by omega)]
        · rw [if_neg e8, if_neg (by omega)]
    refine gz_iload C dL_fits_188 0 rfl ?_
    refine gz_aload_n C dL_fits_190 rfl 5 rfl ?_
    refine gz_getN (ci := 6) (N := 7) (T := TX4) C inG_X4 1 rfl rfl 1 (by decide) wk_4_223 rfl dL_fits_191 ?_
    rw [h1]
    refine gz_icmp_ge_f (tgt := 241) C dL_fits_194 (by decide) (nI_ge hi6 (by omega)) ?_
    refine gz_iload C dL_fits_197 9 rfl ?_
    refine gz_if_eq_f (tgt := 241) C dL_fits_199 (by decide) (by decide) ?_
    refine gz_aload C dL_fits_202 8 rfl ?_
    refine gz_iload C dL_fits_204 0 rfl ?_
    refine gz_dup2 C dL_fits_206 ?_
    refine gz_iald (x := fl i) C 0 rfl (nI_in (by omega) (by decide)) (by rw [nI_clamp (by omega)]; exact hfi) dL_fits_207 ?_
    refine gz_iload_n C dL_fits_208 rfl 7 rfl ?_
    refine gz_iload C dL_fits_209 2 rfl ?_
    have hJ : ∀ (bb k n : Nat), bb ≤ x → byC z its r x i = x - bb → k + 2 * d ≤ 60 → n + 12 * d ≤ 360 → Gz E p l e rm_fits u m args below meth c k n 12 (MQ below (qSz E P) args u rm_fits.cells rm_fits.slots (eA E)) 232 [(10, .int (nI i)), (9, .int (nI (backN (kpC z its r) (rtC z its r) x))), (7, .int (ow its)), (6, .int (nI r)), (0, .ref B), (1, .ref m0), (2, .int (nI cl)), (3, .int (nI x)), (4, .ref f0), (5, .int 1)] [.int (nI bb), .int (nI x), .int (fl i), .int (nI i), .ref f0] (yF E B f0 m0 (fF z fl its r reach x i) mv ++ wl (eX E B) μ) := by
      intro bb k n hb hby hk hn2
      refine gz_isub C dL_fits_232 ?_
      rw [pk_sub hb, ← hby]
      refine gz_isub C dL_fits_233 ?_
      refine gz_iast (ν' := yF E B f0 m0 (fF z fl its r reach x (i + 1)) mv ++ wl (eX E B) μ) C 0 rfl (nI_in (by omega) (by decide)) (by rw [nI_clamp (by omega), hup _ rfl]; rfl) dL_fits_234 ?_
      refine gz_iinc (i := 10) (q := 0) (v := (nI (i + 1))) C dL_fits_235 rfl (nI_add _ 1) (by decide) rfl ?_
      refine gz_goto (tgt := 188) C dL_fits_238 (by decide) ?_
      exact ih (i + 1) k n (by omega) (by omega) (by omega) (by omega)
    by_cases hw : its = 0
    · have ho : ow its = 1 := if_pos hw
      refine gz_if_eq_f (tgt := 231) C dL_fits_211 (by decide) (by rw [ho]; decide) ?_
      refine gz_iload C dL_fits_214 0 rfl ?_
      refine gz_aload_n C dL_fits_216 rfl 4 rfl ?_
      refine gz_iload C dL_fits_217 3 rfl ?_
      refine gz_iconst (v := 5) C dL_fits_219 (by decide) ?_
      refine gz_ask (As := [.int (nI r), .int 5]) (rest := [.int (nI i), .int (nI x), .int (fl i), .int (nI i), .ref f0]) C hU hB (cx_ct (c_X3_right (E := eX E B) (Nat.le_refl 295) hl9 (hq.r5))) wk_1_144 wk_1_145 wk_1_146 wk_1_3 wk_1_147 hd_X3_right ⟨(Nat.le_of_ble_eq_true rfl), (Nat.le_of_ble_eq_true rfl)⟩ (Nat.le_of_ble_eq_true rfl) ⟨by show k + 2 ≤ 64; omega, by show n + 12 ≤ 384; omega⟩ dL_fits_220 rfl rfl ?_
      by_cases hc : ct z (58 + 10 * r + 5) ≤ i
      · refine gz_icmp_lt_f (tgt := 231) C dL_fits_223 (by decide) (nI_nlt hc (by omega)) ?_
        refine gz_iload C dL_fits_226 1 rfl ?_
        refine gz_goto (tgt := 232) C dL_fits_228 (by decide) ?_
        exact hJ (backN (kpC z its r) (rtC z its r) x) (k + 2) (n + 12) hbk (if_pos hc) (by omega) (by omega)
      · refine gz_icmp_lt_t (tgt := 231) C dL_fits_223 (by decide) (nI_lt (by omega) (by omega)) ?_
        refine gz_iconst (v := 0) C dL_fits_231 (by decide) ?_
        exact hJ 0 (k + 2) (n + 12) (Nat.zero_le _) ((if_neg hc).trans (Nat.sub_zero _).symm) (by omega) (by omega)
    · have ho : ow its = 0 := if_neg hw
      have hb0 : (backN (kpC z its r) (rtC z its r) x) = 0 := by
        unfold backN rtC
        rw [if_neg hw, Nat.mul_zero, Nat.zero_div]
      refine gz_if_eq_t (tgt := 231) C dL_fits_211 (by decide) ho ?_
      refine gz_iconst (v := 0) C dL_fits_231 (by decide) ?_
      refine hJ 0 k n (Nat.zero_le _) ?_ (by omega) (by omega)
      unfold byC byN
      rw [hb0]
      split <;> rfl
end FITS
section FITC
variable {l : Launch} {E : Ev} {B : Nat} {μ : Mm} {z : Nat → Int32} {g : Nat → Int64} {f0 m0 cl x its r reach : Nat} {fl : Nat → Int32} {mv : Nat → Int32}
set_option maxHeartbeats 4000000 in
set_option maxRecDepth 100000 in
theorem c_L_fits0 (hU : (eU E).1 = 0) (hB : eB E ≤ B) (hl9 : l.stackTraces = false) (hq : FQ μ z g cl its r reach x) (hF : Flo (ct z 0) fl) (h1 : mv 1 = nI (ct z 0)) (hno : ¬ okC z its r reach x fl = true) : Cz l E yL_fits (Cond.code yL_fits cL_fits 12 (some .boolean) :: GW) rm_fits [.ref B, .ref m0, .int (nI cl), .int (nI x), .ref f0, .int 0] (yF E B f0 m0 fl mv ++ wl (eX E B) μ) (fun o ν' => o = some (.int 0) ∧ ν' = yF E B f0 m0 fl mv ++ wl (eX E B) μ) := by
  have hn := hq.n0
  have hre := hq.2.2.2.2.2.2.1
  refine cz_of (by decide) (Nat.le_of_ble_eq_true rfl) (fun p e s m args below meth c C hnm hrt => ?_)
  have C : Cq E p s m args meth c cL_fits 12 RL := C
  refine gz_lv (lv' := [(0, .ref B), (1, .ref m0), (2, .int (nI cl)), (3, .int (nI x)), (4, .ref f0), (5, .int 0)]) rfl ?_
  refine fits_pre C hU hB hl9 hq (fun k n hk hn2 => ?_)
  refine gz_iload C dL_fits_74 9 rfl ?_
  refine gz_if_eq_t (tgt := 105) C dL_fits_76 (by decide) rfl ?_
  refine gz_aload_n C dL_fits_105 rfl 4 rfl ?_
  refine gz_iload_n C dL_fits_106 rfl 6 rfl ?_
  refine gz_iconst (v := 3) C dL_fits_107 (by decide) ?_
  refine gz_ask (As := [.int (nI cl), .int 3]) (rest := []) C hU hB (cx_ct (c_X3_claim (E := eX E B) (Nat.le_refl 295) hl9 (hq.c3))) wk_1_157 wk_1_158 wk_1_159 wk_1_3 wk_1_160 hd_X3_claim ⟨(Nat.le_of_ble_eq_true rfl), (Nat.le_of_ble_eq_true rfl)⟩ (Nat.le_of_ble_eq_true rfl) ⟨by show k + 0 + 2 ≤ 64; omega, by show n + 0 + 12 ≤ 384; omega⟩ dL_fits_108 rfl rfl ?_
  refine gz_istore (i := 10) C dL_fits_111 (by decide) rfl ?_
  refine gz_sub [0, 1, 3, 4, 5, 6, 7, 8, 9, 10] (lv' := [(10, .int (nI reach)), (9, .int (nI (backN (kpC z its r) (rtC z its r) x))), (7, .int (ow its)), (6, .int (nI r)), (0, .ref B), (1, .ref m0), (2, .int (nI cl)), (3, .int (nI x)), (4, .ref f0), (5, .int 0)]) rfl ?_
  refine fits_l1 C hrt hU hB hl9 hq hF h1 (fun w => absurd w hno) (fun _ => ⟨rfl, rfl⟩) (ct z 0 - reach) reach (k + 2) (n + 12) (by omega) (Nat.le_refl _) (fun q h2 h3 => by omega) (by omega) (by omega)
set_option maxHeartbeats 4000000 in
set_option maxRecDepth 100000 in
theorem c_L_fits1 (hU : (eU E).1 = 0) (hB : eB E ≤ B) (hl9 : l.stackTraces = false) (hq : FQ μ z g cl its r reach x) (hF : Flo (ct z 0) fl) (h1 : mv 1 = nI (ct z 0)) (hok : okC z its r reach x fl = true) (h6 : z (242 + 8 * cl + 6) = nI (bkC z its r x)) (h7 : z (242 + 8 * cl + 7) = nI (backN (kpC z its r) (rtC z its r) x)) : Cz l E yL_fits (Cond.code yL_fits cL_fits 12 (some .boolean) :: GW) rm_fits [.ref B, .ref m0, .int (nI cl), .int (nI x), .ref f0, .int 1] (yF E B f0 m0 fl mv ++ wl (eX E B) μ) (fun o ν' => o = some (.int 1) ∧ ν' = yF E B f0 m0 (flC z fl its r reach x) mv ++ wl (eX E B) μ) := by
  have hn := hq.n0
  have hre := hq.2.2.2.2.2.2.1
  refine cz_of (by decide) (Nat.le_of_ble_eq_true rfl) (fun p e s m args below meth c C hnm hrt => ?_)
  have C : Cq E p s m args meth c cL_fits 12 RL := C
  refine gz_lv (lv' := [(0, .ref B), (1, .ref m0), (2, .int (nI cl)), (3, .int (nI x)), (4, .ref f0), (5, .int 1)]) rfl ?_
  refine fits_pre C hU hB hl9 hq (fun k n hk hn2 => ?_)
  refine gz_iload C dL_fits_74 9 rfl ?_
  refine gz_if_eq_f (tgt := 105) C dL_fits_76 (by decide) (by decide) ?_
  refine gz_aload_n C dL_fits_79 rfl 4 rfl ?_
  refine gz_iload_n C dL_fits_80 rfl 6 rfl ?_
  refine gz_bipush (v := 6) C dL_fits_81 (by decide) ?_
  refine gz_ask (As := [.int (nI cl), .int 6]) (rest := []) C hU hB (cx_ct (c_X3_claim (E := eX E B) (Nat.le_refl 295) hl9 (hq.cN (k := 6) (by decide) h6))) wk_1_157 wk_1_158 wk_1_159 wk_1_3 wk_1_160 hd_X3_claim ⟨(Nat.le_of_ble_eq_true rfl), (Nat.le_of_ble_eq_true rfl)⟩ (Nat.le_of_ble_eq_true rfl) ⟨by show k + 0 + 2 ≤ 64; omega, by show n + 0 + 12 ≤ 384; omega⟩ dL_fits_83 rfl rfl ?_
  refine gz_iload C dL_fits_86 1 rfl ?_
  refine gz_icmp_ne_f (tgt := 103) C dL_fits_88 (by decide) rfl ?_
  refine gz_aload_n C dL_fits_91 rfl 4 rfl ?_
  refine gz_iload_n C dL_fits_92 rfl 6 rfl ?_
  refine gz_bipush (v := 7) C dL_fits_93 (by decide) ?_
  refine gz_ask (As := [.int (nI cl), .int 7]) (rest := []) C hU hB (cx_ct (c_X3_claim (E := eX E B) (Nat.le_refl 295) hl9 (hq.cN (k := 7) (by decide) h7))) wk_1_157 wk_1_158 wk_1_159 wk_1_3 wk_1_160 hd_X3_claim ⟨(Nat.le_of_ble_eq_true rfl), (Nat.le_of_ble_eq_true rfl)⟩ (Nat.le_of_ble_eq_true rfl) ⟨by show k + 2 + 2 ≤ 64; omega, by show n + 12 + 12 ≤ 384; omega⟩ dL_fits_95 rfl rfl ?_
  refine gz_iload C dL_fits_98 0 rfl ?_
  refine gz_icmp_eq_t (tgt := 105) C dL_fits_100 (by decide) rfl ?_
  refine gz_aload_n C dL_fits_105 rfl 4 rfl ?_
  refine gz_iload_n C dL_fits_106 rfl 6 rfl ?_
  refine gz_iconst (v := 3) C dL_fits_107 (by decide) ?_
  refine gz_ask (As := [.int (nI cl), .int 3]) (rest := []) C hU hB (cx_ct (c_X3_claim (E := eX E B) (Nat.le_refl 295) hl9 (hq.c3))) wk_1_157 wk_1_158 wk_1_159 wk_1_3 wk_1_160 hd_X3_claim ⟨(Nat.le_of_ble_eq_true rfl), (Nat.le_of_ble_eq_true rfl)⟩ (Nat.le_of_ble_eq_true rfl) ⟨by show k + 4 + 2 ≤ 64; omega, by show n + 24 + 12 ≤ 384; omega⟩ dL_fits_108 rfl rfl ?_
  refine gz_istore (i := 10) C dL_fits_111 (by decide) rfl ?_
  refine gz_sub [0, 1, 3, 4, 5, 6, 7, 8, 9, 10] (lv' := [(10, .int (nI reach)), (9, .int (nI (backN (kpC z its r) (rtC z its r) x))), (7, .int (ow its)), (6, .int (nI r)), (0, .ref B), (1, .ref m0), (2, .int (nI cl)), (3, .int (nI x)), (4, .ref f0), (5, .int 1)]) rfl ?_
  refine fits_l1 C hrt hU hB hl9 hq hF h1 (fun _ k2 n2 hk2 hn3 => ?_) (fun w => absurd hok w) (ct z 0 - reach) reach (k + 6) (n + 36) (by omega) (Nat.le_refl _) (fun q h2 h3 => by omega) (by omega) (by omega)
  refine gz_aload_n C dL_fits_180 rfl 4 rfl ?_
  refine gz_iload_n C dL_fits_181 rfl 6 rfl ?_
  refine gz_iconst (v := 3) C dL_fits_182 (by decide) ?_
  refine gz_ask (As := [.int (nI cl), .int 3]) (rest := []) C hU hB (cx_ct (c_X3_claim (E := eX E B) (Nat.le_refl 295) hl9 (hq.c3))) wk_1_157 wk_1_158 wk_1_159 wk_1_3 wk_1_160 hd_X3_claim ⟨(Nat.le_of_ble_eq_true rfl), (Nat.le_of_ble_eq_true rfl)⟩ (Nat.le_of_ble_eq_true rfl) ⟨by show k2 + 2 ≤ 64; omega, by show n2 + 12 ≤ 384; omega⟩ dL_fits_183 rfl rfl ?_
  refine gz_istore (i := 10) C dL_fits_186 (by decide) rfl ?_
  refine gz_sub [0, 1, 2, 3, 4, 5, 6, 7, 8, 9] (lv' := [(10, .int (nI reach)), (9, .int (nI (backN (kpC z its r) (rtC z its r) x))), (7, .int (ow its)), (6, .int (nI r)), (0, .ref B), (1, .ref m0), (2, .int (nI cl)), (3, .int (nI x)), (4, .ref f0), (5, .int 1)]) rfl ?_
  refine gz_hw (ν' := yF E B f0 m0 (fF z fl its r reach x reach) mv ++ wl (eX E B) μ) (fun H h => ?_) ?_
  · rw [show fF z fl its r reach x reach = fl from funext fun q => if_neg (by omega)]
    exact h
  · exact fits_l2 C hrt hU hB hl9 hq rfl h1 ⟨rfl, rfl⟩ (ct z 0 - reach) reach (k2 + 2) (n2 + 12) (by omega) (Nat.le_refl _) (by omega) (by omega)
end FITC
