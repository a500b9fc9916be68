/-! ===== the law's rounds, its start ===== -/
theorem wk_1_2 : Cond.initialized "WaterExchangeLaw$Made" ∈ GW := gw_1 (List.mem_of_getElem? (i := 2) rfl) rfl
theorem wk_2_114 : Cond.classLink "WaterExchangeLaw" (19 : Nat) "WaterExchangeLaw$Made" ∈ GW := gw_2 (List.mem_of_getElem? (i := 114) rfl) rfl
theorem wk_2_115 : Cond.instantiable "WaterExchangeLaw$Made" (7 : Nat) ∈ GW := gw_2 (List.mem_of_getElem? (i := 115) rfl) rfl
theorem wk_2_116 : Cond.methodLink "WaterExchangeLaw" (21 : Nat) ({ cls := "WaterExchangeLaw$Made", name := "<init>", desc := "(LWaterExchangeLaw$Random;)V" } : MethodName) ∈ GW := gw_2 (List.mem_of_getElem? (i := 116) rfl) rfl
theorem wk_2_117 : Cond.instanceMethod ({ cls := "WaterExchangeLaw$Made", name := "<init>", desc := "(LWaterExchangeLaw$Random;)V" } : MethodName) ∈ GW := gw_2 (List.mem_of_getElem? (i := 117) rfl) rfl
theorem wk_2_118 : Cond.code ({ cls := "WaterExchangeLaw$Made", name := "<init>", desc := "(LWaterExchangeLaw$Random;)V" } : MethodName) prog_6_method_1_code (8 : Nat) (Option.none : Option Jvm.ClassFile.FieldType) ∈ GW := gw_2 (List.mem_of_getElem? (i := 118) rfl) rfl
theorem wk_4_221 : Cond.fieldLinkNest "WaterExchangeLaw" (28 : Nat) "WaterExchangeLaw$Made" "x" "LWaterExchange;" "WaterExchangeLaw" ∈ NW := gn_4 (List.mem_of_getElem? (i := 221) rfl) rfl
theorem wk_4_229 : Cond.fieldLinkNest "WaterExchangeLaw" (24 : Nat) "WaterExchangeLaw$Made" "good" "Z" "WaterExchangeLaw" ∈ NW := gn_4 (List.mem_of_getElem? (i := 229) rfl) rfl
theorem wk_5_15 : Cond.methodLink "WaterExchangeLaw" (10 : Nat) ({ cls := "WaterExchangeLaw", name := "draw", desc := "([II)I" } : MethodName) ∈ GW := gw_5 (List.mem_of_getElem? (i := 15) rfl) rfl
theorem wk_5_16 : Cond.static ({ cls := "WaterExchangeLaw", name := "draw", desc := "([II)I" } : MethodName) ∈ GW := gw_5 (List.mem_of_getElem? (i := 16) rfl) rfl
theorem wk_5_17 : Cond.code ({ cls := "WaterExchangeLaw", name := "draw", desc := "([II)I" } : MethodName) method_2_code (2 : Nat) (Option.some Jvm.ClassFile.FieldType.int) ∈ GW := gw_5 (List.mem_of_getElem? (i := 17) rfl) rfl
theorem wk_5_5 : Cond.classLink "WaterExchangeLaw" (8 : Nat) "WaterExchangeLaw$Random" ∈ GW := gw_5 (List.mem_of_getElem? (i := 5) rfl) rfl
theorem wk_5_6 : Cond.instantiable "WaterExchangeLaw$Random" (1 : Nat) ∈ GW := gw_5 (List.mem_of_getElem? (i := 6) rfl) rfl
theorem wk_5_7 : Cond.methodLink "WaterExchangeLaw" (16 : Nat) ({ cls := "WaterExchangeLaw$Random", name := "<init>", desc := "(I)V" } : MethodName) ∈ GW := gw_5 (List.mem_of_getElem? (i := 7) rfl) rfl
theorem wk_5_8 : Cond.instanceMethod ({ cls := "WaterExchangeLaw$Random", name := "<init>", desc := "(I)V" } : MethodName) ∈ GW := gw_5 (List.mem_of_getElem? (i := 8) rfl) rfl
theorem wk_5_9 : Cond.code ({ cls := "WaterExchangeLaw$Random", name := "<init>", desc := "(I)V" } : MethodName) prog_7_method_1_code (2 : Nat) (Option.none : Option Jvm.ClassFile.FieldType) ∈ GW := gw_5 (List.mem_of_getElem? (i := 9) rfl) rfl
theorem hd_X4_init : yX4_init.cls ≠ "java/lang/invoke/MethodHandle" ∧ yX4_init.cls ≠ "java/lang/invoke/VarHandle" ∧ (parseMethodDescriptor yX4_init.desc).map (fun d => d.parameters.length) = some 1 := by decide +kernel
theorem df_X5 : ∀ j, j < 1 → defaultValue (tyX5 j) = vp_V [.int 0] j := by
  intro j hj
  obtain rfl : j = 0 := by omega
  rfl
theorem df_X4 : ∀ j, j < 7 → defaultValue (tyX4 j) = vp_V [.null, .int 0, .int 0, .int 0, .int 0, .int 0, .int 0] j := by
  intro j hj
  rcases (show j = 0 ∨ j = 1 ∨ j = 2 ∨ j = 3 ∨ j = 4 ∨ j = 5 ∨ j = 6 by omega) with rfl | rfl | rfl | rfl | rfl | rfl | rfl <;> rfl
/-- so much a month, so much a round (named, for large numbers are slow to multiply) -/
def bmC : Nat → Nat
  | 0 => 0
  | d + 1 => bmC d + 3000
def bmS : Nat → Nat
  | 0 => 0
  | d + 1 => bmS d + 18000
def blC : Nat → Nat
  | 0 => 0
  | d + 1 => blC d + 43100
def blS : Nat → Nat
  | 0 => 0
  | d + 1 => blS d + 953000
theorem bmC_s (d : Nat) : bmC (d + 1) = bmC d + 3000 := rfl
theorem bmS_s (d : Nat) : bmS (d + 1) = bmS d + 18000 := rfl
theorem blC_s (d : Nat) : blC (d + 1) = blC d + 43100 := rfl
theorem blS_s (d : Nat) : blS (d + 1) = blS d + 953000 := rfl
theorem mCS : bmC 14 = 42000 ∧ (bmS 14 = 252000 ∧ (blC 6 = 258600 ∧ blS 6 = 5718000)) := by decide +kernel
theorem made_c : rm_made.cells = 1000 := rfl
theorem made_s : rm_made.slots = 700000 := rfl
section LWR
variable {E : Ev} {p : Program} {l : Launch} {e : Env} {R : Room} {s : State} {m : MethodId} {args : Array Value} {below : List Frame} {meth : Method} {c : Code} {k n nL : Nat} {Q : State → Prop} {cc : ByteArray} {own : String} {pc : Nat} {lv : List (Nat × Value)} {rest : List Value} {ν : va_W} {b L : Nat} {xs : Nat → Int32}
theorem gz_draw (C : Cq E p s m args meth c cc nL own) (X : Sx E s b L xs) {index i : Nat} (hi : i < L) (hL : L ≤ 260) (w1 : Cond.methodLink own index yL_draw ∈ GW) (w2 : Cond.static yL_draw ∈ GW) (w4 : Cond.initialized RL ∈ GW) (w5 : Cond.code yL_draw cL_draw 2 (some .int) ∈ GW) (hR : 2 ≤ R.frames ∧ 60 ≤ R.locals) (hw : (rest.map fun v => v.category).sum ≤ 8) (hf : k + 0 ≤ R.cells ∧ n + 0 ≤ R.slots) (d : decode cc pc = .ok (.invokestatic index, 3)) (kk : ∀ v, Gz E p l e R s m args below meth c k n nL Q (pc + 3) lv (.int v :: rest) ν) : Gz E p l e R s m args below meth c k n nL Q pc lv (.int (nI i) :: .ref b :: rest) ν := by
  refine gz_callS (rest := rest) (a := [Value.ref b, Value.int (nI i)].toArray) (mc := 0) (ms := 0) (P := fun o ν' => (∃ v, o = some (.int v)) ∧ ν' = ν) (fun H locs ls hH hS hl => va_runS (As := [.ref b, .int (nI i)]) (rest := rest) ⟨C.1, C.2.1, C.2.2.1, C.2.2.2.1, C.2.2.2.2.1⟩ (c_L_draw hi hL) (va_cwS 2 C.2.2.2.2.1 (gw_in (gw_app (P := fun w => w ∈ GW) (gw_cons w1 (gw_cons w2 (gw_cons w4 gw_nil))) (gw_ws w5))) rfl rfl rfl hd_L_draw.2 ⟨by have := hR.1; show 1 + 1 ≤ R.frames; omega, by have := hR.2; show 8 + (2 + 11) + 20 ≤ R.locals; omega⟩) ⟨qPd_blind E ν b L xs _, fun U hU hW => ⟨rfl, qPz_at hH hS C.2.2.2.2.2.2.1 C.2.2.2.2.2.2.2.1 C.2.2.2.2.2.2.2.2 hU hW, ?_, ?_, X.2.2⟩⟩ rfl rfl hl.1 rfl (lv_room hw) d hf) (fun o ν' hP => ?_)
  · obtain ⟨cell, h1, h2⟩ := X.1
    have h3 : va_X b L xs s U.heap := ⟨cell, by rw [hU]; exact (hS.2.1 b X.2.1 X.2.2).trans h1, h2⟩
    exact va_X.moved hW.alike h3
  · rw [hU]
    exact Nat.lt_of_lt_of_le X.2.1 hS.1
  · obtain ⟨⟨v, rfl⟩, rfl⟩ := hP
    exact kk v
theorem gz_made (C : Cq E p s m args meth c cc nL own) (hPx : Px args s) (hU0 : (eU E).1 = 0) (hAO : va_AO RX1 s) (hl9 : l.stackTraces = false) {m0 r0 index : Nat} {v : Int32} (w1 : Cond.methodLink own index yX4_init ∈ GW) (w2 : Cond.instanceMethod yX4_init ∈ GW) (w3 : Cond.initialized RX4 ∈ GW) (w5 : Cond.code yX4_init cX4_init 8 none ∈ GW) (hR : 13 ≤ R.frames ∧ 480 ≤ R.locals) (hw : (rest.map fun v => v.category).sum ≤ 8) (hf : k + rm_made.cells ≤ R.cells ∧ n + rm_made.slots ≤ R.slots) (d : decode cc pc = .ok (.invokespecial index, 3)) (kk : ∀ ν', qMd E m0 none ν' → Gz E p l e R s m args below meth c (k + 1000) (n + 700000) nL Q (pc + 3) lv rest ν') : Gz E p l e R s m args below meth c k n nL Q pc lv (.ref r0 :: .ref m0 :: rest) (yM m0 r0 [.null, .int 0, .int 0, .int 0, .int 0, .int 0, .int 0] v) := by
  refine gz_callS (rest := rest) (a := [Value.ref m0, Value.ref r0].toArray) (mc := rm_made.cells) (ms := rm_made.slots) (P := qMd E m0) (fun H locs ls hH hS hl => va_runI (As := [.ref r0]) (rest := rest) (b := m0) ⟨C.1, C.2.1, C.2.2.1, C.2.2.2.1, hPx⟩ (c_X4_init (v := v) hU0 hl9) (cwI 1 hPx (gp_in (gw_cons (P := fun w => w ∈ GP) (gp_w w5) (fun w h => h))) rfl rfl rfl (hPx _ (gp_w w3)) (hPx _ (gp_w w1)) (hPx _ (gp_w w2)) rfl hd_X4_init ⟨by have := hR.1; show 12 + 1 ≤ R.frames; omega, by have := hR.2; show 8 + (8 + 11) + 430 ≤ R.locals; omega⟩) ⟨qMp_blind E (yM m0 r0 [.null, .int 0, .int 0, .int 0, .int 0, .int 0, .int 0] v) _, fun U hU hW => ⟨rfl, qPz_at hH hS C.2.2.2.2.2.2.1 C.2.2.2.2.2.2.2.1 C.2.2.2.2.2.2.2.2 hU hW, va_AO.moved hW.alike hAO⟩⟩ rfl rfl hl.1 rfl (lv_room hw) d hf) (fun o ν' hP => ?_)
  have ho : o = none := hP.1
  subst ho
  exact gz_widen (k' := k + 1000) (n' := n + 700000) (Nat.le_of_eq (congrArg (fun x => k + x) made_c)) (Nat.le_of_eq (congrArg (fun x => n + x) made_s)) (kk ν' hP)
end LWR
section LWL
variable {E : Ev} {p : Program} {l : Launch} {e : Env} {u : State} {m : MethodId} {args : Array Value} {below : List Frame} {meth : Method} {c : Code} {Q : State → Prop} {b L : Nat} {xs : Nat → Int32}
set_option maxHeartbeats 4000000 in
set_option maxRecDepth 100000 in
theorem law_months {B m0 r0 i : Nat} {mv : Nat → Int32} (C : Cq E p u m args meth c cL_law 15 RL) (hU : (eU E).1 = 0) (hB : eB E ≤ B) (hl9 : l.stackTraces = false) {K N : Nat} (hK : K ≤ 400000) (hN : N ≤ 6000000) (kk : ∀ (k n : Nat), k ≤ K → n ≤ N → Gz E p l e room_1 u m args below meth c k n 15 Q 2 [(1, .int (nI (i + 1))), (0, .ref b)] [] (([] : va_W))) : ∀ (d t k n : Nat) (μ : Mm) (z : Nat → Int32) (g : Nat → Int64), t + d = 14 → k + bmC d ≤ K → n + bmS d ≤ N → NV μ 1 z g → Ok t z → z 5 = nI t → (∃ (c1 : Nat) (p1 : Nat → Nat) (S1 : Nat → Sh), PC μ c1 p1 S1) → ct z 0 ≠ 0 → mv 1 = nI (ct z 0) → Gz E p l e room_1 u m args below meth c k n 15 Q 54 [(5, .int (nI t)), (4, .ref B), (3, .ref m0), (2, .ref r0), (1, .int (nI i)), (0, .ref b)] [] ([(m0, .inr (6, fM B mv))] ++ wl (eX E B) μ) := by
  intro d
  induction d with
  | zero =>
    intro t k n μ z g ht hk hn hV hok h5 hP h0 h1
    obtain rfl : t = 14 := by omega
    refine gz_iload C dL_law_54 0 rfl ?_
    refine gz_bipush (v := 14) C dL_law_56 (by decide) ?_
    refine gz_icmp_ge_t (tgt := 376) C dL_law_58 (by decide) (by decide) ?_
    refine gz_iinc (i := 1) (q := 4) (v := nI (i + 1)) C dL_law_376 rfl (nI_add _ 1) (by decide) rfl ?_
    refine gz_goto (tgt := 2) C dL_law_379 (by decide) ?_
    refine gz_sub [0, 5] (lv' := [(1, .int (nI (i + 1))), (0, .ref b)]) rfl ?_
    refine gz_hw (ν' := []) (fun H h => hw_subl (List.nil_sublist _) h) ?_
    exact kk k n (by omega) (by omega)
  | succ d ih =>
    intro t k n μ z g ht hk hn hV hok h5 hP h0 h1
    rw [bmC_s, ← Nat.add_assoc] at hk
    rw [bmS_s, ← Nat.add_assoc] at hn
    exact law_month C hU hB hl9 (by omega) hV hok h5 hP h0 h1 (by omega) (by omega) (fun μ1 z1 g1 k1 n1 hk1 hn1 hV1 hok1 h51 hP1 hc1 => ih (t + 1) k1 n1 μ1 z1 g1 (by omega) (by omega) (by omega) hV1 hok1 h51 hP1 (by rw [hc1]; exact h0) (by rw [hc1]; exact h1))
set_option maxHeartbeats 4000000 in
set_option maxRecDepth 100000 in
theorem law_loop (C : Cq E p u m args meth c cL_law 15 RL) (X : Sx E u b L xs) (hPx : Px args u) (hU : (eU E).1 = 0) (hAO : va_AO RX1 u) (hl9 : l.stackTraces = false) (hL : L ≤ 260) (hend : ∀ (k n : Nat) (lv : List (Nat × Value)), k ≤ 300000 → n ≤ 5900000 → Gz E p l e room_1 u m args below meth c k n 15 Q 382 lv [] (([] : va_W))) : ∀ (d i k n : Nat), i + d = 6 → k + blC d ≤ 300000 → n + blS d ≤ 5900000 → Gz E p l e room_1 u m args below meth c k n 15 Q 2 [(1, .int (nI i)), (0, .ref b)] [] (([] : va_W)) := by
  intro d
  induction d with
  | zero =>
    intro i k n hi hk hn
    obtain rfl : i = 6 := by omega
    refine gz_iload_n C dL_law_2 rfl 0 rfl ?_
    refine gz_aload_n C dL_law_3 rfl 1 rfl ?_
    refine gz_slen C X dL_law_4 ?_
    by_cases h9 : L ≤ 6
    · refine gz_icmp_ge_t (tgt := 382) C dL_law_5 (by decide) (nI_le h9 (by omega)) ?_
      exact hend k n _ (by omega) (by omega)
    · refine gz_icmp_ge_f (tgt := 382) C dL_law_5 (by decide) (nI_ge (by omega) (by omega)) ?_
      refine gz_iload_n C dL_law_8 rfl 0 rfl ?_
      refine gz_bipush (v := 6) C dL_law_9 (by decide) ?_
      refine gz_icmp_ge_t (tgt := 382) C dL_law_11 (by decide) (by decide) ?_
      exact hend k n _ (by omega) (by omega)
  | succ d ih =>
    intro i k n hi hk hn
    rw [blC_s, ← Nat.add_assoc] at hk
    rw [blS_s, ← Nat.add_assoc] at hn
    obtain ⟨m14, m14s, -, -⟩ := mCS
    refine gz_iload_n C dL_law_2 rfl 0 rfl ?_
    refine gz_aload_n C dL_law_3 rfl 1 rfl ?_
    refine gz_slen C X dL_law_4 ?_
    by_cases h9 : L ≤ i
    · refine gz_icmp_ge_t (tgt := 382) C dL_law_5 (by decide) (nI_le h9 (by omega)) ?_
      exact hend k n _ (by omega) (by omega)
    · refine gz_icmp_ge_f (tgt := 382) C dL_law_5 (by decide) (nI_ge (by omega) (by omega)) ?_
      refine gz_iload_n C dL_law_8 rfl 0 rfl ?_
      refine gz_bipush (v := 6) C dL_law_9 (by decide) ?_
      refine gz_icmp_ge_f (tgt := 382) C dL_law_11 (by decide) (show ¬ (6 : Int32) ≤ nI i from nI_ge (b := 6) (by omega) (by decide)) ?_
      refine gz_new (ci := 7) (N := 1) (T := TX5) (fs := [.int 0]) C hU inG_X5 tyX5 tyX5_ok wk_5_5 wk_5_6 wk_1_1 rfl df_X5 ⟨by show k + 1 ≤ 600074; omega, by show n + 1 ≤ 7301550; omega⟩ dL_law_14 (fun r0 _ _ _ => ?_)
      refine gz_dupr C dL_law_17 ?_
      refine gz_aload_n C dL_law_18 rfl 1 rfl ?_
      refine gz_iload_n C dL_law_19 rfl 0 rfl ?_
      refine gz_draw (i := i) (rest := [.ref r0, .ref r0]) C X (by omega) hL wk_5_15 wk_5_16 wk_1_0 wk_5_17 ⟨(Nat.le_of_ble_eq_true rfl), (Nat.le_of_ble_eq_true rfl)⟩ (Nat.le_of_ble_eq_true rfl) ⟨by show k + 1 + 0 ≤ 600074; omega, by show n + 1 + 0 ≤ 7301550; omega⟩ dL_law_20 (fun v => ?_)
      refine gz_I (As := [.int v]) (rest := [.ref r0]) C (c_X5_init (a := r0) (v := v) (x := 0) (ν := [])) wk_5_7 wk_5_8 wk_1_1 wk_5_9 rfl hd_X5_init ⟨(Nat.le_of_ble_eq_true rfl), (Nat.le_of_ble_eq_true rfl)⟩ (Nat.le_of_ble_eq_true rfl) ⟨by show k + 1 + 0 ≤ 600074; omega, by show n + 1 + 0 ≤ 7301550; omega⟩ dL_law_23 rfl (fun o ν' hP => ?_)
      obtain ⟨rfl, rfl⟩ := hP
      refine gz_widen (k' := k + 1) (n' := n + 1) (Nat.le_refl (k + 1)) (Nat.le_refl (n + 1)) ?_
      refine gz_astore_n (i := 2) C dL_law_26 rfl (by decide) rfl ?_
      refine gz_new (ci := 6) (N := 7) (T := TX4) (fs := [.null, .int 0, .int 0, .int 0, .int 0, .int 0, .int 0]) C hU inG_X4 tyX4 tyX4_ok wk_2_114 wk_2_115 wk_1_2 rfl df_X4 ⟨by show k + 1 + 1 ≤ 600074; omega, by show n + 1 + 7 ≤ 7301550; omega⟩ dL_law_27 (fun m0 _ _ _ => ?_)
      refine gz_dupr C dL_law_30 ?_
      refine gz_aload_n C dL_law_31 rfl 0 rfl ?_
      refine gz_made (m0 := m0) (r0 := r0) (v := v) (rest := [.ref m0]) C hPx hU hAO hl9 wk_2_116 wk_2_117 wk_1_2 wk_2_118 ⟨(Nat.le_of_ble_eq_true rfl), (Nat.le_of_ble_eq_true rfl)⟩ (Nat.le_of_ble_eq_true rfl) ⟨Nat.le_trans (Nat.le_of_eq (congrArg (fun x => k + 1 + 1 + x) made_c)) (show k + 1 + 1 + 1000 ≤ 600074 by omega), Nat.le_trans (Nat.le_of_eq (congrArg (fun x => n + 1 + 7 + x) made_s)) (show n + 1 + 7 + 700000 ≤ 7301550 by omega)⟩ dL_law_32 (fun ν' hM => ?_)
      obtain ⟨-, B, μ, z, mv, rfl, hB, hV, hok, h5, hP, h0, h1, h6⟩ := hM
      refine gz_astore_n (i := 3) C dL_law_35 rfl (by decide) rfl ?_
      refine gz_aload_n C dL_law_36 rfl 0 rfl ?_
      refine gz_getN (ci := 6) (N := 7) (T := TX4) C inG_X4 0 rfl rfl 6 (by decide) wk_4_229 rfl dL_law_37 ?_
      rw [h6]
      refine gz_if_ne_t (tgt := 45) C dL_law_40 (by decide) (by decide) ?_
      refine gz_aload_n C dL_law_45 rfl 0 rfl ?_
      refine gz_getN (ci := 6) (N := 7) (T := TX4) C inG_X4 0 rfl rfl 0 (by decide) wk_4_221 rfl dL_law_46 ?_
      refine gz_astore (i := 4) C dL_law_49 (by decide) rfl ?_
      refine gz_iconst (v := 0) C dL_law_51 (by decide) ?_
      refine gz_istore (i := 5) C dL_law_52 (by decide) rfl ?_
      refine gz_sub [0, 1, 2, 3, 4, 5] (lv' := [(5, .int (nI 0)), (4, .ref B), (3, .ref m0), (2, .ref r0), (1, .int (nI i)), (0, .ref b)]) rfl ?_
      exact law_months (K := k + 43100) (N := n + 953000) C hU hB hl9 (by omega) (by omega) (fun k2 n2 hk2 hn2 => ih (i + 1) k2 n2 (by omega) (by omega) (by omega)) 14 0 (k + 1 + 1 + 1000) (n + 1 + 7 + 700000) μ z gE (by decide) (by omega) (by omega) hV hok h5 hP h0 h1
end LWL
theorem law_end {E : Ev} {p : Program} {l : Launch} {e : Env} {s : State} {m : MethodId} {below : List Frame} {meth : Method} {c : Code} {b : Nat} (C : Cq E p s m #[Value.ref b] meth c cL_law 15 RL) (hB : eB E = s.heap.size) (hr : meth.sig.returnType = ret) (k n : Nat) (lv : List (Nat × Value)) (hk : k ≤ 300000) (hn : n ≤ 5900000) : Gz E p l e room_1 s m #[Value.ref b] below meth c k n 15 (lw_Z below #[Value.ref b] s) 382 lv [] [] := fun H locs ls hH hS hl =>
  lv_iconst (v := 1) C.1 C.2.1 dL_law_382 (by decide) (va_forget (fun q hq => by have h1 : eB E ≤ q.base := (hS.2.2 q hq).1; omega) (W.widen (show k ≤ 600074 by omega) (show n ≤ 7301550 by omega) (lw_ret C.1 C.2.1 hr C.2.2.2.2.2.1 dL_law_383)))
set_option maxHeartbeats 4000000 in
theorem whole_start {p : Program} {e : Env} {s : State} {m : MethodId} {below : List Frame} {meth : Method} {c : Code} (l : Launch) (hflags : l.flags = flags0) {b L : Nat} {xs : Nat → Int32} (hL : L ≤ 260) (C0 : lw_At p s m meth c b L xs) : W p l e room_1 s m #[Value.ref b] below meth c s.heap [] 0 0 (lw_Z below #[Value.ref b] s) (entryFrame m ([Value.ref b] : List Value).toArray 15) := by
  obtain ⟨hx, hb, hr, hml, hown, hts, hX, hbl, hlocks, hgv⟩ := id C0
  obtain ⟨K, V, hO⟩ := env_old hts hgv
  obtain ⟨D, cy, hK⟩ := env_K hts
  have C : Cq (D, (cy, ((s.heap.size, 0), (K, (V, ((0, 0), qByt.getD 0 [])))))) p s m #[Value.ref b] meth c cL_law 15 RL := ⟨hx, hb, hml, hown, fun w hw => hts w (List.mem_filter.mp hw).1, hlocks, hK _ _ _ _ _, Nat.le_refl _, hO _ _ _⟩
  have hl9 : l.stackTraces = false := by
    unfold Launch.stackTraces
    rw [hflags]
    decide +kernel
  have hl := lv_entry ([.ref b]) (n := 15) (Nat.le_of_ble_eq_true rfl)
  have X : Sx (D, (cy, ((s.heap.size, 0), (K, (V, ((0, 0), qByt.getD 0 [])))))) s b L xs := ⟨hX, hbl, fun z => by have z1 : s.heap.size ≤ b := z.1; omega⟩
  rw [lg_entry_eq]
  have key : Gz (D, (cy, ((s.heap.size, 0), (K, (V, ((0, 0), qByt.getD 0 [])))))) p l e room_1 s m #[Value.ref b] below meth c 0 0 15 (lw_Z below #[Value.ref b] s) 0 [(0, .ref b)] [] ([] : va_W) := by
    refine gz_iconst (v := 0) C dL_law_0 (by decide) ?_
    refine gz_istore_n (i := 1) C dL_law_1 rfl (by decide) rfl ?_
    refine gz_lv (lv' := [(1, .int (nI 0)), (0, .ref b)]) rfl ?_
    exact law_loop C X (px_start hts) rfl (va_AO.of (hts _ in_arr.2.2.2)) hl9 hL (fun k n lv hk hn => law_end C rfl hr k n lv hk hn) 6 0 0 0 (by decide) (by rw [mCS.2.2.1]; decide) (by rw [mCS.2.2.2]; decide)
  exact key s.heap [] _ (hw_iff.mpr ⟨fun q hq => (by cases hq), List.nodup_nil, fun q hq => (by cases hq)⟩) va_S.rf hl
