/-! ===== Made's constructor ===== -/
theorem wk_1_199 : Cond.instantiable "WaterExchange" (9 : Nat) ∈ GW := gw_1 (List.mem_of_getElem? (i := 199) rfl) rfl
theorem wk_2_119 : Cond.methodLink "WaterExchangeLaw$Made" (1 : Nat) ({ cls := "java/lang/Object", name := "<init>", desc := "()V" } : MethodName) ∈ GW := gw_2 (List.mem_of_getElem? (i := 119) rfl) rfl
theorem wk_2_120 : Cond.classLink "WaterExchangeLaw$Made" (7 : Nat) "WaterExchange" ∈ GW := gw_2 (List.mem_of_getElem? (i := 120) rfl) rfl
theorem wk_2_121 : Cond.methodLink "WaterExchangeLaw$Made" (9 : Nat) ({ cls := "WaterExchange", name := "<init>", desc := "()V" } : MethodName) ∈ GW := gw_2 (List.mem_of_getElem? (i := 121) rfl) rfl
theorem wk_2_122 : Cond.instanceMethod ({ cls := "WaterExchange", name := "<init>", desc := "()V" } : MethodName) ∈ GW := gw_2 (List.mem_of_getElem? (i := 122) rfl) rfl
theorem wk_2_123 : Cond.code ({ cls := "WaterExchange", name := "<init>", desc := "()V" } : MethodName) prog_1_method_1_code (2 : Nat) (Option.none : Option Jvm.ClassFile.FieldType) ∈ GW := gw_2 (List.mem_of_getElem? (i := 123) rfl) rfl
theorem wk_3_94 : Cond.classLink "WaterExchangeLaw$Made" (35 : Nat) "java/lang/StringBuilder" ∈ GW := gw_3 (List.mem_of_getElem? (i := 94) rfl) rfl
theorem wk_3_96 : Cond.methodLink "WaterExchangeLaw$Made" (39 : Nat) ({ cls := "java/lang/StringBuilder", name := "<init>", desc := "(Ljava/lang/String;)V" } : MethodName) ∈ GW := gw_3 (List.mem_of_getElem? (i := 96) rfl) rfl
theorem wk_3_97 : Cond.instanceMethod ({ cls := "java/lang/StringBuilder", name := "<init>", desc := "(Ljava/lang/String;)V" } : MethodName) ∈ GW := gw_3 (List.mem_of_getElem? (i := 97) rfl) rfl
theorem wk_3_98 : Cond.code ({ cls := "java/lang/StringBuilder", name := "<init>", desc := "(Ljava/lang/String;)V" } : MethodName) prog_24_method_3_code (2 : Nat) (Option.none : Option Jvm.ClassFile.FieldType) ∈ GW := gw_3 (List.mem_of_getElem? (i := 98) rfl) rfl
theorem wk_4_112 : Cond.methodLink "WaterExchangeLaw$Made" (91 : Nat) ({ cls := "WaterExchange", name := "truncate", desc := "(I)Z" } : MethodName) ∈ GW := gw_4 (List.mem_of_getElem? (i := 112) rfl) rfl
theorem wk_4_113 : Cond.instanceMethod ({ cls := "WaterExchange", name := "truncate", desc := "(I)Z" } : MethodName) ∈ GW := gw_4 (List.mem_of_getElem? (i := 113) rfl) rfl
theorem wk_4_114 : Cond.selects "WaterExchange" ({ cls := "WaterExchange", name := "truncate", desc := "(I)Z" } : MethodName) ({ cls := "WaterExchange", name := "truncate", desc := "(I)Z" } : MethodName) ∈ GW := gw_4 (List.mem_of_getElem? (i := 114) rfl) rfl
theorem wk_4_115 : Cond.code ({ cls := "WaterExchange", name := "truncate", desc := "(I)Z" } : MethodName) prog_1_method_3_code (2 : Nat) (Option.some Jvm.ClassFile.FieldType.boolean) ∈ GW := gw_4 (List.mem_of_getElem? (i := 115) rfl) rfl
theorem wk_4_116 : Cond.methodLink "WaterExchangeLaw$Made" (95 : Nat) ({ cls := "WaterExchange", name := "load", desc := "()I" } : MethodName) ∈ GW := gw_4 (List.mem_of_getElem? (i := 116) rfl) rfl
theorem wk_4_117 : Cond.instanceMethod ({ cls := "WaterExchange", name := "load", desc := "()I" } : MethodName) ∈ GW := gw_4 (List.mem_of_getElem? (i := 117) rfl) rfl
theorem wk_4_118 : Cond.selects "WaterExchange" ({ cls := "WaterExchange", name := "load", desc := "()I" } : MethodName) ({ cls := "WaterExchange", name := "load", desc := "()I" } : MethodName) ∈ GW := gw_4 (List.mem_of_getElem? (i := 118) rfl) rfl
theorem wk_4_119 : Cond.code ({ cls := "WaterExchange", name := "load", desc := "()I" } : MethodName) prog_1_method_4_code (3 : Nat) (Option.some Jvm.ClassFile.FieldType.int) ∈ GW := gw_4 (List.mem_of_getElem? (i := 119) rfl) rfl
theorem wk_4_215 : Cond.methodLink "WaterExchangeLaw$Made" (98 : Nat) ({ cls := "WaterExchange", name := "errorKind", desc := "()I" } : MethodName) ∈ GW := gw_4 (List.mem_of_getElem? (i := 215) rfl) rfl
theorem wk_4_216 : Cond.instanceMethod ({ cls := "WaterExchange", name := "errorKind", desc := "()I" } : MethodName) ∈ GW := gw_4 (List.mem_of_getElem? (i := 216) rfl) rfl
theorem wk_4_217 : Cond.selects "WaterExchange" ({ cls := "WaterExchange", name := "errorKind", desc := "()I" } : MethodName) ({ cls := "WaterExchange", name := "errorKind", desc := "()I" } : MethodName) ∈ GW := gw_4 (List.mem_of_getElem? (i := 217) rfl) rfl
theorem wk_4_218 : Cond.code ({ cls := "WaterExchange", name := "errorKind", desc := "()I" } : MethodName) prog_1_method_6_code (1 : Nat) (Option.some Jvm.ClassFile.FieldType.int) ∈ GW := gw_4 (List.mem_of_getElem? (i := 218) rfl) rfl
theorem wk_4_219 : Cond.methodLink "WaterExchangeLaw$Made" (101 : Nat) ({ cls := "WaterExchange", name := "count", desc := "(I)I" } : MethodName) ∈ GW := gw_4 (List.mem_of_getElem? (i := 219) rfl) rfl
theorem wk_4_228 : Cond.fieldLink "WaterExchangeLaw$Made" (104 : Nat) "WaterExchangeLaw$Made" "good" "Z" ∈ GW := gw_4 (List.mem_of_getElem? (i := 228) rfl) rfl
theorem df_J4 : ∀ j, j < 4 → defaultValue (tyJ4 j) = vp_V [.null, .int 0, .int 0, .int 0] j := by
  intro j hj
  rcases (show j = 0 ∨ j = 1 ∨ j = 2 ∨ j = 3 by omega) with rfl | rfl | rfl | rfl <;> rfl
/-! ===== Made's constructor ===== -/
theorem kb_Z {E : Ev} {b : Nat} (hb : kd b = 1) : KB (mZ E) b := by
  have f := st_f b (kd1_lt hb) hb
  have z : ∀ j, j < 22 → (mZ E).1 (b + j) 0 = stC.getD j 0 := fun j hj => by
    obtain ⟨-, -, f3, f4⟩ := f j hj
    show zI (b + j) 0 = _
    rw [zI_n f4]
    exact (if_pos rfl).trans f3
  exact ⟨(z 1 (by decide)).trans rfl, (z 5 (by decide)).trans rfl, (z 8 (by decide)).trans rfl, (z 12 (by decide)).trans rfl, (z 14 (by decide)).trans rfl, (z 16 (by decide)).trans rfl, (z 18 (by decide)).trans rfl, (z 20 (by decide)).trans rfl⟩
/-- what the exchange holds when it is made -/
def MZ (μ : Mm) : Prop := KB μ 1 ∧ (KB μ 47 ∧ (μ.1 45 2 = nI 0 ∧ ∀ i, i < 8 → μ.1 70 i = nI (71 + 22 * i) ∧ KB μ (71 + 22 * i)))
theorem mk_mem {E : Ev} : ∃ μ1, F_X1_makeEmpty 1 (mZ E) = some μ1 ∧ MZ μ1 := by
  obtain ⟨μ1, e1, N1, F1⟩ := x1_empty (μ := mZ E) kd1 (kb_Z kd1)
  have ft : ∀ a, ¬ Blk 1 a → μ1.1 a = zI a := fun a ha => (F1.1 a ha).1
  refine ⟨μ1, e1, SV.kb N1, (kb_Z (E := E) kd_47).fs F1 (fun a x y => by unfold Blk; omega), ?_, fun i hi => ⟨?_, (kb_Z (E := E) ((show ∀ i, i < 8 → kd (71 + 22 * i) = 1 by decide +kernel) i hi)).fs F1 (fun a x y => by unfold Blk; omega)⟩⟩
  · rw [ft 45 (by unfold Blk; omega)]
    rfl
  · rw [ft 70 (by unfold Blk; omega)]
    exact if_pos rfl
theorem kb_1 {μ μ' : Mm} {b : Nat} (h : KB μ b) (e : ∀ a, b ≤ a → a < b + 22 → μ'.1 a = μ.1 a) : KB μ' b := by
  unfold KB at h ⊢
  rw [e (b + 1) (by omega) (by omega), e (b + 5) (by omega) (by omega), e (b + 8) (by omega) (by omega), e (b + 12) (by omega) (by omega), e (b + 14) (by omega) (by omega), e (b + 16) (by omega) (by omega), e (b + 18) (by omega) (by omega), e (b + 20) (by omega) (by omega)]
  exact h
/-- what the constructor answers -/
def qMd (E : Ev) (m0 : Nat) (o : Option Value) (ν' : va_W) : Prop := o = none ∧ ∃ (B : Nat) (μ : Mm) (z mv : Nat → Int32), ν' = [(m0, .inr (6, fM B mv))] ++ wl (eX E B) μ ∧ (eB E ≤ B ∧ (NV μ 1 z gE ∧ (Ok 0 z ∧ (z 5 = nI 0 ∧ ((∃ (c : Nat) (p : Nat → Nat) (S : Nat → Sh), PC μ c p S) ∧ (ct z 0 ≠ 0 ∧ (mv 1 = nI (ct z 0) ∧ mv 6 = 1)))))))
section EFL
variable {E : Ev} {p : Program} {l : Launch} {e : Env} {u : State} {m : MethodId} {args : Array Value} {below : List Frame} {meth : Method} {c : Code} {Q : State → Prop} {B m0 r0 xx yy w0 : Nat} {μ μs : Mm} {fm : List Value} {v st : Int32} {t : List Int32} {gg : Nat → Int32}
set_option maxHeartbeats 4000000 in
set_option maxRecDepth 100000 in
theorem ld_end {op R0 A0 N0 L0 k n i0 : Nat} {μ0 : Mm} {T : List (List Tok)} {s : Nat → Int32} (C : Cq E p u m args meth c cX4_init 8 RX4) (hnm : meth.name = "<init>") (hr : meth.sig.returnType = none) (hU : (eU E).1 = 0) (hB : eB E ≤ B) (hl9 : l.stackTraces = false) (hR0 : 1 ≤ R0) (hN0 : N0 ≤ 8) (ht0 : t = ren true (flat T)) (hg : ∀ k, k < t.length → gg k = t.getD k 0) (ht : t.length ≤ 890) (hb : AS t) (hM : MB T s) (hC : CS s R0 A0 N0 L0 op) (hZ : MZ μ0) (hGR : GR μ0 μs) (hG : t.length ≤ i0) (hG9 : i0 ≤ 900) (hA : AP t μs μ i0) (hk : k ≤ 990) (hn : n ≤ 690000) : Gz E p l e rm_made u m args below meth c k n 8 (MQ below (qSz E (qMd E m0)) args u rm_made.cells rm_made.slots (eA E)) 791 [(5, .int (nI i0)), (4, .ref xx), (3, .int st), (2, .ref (B + 295)), (1, .ref r0), (0, .ref m0)] [] (yT E t gg yy xx m0 r0 (fdM B R0 A0 N0 L0 op 0) v ++ wl (eX E B) μ) := by
  obtain ⟨a1, a2, a3⟩ := hA
  obtain ⟨z1, z2, z3, z4⟩ := hZ
  have hz1 : F_X3_truncate (nI t.length) μ = some (1, uI μ 45 2 (nI t.length)) := by
    unfold F_X3_truncate
    rw [if_neg (nI_pos (by omega)), a1, if_pos (nI_le hG (by omega))]
    rfl
  have ev : ∀ a, a ≠ 45 → a ≠ 46 → a ≠ 295 → (uI μ 45 2 (nI t.length)).1 a = μ0.1 a := fun a h1 h2 h3 => by
    rw [uI_ne h1, (a3.1 a (by omega)).1]
    exact hGR.1 a h3
  have e46 : (uI μ 45 2 (nI t.length)).1 46 = μ.1 46 := uI_ne (by decide)
  have hBt : Bt ((uI μ 45 2 (nI t.length)).1 46) t.length 0 (ren true (flat T)) := by
    rw [e46, ← ht0]
    exact ⟨Nat.zero_add _, fun q hq => by rw [Nat.zero_add]; exact a2 q (by omega) hq⟩
  obtain ⟨R, μ3, c1, N3, -, c5, ⟨-, -, c4⟩, F3⟩ := x3_load (μ := uI μ 45 2 (nI t.length)) (n := t.length) (T := T) (s := s) (by omega) (fun q hq => by rw [e46, a2 q (by omega) hq, fb_eq hb hq]; exact by_nI _ (fb_lt hb q)) (show (if (45 : Nat) = 45 ∧ (2 : Nat) = 2 then nI t.length else μ.1 45 2) = nI t.length from if_pos ⟨rfl, rfl⟩) (kb_1 z1 (fun a h1 h2 => ev a (by omega) (by omega) (by omega))) (kb_1 z2 (fun a h1 h2 => ev a (by omega) (by omega) (by omega))) hBt hM.2 hM.1
  have hs2 : s 2 = nI N0 := hC.2.2.1.1
  rw [hs2] at c1
  have hz3 : F_X3_errorKind μ3 = some 0 := congrArg some c4
  have hz4 : F_X3_count 0 μ3 = some (0, nI R0) := by
    have := x3_cn0 N3
    rw [hC.c0] at this
    exact this
  have hz5 : F_X3_count 4 μ3 = some (0, nI op) := by
    have := x3_cn4 N3
    rw [hC.c4] at this
    exact this
  have f3 : ∀ a, ¬ SLd a → a ≠ 45 → a ≠ 46 → a ≠ 295 → μ3.1 a = μ0.1 a := fun a h0 h1 h2 h3 => (F3.1 a h0).1.trans (ev a h1 h2 h3)
  have hPC : ∃ (c : Nat) (p : Nat → Nat) (S : Nat → Sh), PC μ3 c p S := by
    refine ⟨0, fun i => 71 + 22 * i, fun _ => (sE, gE), c5, by omega, fun i hi => ⟨?_, ⟨i, hi, rfl⟩, kb_1 (b := 71 + 22 * i) (z4 i hi).2 (fun a h1 h2 => f3 a (by unfold SLd; omega) (by omega) (by omega) (by omega))⟩, fun i j _ _ e => by have e : 71 + 22 * i = 71 + 22 * j := e; omega, fun i hi => absurd hi (Nat.not_lt_zero i)⟩
    rw [f3 70 (by unfold SLd; omega) (by decide) (by decide) (by decide)]
    exact (z4 i hi).1
  have hs5 : s 5 = nI 0 := R.2.2.2.2.2 5 (by decide) (Or.inl rfl)
  refine gz_aload_n C dX4_init_791 rfl 5 rfl ?_
  refine gz_aload_n C dX4_init_792 rfl 5 rfl ?_
  refine gz_get (ci := 6) (N := 7) (T := TX4) C inG_X4 2 rfl rfl 0 (by decide) wk_4_220 rfl dX4_init_793 ?_
  refine gz_aload C dX4_init_796 1 rfl ?_
  refine gz_VM (t := t) (xx := xx) (yy := yy) (gg := gg) (q := 1) (qy := 0) (μ := mZ E) (As := []) (rest := [.ref B, .ref m0]) C hU rfl rfl hg (by omega) hb (c_J0_length_8abf5 (E := eT E xx yy t) (w := 22) (by decide)) wk_4_79 wk_3_103 wk_3_104 wk_1_9 wk_3_105 hd_J0_length_8abf5 ⟨(Nat.le_of_ble_eq_true rfl), (Nat.le_of_ble_eq_true rfl)⟩ (Nat.le_of_ble_eq_true rfl) ⟨by show k + 0 ≤ 1000; omega, by show n + 0 ≤ 700000; omega⟩ dX4_init_798 rfl rfl ?_
  rw [show eLn (eT E xx yy t) 22 = t.length from if_pos rfl]
  refine gz_ask (As := [.int (nI t.length)]) (rest := [.ref m0]) C hU hB (c_X3_truncate (E := eX E B) (Nat.le_refl 295) hz1) wk_4_112 wk_4_113 wk_4_114 wk_1_3 wk_4_115 hd_X3_truncate ⟨(Nat.le_of_ble_eq_true rfl), (Nat.le_of_ble_eq_true rfl)⟩ (Nat.le_of_ble_eq_true rfl) ⟨by show k + 0 + 0 ≤ 1000; omega, by show n + 0 + 0 ≤ 700000; omega⟩ dX4_init_801 rfl rfl ?_
  refine gz_if_eq_f (tgt := 865) C dX4_init_804 (by decide) (by decide) ?_
  refine gz_aload_n C dX4_init_807 rfl 5 rfl ?_
  refine gz_get (ci := 6) (N := 7) (T := TX4) C inG_X4 2 rfl rfl 0 (by decide) wk_4_220 rfl dX4_init_808 ?_
  refine gz_ask (As := []) (rest := [.ref m0]) C hU hB (cx_ct (c_X3_load (E := eX E B) (Nat.le_refl 295) hl9 c1)) wk_4_116 wk_4_117 wk_4_118 wk_1_3 wk_4_119 hd_X3_load ⟨(Nat.le_of_ble_eq_true rfl), (Nat.le_of_ble_eq_true rfl)⟩ (Nat.le_of_ble_eq_true rfl) ⟨by show k + 0 + 0 + 1 ≤ 1000; omega, by show n + 0 + 0 + 6 ≤ 700000; omega⟩ dX4_init_811 rfl rfl ?_
  refine gz_aload_n C dX4_init_814 rfl 5 rfl ?_
  refine gz_get (ci := 6) (N := 7) (T := TX4) C inG_X4 2 rfl rfl 3 (by decide) wk_4_225 rfl dX4_init_815 ?_
  refine gz_icmp_ne_f (tgt := 865) C dX4_init_818 (by decide) rfl ?_
  refine gz_aload_n C dX4_init_821 rfl 5 rfl ?_
  refine gz_get (ci := 6) (N := 7) (T := TX4) C inG_X4 2 rfl rfl 0 (by decide) wk_4_220 rfl dX4_init_822 ?_
  refine gz_ask (As := []) (rest := [.ref m0]) C hU hB (c_X3_errorKind (E := eX E B) (Nat.le_refl 295) hz3) wk_4_215 wk_4_216 wk_4_217 wk_1_3 wk_4_218 hd_X3_errorKind ⟨(Nat.le_of_ble_eq_true rfl), (Nat.le_of_ble_eq_true rfl)⟩ (Nat.le_of_ble_eq_true rfl) ⟨by show k + 0 + 0 + 1 + 0 ≤ 1000; omega, by show n + 0 + 0 + 6 + 0 ≤ 700000; omega⟩ dX4_init_825 rfl rfl ?_
  refine gz_if_ne_f (tgt := 865) C dX4_init_828 (by decide) rfl ?_
  refine gz_aload_n C dX4_init_831 rfl 5 rfl ?_
  refine gz_get (ci := 6) (N := 7) (T := TX4) C inG_X4 2 rfl rfl 0 (by decide) wk_4_220 rfl dX4_init_832 ?_
  refine gz_iconst (v := 0) C dX4_init_835 (by decide) ?_
  refine gz_ask (As := [.int 0]) (rest := [.ref m0]) C hU hB (cx_ct (c_X3_count (E := eX E B) (Nat.le_refl 295) hl9 hz4)) wk_4_219 wk_1_27 wk_1_28 wk_1_3 wk_1_29 hd_X3_count ⟨(Nat.le_of_ble_eq_true rfl), (Nat.le_of_ble_eq_true rfl)⟩ (Nat.le_of_ble_eq_true rfl) ⟨by show k + 0 + 0 + 1 + 0 + 1 ≤ 1000; omega, by show n + 0 + 0 + 6 + 0 + 6 ≤ 700000; omega⟩ dX4_init_836 rfl rfl ?_
  refine gz_aload_n C dX4_init_839 rfl 5 rfl ?_
  refine gz_get (ci := 6) (N := 7) (T := TX4) C inG_X4 2 rfl rfl 1 (by decide) wk_4_222 rfl dX4_init_840 ?_
  refine gz_icmp_ne_f (tgt := 865) C dX4_init_843 (by decide) rfl ?_
  refine gz_aload_n C dX4_init_846 rfl 5 rfl ?_
  refine gz_get (ci := 6) (N := 7) (T := TX4) C inG_X4 2 rfl rfl 0 (by decide) wk_4_220 rfl dX4_init_847 ?_
  refine gz_iconst (v := 4) C dX4_init_850 (by decide) ?_
  refine gz_ask (As := [.int 4]) (rest := [.ref m0]) C hU hB (cx_ct (c_X3_count (E := eX E B) (Nat.le_refl 295) hl9 hz5)) wk_4_219 wk_1_27 wk_1_28 wk_1_3 wk_1_29 hd_X3_count ⟨(Nat.le_of_ble_eq_true rfl), (Nat.le_of_ble_eq_true rfl)⟩ (Nat.le_of_ble_eq_true rfl) ⟨by show k + 0 + 0 + 1 + 0 + 1 + 1 ≤ 1000; omega, by show n + 0 + 0 + 6 + 0 + 6 + 6 ≤ 700000; omega⟩ dX4_init_851 rfl rfl ?_
  refine gz_aload_n C dX4_init_854 rfl 5 rfl ?_
  refine gz_get (ci := 6) (N := 7) (T := TX4) C inG_X4 2 rfl rfl 5 (by decide) wk_4_227 rfl dX4_init_855 ?_
  refine gz_icmp_ne_f (tgt := 865) C dX4_init_858 (by decide) rfl ?_
  refine gz_iconst (v := 1) C dX4_init_861 (by decide) ?_
  refine gz_goto (tgt := 866) C dX4_init_862 (by decide) ?_
  refine gz_putF (ci := 6) (N := 7) (T := TX4) (ν' := yT E t gg yy xx m0 r0 (fdM B R0 A0 N0 L0 op 1) v ++ wl (eX E B) μ3) C hnm inG_X4 tyX4 tyX4_ok nmX4 2 rfl rfl 6 (by decide) wk_4_228 rfl rfl rfl rfl rfl (Nat.le_of_ble_eq_true rfl) rfl dX4_init_866 ?_
  refine gz_hw (ν' := [(m0, .inr (6, fdM B R0 A0 N0 L0 op 1))] ++ wl (eX E B) μ3) (fun H h => hw_subl (List.Sublist.append (show List.Sublist [(m0, .inr (6, fdM B R0 A0 N0 L0 op 1))] (yT E t gg yy xx m0 r0 (fdM B R0 A0 N0 L0 op 1) v) from List.Sublist.cons _ (List.Sublist.cons _ (List.Sublist.cons_cons _ (List.Sublist.cons _ (List.Sublist.refl []))))) (List.Sublist.refl _)) h) ?_
  exact gz_end (o := none) ⟨rfl, B, μ3, s, fun j => if j = 1 then nI R0 else if j = 2 then nI A0 else if j = 3 then nI N0 else if j = 4 then nI L0 else if j = 5 then nI op else 1, rfl, hB, N3, R.ok, hs5, hPC, by rw [hC.c0]; omega, by rw [hC.c0]; rfl, rfl⟩ (gz_vret C hr dX4_init_869 (by show k + 0 + 0 + 1 + 0 + 1 + 1 ≤ 1000; omega) (by show n + 0 + 0 + 6 + 0 + 6 + 6 ≤ 700000; omega))
end EFL
section EFH
variable {E : Ev} {p : Program} {l : Launch} {e : Env} {u : State} {m : MethodId} {args : Array Value} {below : List Frame} {meth : Method} {c : Code} {Q : State → Prop} {B m0 r0 : Nat} {μ0 : Mm} {R0 A0 N0 L0 : Nat}
set_option maxHeartbeats 4000000 in
set_option maxRecDepth 100000 in
theorem mk_head {v : Int32} (C : Cq E p u m args meth c cX4_init 8 RX4) (hPx : Px args u) (hnm : meth.name = "<init>") (hU : (eU E).1 = 0) (hAO : va_AO RX1 u) (hme : F_X1_makeEmpty 1 (mZ E) = some μ0) (kk : ∀ (R0 A0 N0 L0 lo j k n : Nat) (μ : Mm) (v : Int32), (1 ≤ R0 ∧ R0 ≤ 6) → (1 ≤ A0 ∧ A0 ≤ 5) → (1 ≤ N0 ∧ N0 ≤ 8) → L0 ≤ 4 → lo ≤ 50 → (1 ≤ j ∧ j ≤ 4) → (m0 < u.heap.size ∧ r0 < u.heap.size) → k ≤ 305 → n ≤ 21000 → SBw E u.heap.size μ ((((lt 10 ++ dG A0) ++ lt 11) ++ dG lo) ++ lt 12) → GR μ0 μ → Gz E p l e rm_made u m args below meth c k n 8 Q 105 [(3, .int (nI j)), (2, .ref (u.heap.size + 295)), (1, .ref r0), (0, .ref m0)] [] (yM m0 r0 (fdM u.heap.size R0 A0 N0 L0 0 0) v ++ wl (eS E u.heap.size) μ)) : Gz E p l e rm_made u m args below meth c 0 0 8 Q 0 [(0, .ref m0), (1, .ref r0)] [] (yM m0 r0 [.null, .int 0, .int 0, .int 0, .int 0, .int 0, .int 0] v) := by
  have hB : eB E ≤ u.heap.size := C.2.2.2.2.2.2.2.1
  refine gz_aload_n C dX4_init_0 rfl 0 rfl ?_
  refine gz_obj C wk_2_119 wk_1_56 wk_1_57 ⟨(Nat.le_of_ble_eq_true rfl), (Nat.le_of_ble_eq_true rfl)⟩ dX4_init_1 ?_
  refine gz_aload_n C dX4_init_4 rfl 0 rfl ?_
  refine gz_mkX (rest := [.ref m0]) (μ' := μ0) C hU hAO rfl wk_2_120 wk_1_199 wk_1_3 wk_2_121 wk_2_122 wk_2_123 hme ⟨(Nat.le_of_ble_eq_true rfl), (Nat.le_of_ble_eq_true rfl), (Nat.le_of_ble_eq_true rfl), (Nat.le_of_ble_eq_true rfl)⟩ (Nat.le_of_ble_eq_true rfl) dX4_init_5 dX4_init_8 dX4_init_9 (fun hlt => ?_)
  have hs : m0 < u.heap.size ∧ r0 < u.heap.size := ⟨hlt _ List.mem_cons_self, hlt _ (List.mem_cons_of_mem _ List.mem_cons_self)⟩
  refine gz_putF (ci := 6) (N := 7) (T := TX4) (ν' := yM m0 r0 [.ref u.heap.size, .int 0, .int 0, .int 0, .int 0, .int 0, .int 0] v ++ wl (eX E u.heap.size) μ0) C hnm inG_X4 tyX4 tyX4_ok nmX4 0 rfl rfl 0 (by decide) wk_4_220 rfl rfl rfl rfl rfl (Nat.le_of_ble_eq_true rfl) rfl dX4_init_12 ?_
  refine gz_aload_n C dX4_init_15 rfl 0 rfl ?_
  refine gz_iconst (v := 1) C dX4_init_16 (by decide) ?_
  refine gz_aload_n C dX4_init_17 rfl 1 rfl ?_
  refine gz_bipush (v := 6) C dX4_init_18 (by decide) ?_
  refine gz_next (fm := [.ref u.heap.size, .int 0, .int 0, .int 0, .int 0, .int 0, .int 0]) (q := 6) (rest := [.int 1, .ref m0]) C wk_3_89 (by decide) (by decide) ⟨(Nat.le_of_ble_eq_true rfl), (Nat.le_of_ble_eq_true rfl)⟩ (Nat.le_of_ble_eq_true rfl) ⟨by show _ ≤ 1000; omega, by show _ ≤ 700000; omega⟩ dX4_init_20 (fun R v1 hR => ?_)
  refine gz_iadd C dX4_init_23 ?_
  rw [one_add]
  refine gz_putF (ci := 6) (N := 7) (T := TX4) (ν' := yM m0 r0 [.ref u.heap.size, .int (nI (1 + R)), .int 0, .int 0, .int 0, .int 0, .int 0] v1 ++ wl (eX E u.heap.size) μ0) C hnm inG_X4 tyX4 tyX4_ok nmX4 0 rfl rfl 1 (by decide) wk_4_222 rfl rfl rfl rfl rfl (Nat.le_of_ble_eq_true rfl) rfl dX4_init_24 ?_
  refine gz_aload_n C dX4_init_27 rfl 0 rfl ?_
  refine gz_iconst (v := 1) C dX4_init_28 (by decide) ?_
  refine gz_aload_n C dX4_init_29 rfl 1 rfl ?_
  refine gz_iconst (v := 5) C dX4_init_30 (by decide) ?_
  refine gz_next (fm := [.ref u.heap.size, .int (nI (1 + R)), .int 0, .int 0, .int 0, .int 0, .int 0]) (q := 5) (rest := [.int 1, .ref m0]) C wk_3_89 (by decide) (by decide) ⟨(Nat.le_of_ble_eq_true rfl), (Nat.le_of_ble_eq_true rfl)⟩ (Nat.le_of_ble_eq_true rfl) ⟨by show _ ≤ 1000; omega, by show _ ≤ 700000; omega⟩ dX4_init_31 (fun A v2 hA => ?_)
  refine gz_iadd C dX4_init_34 ?_
  rw [one_add]
  refine gz_putF (ci := 6) (N := 7) (T := TX4) (ν' := yM m0 r0 [.ref u.heap.size, .int (nI (1 + R)), .int (nI (1 + A)), .int 0, .int 0, .int 0, .int 0] v2 ++ wl (eX E u.heap.size) μ0) C hnm inG_X4 tyX4 tyX4_ok nmX4 0 rfl rfl 2 (by decide) wk_4_224 rfl rfl rfl rfl rfl (Nat.le_of_ble_eq_true rfl) rfl dX4_init_35 ?_
  refine gz_aload_n C dX4_init_38 rfl 0 rfl ?_
  refine gz_iconst (v := 1) C dX4_init_39 (by decide) ?_
  refine gz_aload_n C dX4_init_40 rfl 1 rfl ?_
  refine gz_bipush (v := 8) C dX4_init_41 (by decide) ?_
  refine gz_next (fm := [.ref u.heap.size, .int (nI (1 + R)), .int (nI (1 + A)), .int 0, .int 0, .int 0, .int 0]) (q := 8) (rest := [.int 1, .ref m0]) C wk_3_89 (by decide) (by decide) ⟨(Nat.le_of_ble_eq_true rfl), (Nat.le_of_ble_eq_true rfl)⟩ (Nat.le_of_ble_eq_true rfl) ⟨by show _ ≤ 1000; omega, by show _ ≤ 700000; omega⟩ dX4_init_43 (fun N v3 hN => ?_)
  refine gz_iadd C dX4_init_46 ?_
  rw [one_add]
  refine gz_putF (ci := 6) (N := 7) (T := TX4) (ν' := yM m0 r0 [.ref u.heap.size, .int (nI (1 + R)), .int (nI (1 + A)), .int (nI (1 + N)), .int 0, .int 0, .int 0] v3 ++ wl (eX E u.heap.size) μ0) C hnm inG_X4 tyX4 tyX4_ok nmX4 0 rfl rfl 3 (by decide) wk_4_225 rfl rfl rfl rfl rfl (Nat.le_of_ble_eq_true rfl) rfl dX4_init_47 ?_
  refine gz_aload_n C dX4_init_50 rfl 0 rfl ?_
  refine gz_aload_n C dX4_init_51 rfl 1 rfl ?_
  refine gz_iconst (v := 5) C dX4_init_52 (by decide) ?_
  refine gz_next (fm := [.ref u.heap.size, .int (nI (1 + R)), .int (nI (1 + A)), .int (nI (1 + N)), .int 0, .int 0, .int 0]) (q := 5) (rest := [.ref m0]) C wk_3_89 (by decide) (by decide) ⟨(Nat.le_of_ble_eq_true rfl), (Nat.le_of_ble_eq_true rfl)⟩ (Nat.le_of_ble_eq_true rfl) ⟨by show _ ≤ 1000; omega, by show _ ≤ 700000; omega⟩ dX4_init_53 (fun L v4 hL => ?_)
  refine gz_putF (ci := 6) (N := 7) (T := TX4) (ν' := yM m0 r0 [.ref u.heap.size, .int (nI (1 + R)), .int (nI (1 + A)), .int (nI (1 + N)), .int (nI L), .int 0, .int 0] v4 ++ wl (eX E u.heap.size) μ0) C hnm inG_X4 tyX4 tyX4_ok nmX4 0 rfl rfl 4 (by decide) wk_4_226 rfl rfl rfl rfl rfl (Nat.le_of_ble_eq_true rfl) rfl dX4_init_56 ?_
  refine gz_newK (a := u.heap.size + 295) (ha := rfl) (ci := 1) (N := 4) (T := TJ4) (fs := [.null, .int 0, .int 0, .int 0]) C hU (Or.inl ⟨(u.heap.size + 294, cn (eX E u.heap.size) μ0 294), List.mem_append_right _ (by rw [wl_xl]; exact List.mem_map.mpr ⟨294, List.mem_range.mpr (by decide), rfl⟩), rfl⟩) inG_J4 tyJ4 tyJ4_ok wk_3_94 wk_3_26 wk_1_8 rfl df_J4 ⟨by show _ ≤ 1000; omega, by show _ ≤ 700000; omega⟩ dX4_init_59 (fun _ => ?_)
  refine gz_dupr C dX4_init_62 ?_
  refine gz_ldcS (index := 37) (j := 10) (tx := "accounts ") C (by decide +kernel) dX4_init_63 ?_
  refine gz_IT (Ts := GP) (As := [.ref (eK E 10)]) (rest := [.ref (u.heap.size + 295)]) C hPx (fun _ h => gp_in h) (z_sbB (Y := yM m0 r0 [.ref u.heap.size, .int (nI (1 + R)), .int (nI (1 + A)), .int (nI (1 + N)), .int (nI L), .int 0, .int 0] v4) (μ := μ0) (w := 10) hU hB (fun q hq => by rcases List.mem_cons.mp hq with rfl | hq; exact hs.1; rcases List.mem_cons.mp hq with rfl | hq; exact hs.2; cases hq) (by decide)) (fun w h => h) (gp_w wk_3_96) (gp_w wk_3_97) (gp_w wk_1_8) (gp_w wk_3_98) rfl hd_J4_iB ⟨(Nat.le_of_ble_eq_true rfl), (Nat.le_of_ble_eq_true rfl)⟩ (Nat.le_of_ble_eq_true rfl) ⟨(Nat.le_of_ble_eq_true rfl), (Nat.le_of_ble_eq_true rfl)⟩ dX4_init_65 rfl (fun o ν' hP => ?_)
  obtain ⟨rfl, μ1, hT, hG, rfl⟩ := hP
  refine gz_widen (k' := 298) (n' := 12612) (Nat.le_of_ble_eq_true rfl) (Nat.le_of_ble_eq_true rfl) ?_
  refine gz_astore_n (i := 2) C dX4_init_68 rfl (by decide) rfl ?_
  refine gz_aload_n C dX4_init_69 rfl 0 rfl ?_
  refine gz_aload_n C dX4_init_70 rfl 1 rfl ?_
  refine gz_get (ci := 6) (N := 7) (T := TX4) C inG_X4 0 rfl rfl 2 (by decide) wk_4_224 rfl dX4_init_71 ?_
  refine gz_apI (Y := yM m0 r0 (fdM u.heap.size (1 + R) (1 + A) (1 + N) L 0 0) v4) (index := 42) C hPx hU hB (fun q hq => by rcases List.mem_cons.mp hq with rfl | hq; exact hs.1; rcases List.mem_cons.mp hq with rfl | hq; exact hs.2; cases hq) hT (by have z10 : (lt 10).length = 9 := rfl; omega) (by omega) wk_3_222 ⟨(Nat.le_of_ble_eq_true rfl), (Nat.le_of_ble_eq_true rfl)⟩ (Nat.le_of_ble_eq_true rfl) ⟨by show _ ≤ 1000; omega, by show _ ≤ 700000; omega⟩ dX4_init_74 (fun μ5 h5 g5 => ?_)
  have g5 := hG.tr g5
  refine gz_ldcS (index := 46) (j := 11) (tx := ";loss ") C (by decide +kernel) dX4_init_77 ?_
  refine gz_apS (Y := yM m0 r0 (fdM u.heap.size (1 + R) (1 + A) (1 + N) L 0 0) v4) (index := 48) C hPx hU hB (fun q hq => by rcases List.mem_cons.mp hq with rfl | hq; exact hs.1; rcases List.mem_cons.mp hq with rfl | hq; exact hs.2; cases hq) h5 (show 11 < 22 by decide) (by simp only [List.length_append]; have d0 := (dG_len (1 + A)).2; have z10 : (lt 10).length = 9 := rfl; have z11 : (lt 11).length = 6 := rfl; omega) wk_4_8 ⟨(Nat.le_of_ble_eq_true rfl), (Nat.le_of_ble_eq_true rfl)⟩ (Nat.le_of_ble_eq_true rfl) ⟨by show _ ≤ 1000; omega, by show _ ≤ 700000; omega⟩ dX4_init_79 (fun μ6 h6 g6 => ?_)
  have g6 := g5.tr g6
  refine gz_aload_n C dX4_init_82 rfl 2 rfl ?_
  refine gz_bipush (v := 51) C dX4_init_83 (by decide) ?_
  refine gz_next (q := 51) (rest := [.ref (u.heap.size + 295)]) C wk_3_89 (by decide) (by decide) ⟨(Nat.le_of_ble_eq_true rfl), (Nat.le_of_ble_eq_true rfl)⟩ (Nat.le_of_ble_eq_true rfl) ⟨by show _ ≤ 1000; omega, by show _ ≤ 700000; omega⟩ dX4_init_85 (fun lo v7 hlo => ?_)
  refine gz_apI (Y := yM m0 r0 (fdM u.heap.size (1 + R) (1 + A) (1 + N) L 0 0) v7) (index := 42) C hPx hU hB (fun q hq => by rcases List.mem_cons.mp hq with rfl | hq; exact hs.1; rcases List.mem_cons.mp hq with rfl | hq; exact hs.2; cases hq) h6 (by simp only [List.length_append]; have d0 := (dG_len (1 + A)).2; have z10 : (lt 10).length = 9 := rfl; have z11 : (lt 11).length = 6 := rfl; omega) (by omega) wk_3_222 ⟨(Nat.le_of_ble_eq_true rfl), (Nat.le_of_ble_eq_true rfl)⟩ (Nat.le_of_ble_eq_true rfl) ⟨by show _ ≤ 1000; omega, by show _ ≤ 700000; omega⟩ dX4_init_88 (fun μ8 h8 g8 => ?_)
  have g8 := g6.tr g8
  refine gz_ldcS (index := 51) (j := 12) (tx := ";years") C (by decide +kernel) dX4_init_91 ?_
  refine gz_apS (Y := yM m0 r0 (fdM u.heap.size (1 + R) (1 + A) (1 + N) L 0 0) v7) (index := 48) C hPx hU hB (fun q hq => by rcases List.mem_cons.mp hq with rfl | hq; exact hs.1; rcases List.mem_cons.mp hq with rfl | hq; exact hs.2; cases hq) h8 (show 12 < 22 by decide) (by simp only [List.length_append]; have d0 := (dG_len (1 + A)).2; have d1 := (dG_len lo).2; have z10 : (lt 10).length = 9 := rfl; have z11 : (lt 11).length = 6 := rfl; have z12 : (lt 12).length = 6 := rfl; omega) wk_4_8 ⟨(Nat.le_of_ble_eq_true rfl), (Nat.le_of_ble_eq_true rfl)⟩ (Nat.le_of_ble_eq_true rfl) ⟨by show _ ≤ 1000; omega, by show _ ≤ 700000; omega⟩ dX4_init_93 (fun μ9 h9 g9 => ?_)
  have g9 := g8.tr g9
  refine gz_popr C dX4_init_96 ?_
  refine gz_iconst (v := 1) C dX4_init_97 (by decide) ?_
  refine gz_aload_n C dX4_init_98 rfl 2 rfl ?_
  refine gz_iconst (v := 4) C dX4_init_99 (by decide) ?_
  refine gz_next (q := 4) (rest := [.int 1]) C wk_3_89 (by decide) (by decide) ⟨(Nat.le_of_ble_eq_true rfl), (Nat.le_of_ble_eq_true rfl)⟩ (Nat.le_of_ble_eq_true rfl) ⟨by show _ ≤ 1000; omega, by show _ ≤ 700000; omega⟩ dX4_init_100 (fun j v10 hj => ?_)
  refine gz_iadd C dX4_init_103 ?_
  rw [one_add]
  refine gz_istore_n (i := 3) C dX4_init_104 rfl (by decide) rfl ?_
  refine gz_sub [0, 1, 3, 2] (lv' := [(3, .int (nI (1 + j))), (2, .ref (u.heap.size + 295)), (1, .ref r0), (0, .ref m0)]) rfl ?_
  exact kk (1 + R) (1 + A) (1 + N) L lo (1 + j) _ _ μ9 v10 (by omega) (by omega) (by omega) (by omega) (by omega) (by omega) hs (Nat.le_of_ble_eq_true rfl) (Nat.le_of_ble_eq_true rfl) h9 g9
end EFH
