/-! ===== rules for Made's frame ===== -/
theorem wk_3_100 : Cond.instanceMethod ({ cls := "java/lang/AbstractStringBuilder", name := "<init>", desc := "(Ljava/lang/String;)V" } : MethodName) ∈ GW := gw_3 (List.mem_of_getElem? (i := 100) rfl) rfl
theorem wk_3_101 : Cond.code ({ cls := "java/lang/AbstractStringBuilder", name := "<init>", desc := "(Ljava/lang/String;)V" } : MethodName) prog_10_method_3_code (5 : Nat) (Option.none : Option Jvm.ClassFile.FieldType) ∈ GW := gw_3 (List.mem_of_getElem? (i := 101) rfl) rfl
theorem wk_3_111 : Cond.constant "java/lang/AbstractStringBuilder" (38 : Nat) (2147483631 : Int32) ∈ GW := gw_3 (List.mem_of_getElem? (i := 111) rfl) rfl
theorem wk_3_114 : Cond.methodLink "java/lang/AbstractStringBuilder" (43 : Nat) ({ cls := "java/lang/AbstractStringBuilder", name := "append", desc := "(Ljava/lang/String;)Ljava/lang/AbstractStringBuilder;" } : MethodName) ∈ GW := gw_3 (List.mem_of_getElem? (i := 114) rfl) rfl
theorem wk_3_117 : Cond.selects "java/lang/StringBuilder" ({ cls := "java/lang/AbstractStringBuilder", name := "append", desc := "(Ljava/lang/String;)Ljava/lang/AbstractStringBuilder;" } : MethodName) ({ cls := "java/lang/StringBuilder", name := "append", desc := "(Ljava/lang/String;)Ljava/lang/AbstractStringBuilder;" } : MethodName) ∈ GW := gw_3 (List.mem_of_getElem? (i := 117) rfl) rfl
theorem wk_3_118 : Cond.instanceMethod ({ cls := "java/lang/StringBuilder", name := "append", desc := "(Ljava/lang/String;)Ljava/lang/AbstractStringBuilder;" } : MethodName) ∈ GW := gw_3 (List.mem_of_getElem? (i := 118) rfl) rfl
theorem wk_3_119 : Cond.code ({ cls := "java/lang/StringBuilder", name := "append", desc := "(Ljava/lang/String;)Ljava/lang/AbstractStringBuilder;" } : MethodName) prog_24_method_80_code (2 : Nat) (Option.some (Jvm.ClassFile.FieldType.object "java/lang/AbstractStringBuilder")) ∈ GW := gw_3 (List.mem_of_getElem? (i := 119) rfl) rfl
theorem wk_3_99 : Cond.methodLink "java/lang/StringBuilder" (7 : Nat) ({ cls := "java/lang/AbstractStringBuilder", name := "<init>", desc := "(Ljava/lang/String;)V" } : MethodName) ∈ GW := gw_3 (List.mem_of_getElem? (i := 99) rfl) rfl
theorem dJ5_init_a7421_0 : decode cJ5_init_a7421 0 = .ok (.aload_n 0, 1) := by decide +kernel
theorem dJ5_init_a7421_1 : decode cJ5_init_a7421 1 = .ok (.invokespecial 3, 3) := by decide +kernel
theorem dJ5_init_a7421_4 : decode cJ5_init_a7421 4 = .ok (.aload_n 1, 1) := by decide +kernel
theorem dJ5_init_a7421_5 : decode cJ5_init_a7421 5 = .ok (.invokevirtual 32, 3) := by decide +kernel
theorem dJ5_init_a7421_8 : decode cJ5_init_a7421 8 = .ok (.istore_n 2, 1) := by decide +kernel
theorem dJ5_init_a7421_9 : decode cJ5_init_a7421 9 = .ok (.iload_n 2, 1) := by decide +kernel
theorem dJ5_init_a7421_10 : decode cJ5_init_a7421 10 = .ok (.ldc 38, 2) := by decide +kernel
theorem dJ5_init_a7421_12 : decode cJ5_init_a7421 12 = .ok (.if_icmp .ge 10, 3) := by decide +kernel
theorem dJ5_init_a7421_15 : decode cJ5_init_a7421 15 = .ok (.iload_n 2, 1) := by decide +kernel
theorem dJ5_init_a7421_16 : decode cJ5_init_a7421 16 = .ok (.bipush 16, 2) := by decide +kernel
theorem dJ5_init_a7421_18 : decode cJ5_init_a7421 18 = .ok (.iadd, 1) := by decide +kernel
theorem dJ5_init_a7421_19 : decode cJ5_init_a7421 19 = .ok (.goto 5, 3) := by decide +kernel
theorem dJ5_init_a7421_22 : decode cJ5_init_a7421 22 = .ok (.ldc 39, 2) := by decide +kernel
theorem dJ5_init_a7421_24 : decode cJ5_init_a7421 24 = .ok (.istore_n 3, 1) := by decide +kernel
theorem dJ5_init_a7421_25 : decode cJ5_init_a7421 25 = .ok (.aload_n 1, 1) := by decide +kernel
theorem dJ5_init_a7421_26 : decode cJ5_init_a7421 26 = .ok (.invokevirtual 40, 3) := by decide +kernel
theorem dJ5_init_a7421_29 : decode cJ5_init_a7421 29 = .ok (.istore 4, 2) := by decide +kernel
theorem dJ5_init_a7421_31 : decode cJ5_init_a7421 31 = .ok (.aload_n 0, 1) := by decide +kernel
theorem dJ5_init_a7421_32 : decode cJ5_init_a7421 32 = .ok (.iload 4, 2) := by decide +kernel
theorem dJ5_init_a7421_34 : decode cJ5_init_a7421 34 = .ok (.putfield 22, 3) := by decide +kernel
theorem dJ5_init_a7421_37 : decode cJ5_init_a7421 37 = .ok (.aload_n 0, 1) := by decide +kernel
theorem dJ5_init_a7421_38 : decode cJ5_init_a7421 38 = .ok (.iload 4, 2) := by decide +kernel
theorem dJ5_init_a7421_40 : decode cJ5_init_a7421 40 = .ok (.ifCond .ne 9, 3) := by decide +kernel
theorem dJ5_init_a7421_43 : decode cJ5_init_a7421 43 = .ok (.iload_n 3, 1) := by decide +kernel
theorem dJ5_init_a7421_44 : decode cJ5_init_a7421 44 = .ok (.newarray .byte, 2) := by decide +kernel
theorem dJ5_init_a7421_46 : decode cJ5_init_a7421 46 = .ok (.goto 7, 3) := by decide +kernel
theorem dJ5_init_a7421_49 : decode cJ5_init_a7421 49 = .ok (.iload_n 3, 1) := by decide +kernel
theorem dJ5_init_a7421_50 : decode cJ5_init_a7421 50 = .ok (.invokestatic 26, 3) := by decide +kernel
theorem dJ5_init_a7421_53 : decode cJ5_init_a7421 53 = .ok (.putfield 15, 3) := by decide +kernel
theorem dJ5_init_a7421_56 : decode cJ5_init_a7421 56 = .ok (.aload_n 0, 1) := by decide +kernel
theorem dJ5_init_a7421_57 : decode cJ5_init_a7421 57 = .ok (.aload_n 1, 1) := by decide +kernel
theorem dJ5_init_a7421_58 : decode cJ5_init_a7421 58 = .ok (.invokevirtual 43, 3) := by decide +kernel
theorem dJ5_init_a7421_61 : decode cJ5_init_a7421 61 = .ok (.pop, 1) := by decide +kernel
theorem dJ5_init_a7421_62 : decode cJ5_init_a7421 62 = .ok (.return_, 1) := by decide +kernel
theorem dJ4_init_a7421_0 : decode cJ4_init_a7421 0 = .ok (.aload_n 0, 1) := by decide +kernel
theorem dJ4_init_a7421_1 : decode cJ4_init_a7421 1 = .ok (.aload_n 1, 1) := by decide +kernel
theorem dJ4_init_a7421_2 : decode cJ4_init_a7421 2 = .ok (.invokespecial 7, 3) := by decide +kernel
theorem dJ4_init_a7421_5 : decode cJ4_init_a7421 5 = .ok (.return_, 1) := by decide +kernel
theorem hb_apA : yJ5_append_cf1ce.cls ≠ "java/lang/invoke/MethodHandle" ∧ yJ5_append_cf1ce.cls ≠ "java/lang/invoke/VarHandle" ∧ (parseMethodDescriptor yJ5_append_cf1ce.desc).map (fun d => d.parameters.length) = some 1 := by decide +kernel
theorem hd_J5_iA : yJ5_init_a7421.cls ≠ "java/lang/invoke/MethodHandle" ∧ yJ5_init_a7421.cls ≠ "java/lang/invoke/VarHandle" ∧ (parseMethodDescriptor yJ5_init_a7421.desc).map (fun d => d.parameters.length) = some 1 := by decide +kernel
theorem hd_J4_iB : yJ4_init_a7421.cls ≠ "java/lang/invoke/MethodHandle" ∧ yJ4_init_a7421.cls ≠ "java/lang/invoke/VarHandle" ∧ (parseMethodDescriptor yJ4_init_a7421.desc).map (fun d => d.parameters.length) = some 1 := by decide +kernel
theorem df_X3 : ∀ j, j < 9 → defaultValue (tyX3 j) = vp_V [.null, .null, .null, .null, .null, .int 0, .null, .null, .null] j := by
  intro j hj
  rcases (show j = 0 ∨ j = 1 ∨ j = 2 ∨ j = 3 ∨ j = 4 ∨ j = 5 ∨ j = 6 ∨ j = 7 ∨ j = 8 by omega) with rfl | rfl | rfl | rfl | rfl | rfl | rfl | rfl | rfl <;> rfl
theorem d_nd {A : Nat → Prop} {ν : va_W} (h : va_D A ν) : (ν.map (fun z => z.1)).Nodup := by
  refine List.pairwise_iff_getElem.mpr (fun i j hi hj hij e => ?_)
  rw [List.getElem_map, List.getElem_map] at e
  rw [List.length_map] at hi hj
  have := h.1 i j ν[i] ν[j] (List.getElem?_eq_getElem hi) (List.getElem?_eq_getElem hj) e
  omega
theorem d_mk {A : Nat → Prop} {ν : va_W} (h : (ν.map (fun z => z.1)).Nodup) (hA : ∀ q, q ∈ ν → A q.1) : va_D A ν := by
  refine ⟨fun i j p q hp hq e => ?_, fun k q hk => hA q (List.mem_of_getElem? hk)⟩
  have hi : (ν.map (fun z => z.1))[i]? = some p.1 := by rw [List.getElem?_map, hp]; rfl
  have hj : (ν.map (fun z => z.1))[j]? = some q.1 := by rw [List.getElem?_map, hq]; rfl
  exact (List.getElem?_inj (List.getElem?_eq_some_iff.mp hi).1 h).mp (by rw [hi, hj, e])
theorem hw_join {E : Ev} {ν : va_W} {B : Nat} {μ : Mm} {H : Heap} (hU : (eU E).1 = 0) (hB : eB E ≤ B) (h1 : ∀ q, q ∈ ν → va_at E.1 vwCl q H) (h2 : (ν.map (fun z => z.1)).Nodup) (h3 : ∀ q, q ∈ ν → eA E q.1) (hlt : ∀ q, q ∈ ν → q.1 < B) (hX : ∀ i, i < 295 → va_at E.1 vwCl (B + i, cn (eX E B) μ i) H) : HW E (ν ++ wl (eX E B) μ) H := by
  refine hw_iff.mpr ⟨fun q hq => ?_, ?_, fun q hq => ?_⟩
  · rcases List.mem_append.mp hq with hq | hq
    · exact h1 q hq
    · rw [wl_xl] at hq
      obtain ⟨i, hi⟩ := List.getElem?_of_mem hq
      obtain ⟨i1, rfl⟩ := bl_ex hi
      exact hX i i1
  · rw [List.map_append]
    refine List.nodup_append.mpr ⟨h2, d_nd xl_D, fun a ha b hb e => ?_⟩
    obtain ⟨q, hq, rfl⟩ := List.mem_map.mp ha
    obtain ⟨r, hr, rfl⟩ := List.mem_map.mp hb
    have := hlt q hq
    have := (xl_lo hr).1
    omega
  · rcases List.mem_append.mp hq with hq | hq
    · exact h3 q hq
    · have := (xl_lo hq).1
      exact ⟨by omega, Or.inl hU⟩
theorem cn_no {E : Ev} {m m' : Mm} {i : Nat} (hk : kd i ≠ 4) (h1 : m'.1 i = m.1 i) (h2 : m'.2.1 i = m.2.1 i) : cn E m' i = cn E m i := by
  unfold cn cnB
  rw [h1, h2]
  simp only [if_neg hk]
theorem kd_no4 : ∀ i, i < 295 → kd i ≠ 4 := by decide +kernel
/-- the builder holds l; its cells are apart -/
def SBw (E : Ev) (B : Nat) (μ : Mm) (l : List Int32) : Prop := TB μ l.length (LB l) ∧ va_D (eA (eS E B)) (wl (eS E B) μ)
section EBR
variable {E : Ev} {p : Program} {l : Launch} {e : Env} {R : Room} {s : State} {m : MethodId} {args : Array Value} {below : List Frame} {meth : Method} {c : Code} {k n nL : Nat} {Q : State → Prop} {cc : ByteArray} {own : String} {pc : Nat} {lv lv' : List (Nat × Value)} {rest st st0 : List Value} {ν ν' Y : va_W} {B : Nat} {μ μ' : Mm}
theorem gz_D (kk : va_D (eA E) ν → Gz E p l e R s m args below meth c k n nL Q pc lv st ν) : Gz E p l e R s m args below meth c k n nL Q pc lv st ν := fun H locs ls hH hS hl => kk hH.2 H locs ls hH hS hl
theorem gz_ldcS (C : Cq E p s m args meth c cc nL own) {index j : Nat} {tx : String} (hq : (own, index, tx, j) ∈ qLits) (d : decode cc pc = .ok (.ldc index, 2)) (kk : Gz E p l e R s m args below meth c k n nL Q (pc + 2) lv (.ref (eK E j) :: rest) ν) : Gz E p l e R s m args below meth c k n nL Q pc lv rest ν := fun H locs ls hH hS hl => va_ldcS C.1 C.2.1 C.2.2.2.1 (C.2.2.2.2.2.2.2.2.1 (own, index, tx, j) hq) d (kk H locs ls hH hS hl)
theorem ys_D (h : va_D (eA E) (Y ++ ν)) : va_D (eA E) Y := by
  have lf : ∀ (i : Nat) (q : Nat × va_E), Y[i]? = some q → (Y ++ ν)[i]? = some q := fun i q hi => by
    rw [List.getElem?_append_left (List.getElem?_eq_some_iff.mp hi).1]
    exact hi
  exact ⟨fun i j a b ha hb e => h.1 i j a b (lf i a ha) (lf j b hb) e, fun i q hi => h.2 i q (lf i q hi)⟩
theorem ys_b : (Y ++ wl (eS E B) μ)[Y.length + 296]? = some (B + 295, .inr (1, [.ref μ.2.2.1, .int (μ.1 295 1), .int (μ.1 295 2), .int (μ.1 295 3)])) := by
  rw [List.getElem?_append_right (Nat.le_add_right _ _), Nat.add_sub_cancel_left, wl_sl]
  show (bl B 296 (fun i => cn (eX E B) μ i))[295]? = _
  rw [bl_get (by decide)]
  show some (B + 295, cn (eX E B) μ 295) = _
  rw [cn_4 (show kd 295 = 4 by decide +kernel)]
theorem rm_b1 {q z : Nat} (hq : q ≤ 1000) (hz : z ≤ 2048) : (if q ≤ z then 0 else 1) ≤ 1 ∧ (if q ≤ z then 0 else capG q z) ≤ 2048 := by
  have := capF_le hq hz
  unfold capF at this
  split
  · exact ⟨by decide, by decide⟩
  · rename_i h
    rw [if_neg h] at this
    exact ⟨Nat.le_refl _, this⟩
theorem gz_apI (C : Cq E p s m args meth c cc nL own) (hx : Px args s) (hU : (eU E).1 = 0) (hB : eB E ≤ B) (hs : ∀ q, q ∈ Y → q.1 < B) {l0 : List Int32} {v index : Nat} (hT : SBw E B μ l0) (hl0 : l0.length + 3 ≤ 1000) (hv : v ≤ 999) (w1 : Cond.methodLink own index yJ4_append_bf812 ∈ GW) (hR : 6 ≤ R.frames ∧ 260 ≤ R.locals) (hw : (rest.map fun v => v.category).sum ≤ 8) (hf : k + 1 ≤ R.cells ∧ n + 2048 ≤ R.slots) (d : decode cc pc = .ok (.invokevirtual index, 3)) (kk : ∀ μ', SBw E B μ' (l0 ++ dG v) → GR μ μ' → Gz E p l e R s m args below meth c (k + 1) (n + 2048) nL Q (pc + 3) lv (.ref (B + 295) :: rest) (Y ++ wl (eS E B) μ')) : Gz E p l e R s m args below meth c k n nL Q pc lv (.int (nI v) :: .ref (B + 295) :: rest) (Y ++ wl (eS E B) μ) := by
  have hd := (dG_len v).2
  have hg := (dg_dG v (by omega)).1
  have hb := rm_b1 (q := l0.length + dg v) (z := μ.2.2.2.1) (by omega) hT.1.2.2.2.1
  refine gz_D (fun hD => ?_)
  refine gz_VT (Ts := GP) (q := Y.length + 296) (As := [.int (nI v)]) (rest := rest) C hx (fun _ h => gp_in h) (cz_cts (c_J4_apI (E := eS E B) (show 295 < eN (eS E B) by show 295 < 296; decide) rfl hT.1 (by omega) (by omega)) (eM_inn hU hB) (by show 0 < 296; decide) (ys_D hD) (fun q hq z => by have := hs q hq; have z1 : B ≤ q.1 := z.1; omega) hT.2) (fun w h => h) ys_b rfl (gp_w w1) (gp_w wk_3_223) (gp_w wk_3_224) (gp_w wk_1_8) (gp_w wk_3_225) hv_apI ⟨by have := hR.1; show 5 + 1 ≤ R.frames; omega, by have := hR.2; show 8 + (2 + 11) + 230 ≤ R.locals; omega⟩ hw ⟨by have := hb.1; show k + (if l0.length + dg v ≤ μ.2.2.2.1 then 0 else 1) ≤ R.cells; omega, by have := hb.2; show n + (if l0.length + dg v ≤ μ.2.2.2.1 then 0 else capG (l0.length + dg v) μ.2.2.2.1) ≤ R.slots; omega⟩ d rfl (fun o ν' hP => ?_)
  obtain ⟨μ1, ⟨rfl, h1, h2, -⟩, rfl, h4⟩ := hP
  refine gz_widen (k' := k + 1) (n' := n + 2048) (by have := hb.1; show k + (if l0.length + dg v ≤ μ.2.2.2.1 then 0 else 1) ≤ k + 1; omega) (by have := hb.2; show n + (if l0.length + dg v ≤ μ.2.2.2.1 then 0 else capG (l0.length + dg v) μ.2.2.2.1) ≤ n + 2048; omega) ?_
  exact kk μ1 ⟨lb_num hv h1, h4⟩ h2
theorem gz_apS (C : Cq E p s m args meth c cc nL own) (hx : Px args s) (hU : (eU E).1 = 0) (hB : eB E ≤ B) (hs : ∀ q, q ∈ Y → q.1 < B) {l0 : List Int32} {w index : Nat} (hT : SBw E B μ l0) (hw22 : w < 22) (hl0 : l0.length + (lt w).length ≤ 1000) (w1 : Cond.methodLink own index yJ4_append_15ec4 ∈ GW) (hR : 6 ≤ R.frames ∧ 260 ≤ R.locals) (hw : (rest.map fun v => v.category).sum ≤ 8) (hf : k + 1 ≤ R.cells ∧ n + 2048 ≤ R.slots) (d : decode cc pc = .ok (.invokevirtual index, 3)) (kk : ∀ μ', SBw E B μ' (l0 ++ lt w) → GR μ μ' → Gz E p l e R s m args below meth c (k + 1) (n + 2048) nL Q (pc + 3) lv (.ref (B + 295) :: rest) (Y ++ wl (eS E B) μ')) : Gz E p l e R s m args below meth c k n nL Q pc lv (.ref (eK E w) :: .ref (B + 295) :: rest) (Y ++ wl (eS E B) μ) := by
  have hz := eLn_l (E := eS E B) hw22
  have hb := rm_b1 (q := l0.length + eLn (eS E B) w) (z := μ.2.2.2.1) (by rw [hz]; exact hl0) hT.1.2.2.2.1
  refine gz_D (fun hD => ?_)
  refine gz_VT (Ts := GP) (q := Y.length + 296) (As := [.ref (eK E w)]) (rest := rest) C hx (fun _ h => gp_in h) (cz_cts (c_J4_apS (E := eS E B) (show 295 < eN (eS E B) by show 295 < 296; decide) rfl hT.1 hw22 (by rw [hz]; exact hl0)) (eM_inn hU hB) (by show 0 < 296; decide) (ys_D hD) (fun q hq z => by have := hs q hq; have z1 : B ≤ q.1 := z.1; omega) hT.2) (fun w h => h) ys_b rfl (gp_w w1) (gp_w wk_3_121) (gp_w wk_3_122) (gp_w wk_1_8) (gp_w wk_3_123) hv_apS ⟨by have := hR.1; show 5 + 1 ≤ R.frames; omega, by have := hR.2; show 8 + (2 + 11) + 230 ≤ R.locals; omega⟩ hw ⟨by have := hb.1; show k + (if l0.length + eLn (eS E B) w ≤ μ.2.2.2.1 then 0 else 1) ≤ R.cells; omega, by have := hb.2; show n + (if l0.length + eLn (eS E B) w ≤ μ.2.2.2.1 then 0 else capG (l0.length + eLn (eS E B) w) μ.2.2.2.1) ≤ R.slots; omega⟩ d rfl (fun o ν' hP => ?_)
  obtain ⟨μ1, ⟨rfl, h1, h2, -⟩, rfl, h4⟩ := hP
  refine gz_widen (k' := k + 1) (n' := n + 2048) (by have := hb.1; show k + (if l0.length + eLn (eS E B) w ≤ μ.2.2.2.1 then 0 else 1) ≤ k + 1; omega) (by have := hb.2; show n + (if l0.length + eLn (eS E B) w ≤ μ.2.2.2.1 then 0 else capG (l0.length + eLn (eS E B) w) μ.2.2.2.1) ≤ n + 2048; omega) ?_
  exact kk μ1 ⟨lb_str (E := eS E B) hw22 h1, h4⟩ h2
/-- the exchange is made -/
theorem gz_mkX (C : Cq E p s m args meth c cc nL own) (hU : (eU E).1 = 0) (hAO : va_AO RX1 s) (hk : k = 0) {index i2 : Nat} (w1 : Cond.classLink own index RX3 ∈ GW) (w2 : Cond.instantiable RX3 9 ∈ GW) (w3 : Cond.initialized RX3 ∈ GW) (w4 : Cond.methodLink own i2 yX3_init ∈ GW) (w5 : Cond.instanceMethod yX3_init ∈ GW) (w6 : Cond.code yX3_init cX3_init 2 none ∈ GW) (hme : F_X1_makeEmpty 1 (mZ E) = some μ') (hR : 9 ≤ R.frames ∧ (330 ≤ R.locals ∧ (295 ≤ R.cells ∧ n + 8512 ≤ R.slots))) (hw : (rest.map fun v => v.category).sum + 1 ≤ 8) (d1 : decode cc pc = .ok (.new index, 3)) (d2 : decode cc (pc + 3) = .ok (.dup, 1)) (d3 : decode cc (pc + 4) = .ok (.invokespecial i2, 3)) (kk : (∀ q, q ∈ ν → q.1 < s.heap.size) → Gz E p l e R s m args below meth c (k + 295) (n + 8512) nL Q (pc + 7) lv (.ref s.heap.size :: rest) (ν ++ wl (eX E s.heap.size) μ')) : Gz E p l e R s m args below meth c k n nL Q pc lv rest ν := by
  have er1 : k + 295 = k + 1 + rmX.cells := by
    have e : rmX.cells = 294 := rfl
    omega
  have er2 : n + 8512 = n + 9 + rmX.slots := by
    have e : rmX.slots = 8503 := rfl
    omega
  rw [er1, er2] at kk
  refine gz_sz (Or.inr hk) (fun H locs ls hH hS hl hz => ?_)
  rw [hk, Nat.add_zero] at hz
  have hKn := C.2.2.2.2.2.2.1.1 5 _ rfl
  have hB : eB E ≤ s.heap.size := C.2.2.2.2.2.2.2.1
  refine W.newcK C.1 C.2.1 C.2.2.2.1 (C.2.2.2.2.1 _ w1) (C.2.2.2.2.1 _ w2) (C.2.2.2.2.1 _ w3) rfl d1 (by have := hR.2.2.1; omega) (by have := hR.2.2.2; omega) hKn.2.1 hz fun H1 kC hkC e1 z1 o1 => ?_
  refine lv_dup C.1 C.2.1 d2 rfl ?_
  have hraw : va_at E.1 vwCl (s.heap.size, rawX) H1 := ⟨_, rfl, (u_born tyX3 C.2.2.2.2.1 inG_X3 hKn hkC e1 tyX3_ok).to df_X3⟩
  have hS1 : va_S (eA E) s.heap H1 locs := ⟨by omega, fun x h1 h2 => (o1 x h1).trans (hS.2.1 x h1 h2), hS.2.2⟩
  have hf1 : k + 1 + rmX.cells ≤ R.cells := by
    have := hR.2.2.1
    have e : rmX.cells = 294 := rfl
    omega
  have hf2 : n + 9 + rmX.slots ≤ R.slots := by
    exact Nat.le_trans (Nat.le_of_eq er2.symm) hR.2.2.2
  have hr := va_runI (p := p) (l := l) (e := e) (R := R) (s := s) (m := m) (args := args) (below := below) (meth := meth) (c := c) (H := H1) (locs := locs) (cells := k + 1) (slots := n + 9) (g := F0 m (pc + 3 + 1) ls (.ref s.heap.size :: .ref s.heap.size :: rest)) (As := []) (rest := .ref s.heap.size :: rest) (b := s.heap.size) ⟨C.1, C.2.1, C.2.2.1, C.2.2.2.1, C.2.2.2.2.1⟩ (c_X3_init (l := l) (E := eR E s.heap.size) rfl hme) (cwI 0 C.2.2.2.2.1 (gw_in (gw_ws w6)) rfl rfl rfl (C.2.2.2.2.1 _ w3) (C.2.2.2.2.1 _ w4) (C.2.2.2.2.1 _ w5) rfl (by decide +kernel) ⟨by have := hR.1; show 8 + 1 ≤ R.frames; omega, by have := hR.2.1; show 8 + (2 + 11) + 300 ≤ R.locals; omega⟩) ⟨qB_blind (eR E s.heap.size) _ _ _ _, fun U hU2 hW => ⟨rfl, fun i hi => ?_, ?_, va_K.moved hW.alike C.2.2.2.2.2.2.1, Nat.le_refl _, eM_old hU hB (Old.to hW (by rw [hU2]; exact hS1) C.2.2.2.2.2.2.2.2), va_AO.moved hW.alike hAO⟩⟩ rfl rfl hl.1 rfl (lv_room (by show 1 + (rest.map fun v => v.category).sum ≤ 8; omega)) d3 ⟨hf1, hf2⟩
  rotate_left
  · have hi : i = 0 := by omega
    subst hi
    rw [hU2]
    exact hraw
  · rw [hU2]
    exact z1
  intro T hT Xs
  obtain ⟨v, st₀, t, T', L, h0, X', hL, e3, e2, ⟨hv, hP', hF⟩, st⟩ := hr T hT Xs
  cases hv
  obtain ⟨k1, k2, k3⟩ := vx_keep (A0 := eA E) (A1 := fun q => s.heap.size ≤ q) h0 e3 hS1 (fun q _ h => ⟨Nat.le_trans hB h, Or.inl hU⟩) (fun q h => ⟨Nat.le_trans hB h, Or.inl hU⟩) hL hF
  obtain ⟨g1, g2, g3⟩ := hw_iff.mp hH
  have hlt : ∀ q, q ∈ ν → q.1 < s.heap.size := fun q hq => by rw [← hz]; exact (g1 q hq).lt
  have hW : HW E (ν ++ wl (eX E s.heap.size) μ') T'.heap := hw_join hU hB (fun q hq => ((g1 q hq).kept (o1 _ (hlt q hq))).kept (k2 _ (by have := hlt q hq; omega) (by have := hlt q hq; omega))) g2 g3 hlt (fun i hi => by rw [e3]; exact hP' i hi)
  obtain ⟨t2, a1, b1⟩ := kk hlt T'.heap (locs ++ L) ls hW k3 hl T' rfl X'
  exact ⟨t2, st t2 a1, b1⟩
end EBR
abbrev rm_bi : Room := { frames := 7, cells := 2, slots := 4096, locals := 340 }
abbrev rm_bj : Room := { frames := 8, cells := 2, slots := 4096, locals := 400 }
/-- the memory with a builder of y's bytes -/
def mSB (μ : Mm) (y z : Nat) : Mm := (fun b j => if b = 295 then 0 else μ.1 b j, (μ.2.1, (y, (z, fun _ => 0))))
theorem msb_w {E : Ev} {B y z : Nat} {μ : Mm} {Y : va_W} : (Y ++ wl (eS E B) (mSB μ y z)).Perm ((y, .inl (eC E 0, z, .inl (fun _ => 0))) :: (B + 295, .inr (1, [.ref y, .int 0, .int 0, .int 0])) :: (Y ++ wl (eX E B) μ)) := by
  have e : bl B 296 (fun i => cn (eX E B) (mSB μ y z) i) = wl (eX E B) μ ++ [(B + 295, .inr (1, [.ref y, .int 0, .int 0, .int 0]))] := by
    have e1 : bl B 296 (fun i => cn (eX E B) (mSB μ y z) i) = bl B 295 (fun i => cn (eX E B) (mSB μ y z) i) ++ [(B + 295, cn (eX E B) (mSB μ y z) 295)] := bl_succ (n := 295)
    have e2 : bl B 295 (fun i => cn (eX E B) (mSB μ y z) i) = bl B 295 (fun i => cn (eX E B) μ i) := by
      unfold bl
      apply List.map_congr_left
      intro i hi
      have hi := List.mem_range.mp hi
      show (B + i, cn (eX E B) (mSB μ y z) i) = (B + i, cn (eX E B) μ i)
      rw [cn_no (kd_no4 i hi) (m := μ) (m' := mSB μ y z) (funext fun j => if_neg (by omega)) rfl]
    rw [e1, e2, ← wl_xl, cn_4 (show kd 295 = 4 by decide +kernel)]
    rfl
  rw [wl_sl, e]
  refine List.perm_middle.trans (List.Perm.cons _ ?_)
  rw [← List.append_assoc]
  exact List.perm_append_singleton _ _
section EBI
variable {l : Launch} {E : Ev} {Y : va_W} {B w : Nat} {μ : Mm}
set_option maxHeartbeats 4000000 in
set_option maxRecDepth 100000 in
theorem z_sbA (hU : (eU E).1 = 0) (hB : eB E ≤ B) (hs : ∀ q, q ∈ Y → q.1 < B) (hw : w < 22) : Cz l E yJ5_init_a7421 (Cond.code yJ5_init_a7421 cJ5_init_a7421 5 none :: GP) rm_bi [.ref (B + 295), .ref (eK E w)] ((B + 295, .inr (1, [.null, .int 0, .int 0, .int 0])) :: (Y ++ wl (eX E B) μ)) (fun o ν' => o = none ∧ ∃ μ1, SBw E B μ1 (lt w) ∧ (GR μ μ1 ∧ ν' = Y ++ wl (eS E B) μ1)) := by
  refine Met.ofW (cc := cJ5_init_a7421) (maxL := 5) (ret := none) (by decide) rfl ?_
  intro p e s m args below meth c s₁ B0 hml hv
  obtain ⟨rfl, hH, hK, hBs, hO⟩ := hv
  have hts := atoms_spec (ws := Cond.code yJ5_init_a7421 cJ5_init_a7421 5 none :: GP) B0.pre
  rw [lg_entry_eq]
  have C : Cq E p s m #[Value.ref (B + 295), Value.ref (eK E w)] meth c cJ5_init_a7421 5 RJ5 := ⟨B0.exec, B0.bytes, hml, findClass_of_methodNamed B0.named, fun w h => hts w (List.mem_cons_of_mem _ (gp_w h)), B0.notSynchronized, hK, hBs, hO⟩
  have hx : Px #[Value.ref (B + 295), Value.ref (eK E w)] s := fun w h => hts w (List.mem_cons_of_mem _ h)
  have hr := B0.returns
  have hz : eLn E w < 100 := by rw [eLn_l hw, (lit_rg w hw).1]; exact str_lt w hw
  have hz2 : (lt w).length = eLn E w := (eLn_l hw).symm
  have key : Gz E p l e rm_bi s m #[Value.ref (B + 295), Value.ref (eK E w)] below meth c 0 0 5 (MQ below (qSz E (fun o ν' => o = none ∧ ∃ μ1, SBw E B μ1 (lt w) ∧ (GR μ μ1 ∧ ν' = Y ++ wl (eS E B) μ1))) #[Value.ref (B + 295), Value.ref (eK E w)] s rm_bi.cells rm_bi.slots (eA E)) 0 (lv_args 0 [.ref (B + 295), .ref (eK E w)]) [] ((B + 295, .inr (1, [.null, .int 0, .int 0, .int 0])) :: (Y ++ wl (eX E B) μ)) := by
    refine gz_lv (lv' := [(0, .ref (B + 295)), (1, .ref (eK E w))]) rfl ?_
    refine gz_aload_n C dJ5_init_a7421_0 rfl 0 rfl ?_
    refine gz_obj C wk_3_33 wk_1_56 wk_1_57 ⟨(Nat.le_of_ble_eq_true rfl), (Nat.le_of_ble_eq_true rfl)⟩ dJ5_init_a7421_1 ?_
    refine gz_aload_n C dJ5_init_a7421_4 rfl 1 rfl ?_
    refine gz_VL (μ := mZ E) (As := []) (rest := []) C hU (c_J0_length_8abf5 (E := eE E) (by omega)) (show w < 23 by omega) wk_3_102 wk_3_103 wk_3_104 wk_1_9 wk_3_105 hd_J0_length_8abf5 ⟨(Nat.le_of_ble_eq_true rfl), (Nat.le_of_ble_eq_true rfl)⟩ (Nat.le_of_ble_eq_true rfl) ⟨(Nat.le_of_ble_eq_true rfl), (Nat.le_of_ble_eq_true rfl)⟩ dJ5_init_a7421_5 rfl rfl ?_
    rw [show eLn (eE E) w = eLn E w from rfl]
    refine gz_istore_n (i := 2) C dJ5_init_a7421_8 rfl (by decide) rfl ?_
    refine gz_iload_n C dJ5_init_a7421_9 rfl 0 rfl ?_
    refine gz_ldc (v := 2147483631) C wk_3_111 dJ5_init_a7421_10 ?_
    refine gz_icmp_ge_f (tgt := 22) C dJ5_init_a7421_12 (by decide) (show ¬ nI 2147483631 ≤ nI (eLn E w) from nI_ge (by omega) (by decide)) ?_
    refine gz_iload_n C dJ5_init_a7421_15 rfl 0 rfl ?_
    refine gz_bipush (v := 16) C dJ5_init_a7421_16 (by decide) ?_
    refine gz_iadd C dJ5_init_a7421_18 ?_
    rw [show nI (eLn E w) + 16 = nI (eLn E w + 16) from nI_add _ 16]
    refine gz_goto (tgt := 24) C dJ5_init_a7421_19 (by decide) ?_
    refine gz_istore_n (i := 3) C dJ5_init_a7421_24 rfl (by decide) rfl ?_
    refine gz_aload_n C dJ5_init_a7421_25 rfl 3 rfl ?_
    refine gz_VL (μ := mZ E) (As := []) (rest := []) C hU (c_J0_coder_7d493 (E := eE E) (by omega)) (show w < 23 by omega) wk_3_113 wk_3_107 wk_3_108 wk_1_9 wk_3_109 hd_J0_coder_7d493 ⟨(Nat.le_of_ble_eq_true rfl), (Nat.le_of_ble_eq_true rfl)⟩ (Nat.le_of_ble_eq_true rfl) ⟨(Nat.le_of_ble_eq_true rfl), (Nat.le_of_ble_eq_true rfl)⟩ dJ5_init_a7421_26 rfl rfl ?_
    refine gz_istore (i := 4) C dJ5_init_a7421_29 (by decide) rfl ?_
    refine gz_aload_n C dJ5_init_a7421_31 rfl 3 rfl ?_
    refine gz_iload C dJ5_init_a7421_32 0 rfl ?_
    refine gz_put (ci := 1) (N := 4) (T := TJ4) (ν' := (B + 295, .inr (1, [.null, .int 0, .int 0, .int 0])) :: (Y ++ wl (eX E B) μ)) C inG_J4 tyJ4 tyJ4_ok nmJ4 0 rfl rfl 1 (by decide) wk_3_44 rfl rfl rfl rfl (Nat.le_of_ble_eq_true rfl) rfl dJ5_init_a7421_34 ?_
    refine gz_aload_n C dJ5_init_a7421_37 rfl 3 rfl ?_
    refine gz_iload C dJ5_init_a7421_38 0 rfl ?_
    refine gz_if_ne_f (tgt := 49) C dJ5_init_a7421_40 (by decide) rfl ?_
    refine gz_iload_n C dJ5_init_a7421_43 rfl 1 rfl ?_
    refine gz_newa (atype := .byte) (ty := .byte) (a0 := (eLn E w + 16, .inl (fun _ => 0))) (N := eLn E w + 16) C hU wk_1_100 rfl 0 rfl (fun _ _ h => h) (fun _ => rfl) (nI_pos (by omega)) (nI_clamp (by omega)) (by show (eLn E w + 16) * 1 ≤ 536870912; omega) ⟨by show 0 + 0 + 0 + 1 ≤ 2; omega, by show 0 + 0 + 0 + (eLn E w + 16) ≤ 4096; omega⟩ dJ5_init_a7421_44 (fun y hy1 hy2 hy3 => ?_)
    refine gz_goto (tgt := 53) C dJ5_init_a7421_46 (by decide) ?_
    refine gz_put (ci := 1) (N := 4) (T := TJ4) (ν' := (y, .inl (eC E 0, eLn E w + 16, .inl (fun _ => 0))) :: (B + 295, .inr (1, [.ref y, .int 0, .int 0, .int 0])) :: (Y ++ wl (eX E B) μ)) C inG_J4 tyJ4 tyJ4_ok nmJ4 1 rfl rfl 0 (by decide) wk_3_43 rfl rfl rfl rfl (Nat.le_of_ble_eq_true rfl) rfl dJ5_init_a7421_53 ?_
    refine gz_aload_n C dJ5_init_a7421_56 rfl 3 rfl ?_
    refine gz_aload_n C dJ5_init_a7421_57 rfl 4 rfl ?_
    have hBy : B < y := by
      have := hy2 _ List.mem_cons_self
      have this : B + 295 < y := this
      omega
    refine gz_hw (ν' := Y ++ wl (eS E B) (mSB μ y (eLn E w + 16))) (fun H h => hw_perm msb_w h) ?_
    refine gz_D (fun hD => ?_)
    have hTB : TB (mSB μ y (eLn E w + 16)) 0 (LB []) := ⟨show (if (295 : Nat) = 295 then (0 : Int32) else μ.1 295 1) = 0 from if_pos rfl, show (if (295 : Nat) = 295 then (0 : Int32) else μ.1 295 3) = nI 0 from if_pos rfl, Nat.zero_le _, by show eLn E w + 16 ≤ 2048; omega, fun k => by show fits .byte (.int 0) = true; decide, fun k hk => absurd hk (Nat.not_lt_zero k)⟩
    have hDs : va_D (eA (eS E B)) (wl (eS E B) (mSB μ y (eLn E w + 16))) := by
      refine d_mk ?_ (fun q hq => ?_)
      · have := d_nd hD
        rw [List.map_append] at this
        exact (List.nodup_append.mp this).2.1
      · rw [wl_sl] at hq
        rcases List.mem_cons.mp hq with rfl | hq
        · exact ⟨Nat.le_of_lt hBy, Or.inl rfl⟩
        · obtain ⟨i, hi⟩ := List.getElem?_of_mem hq
          obtain ⟨i1, rfl⟩ := bl_ex hi
          exact ⟨Nat.le_add_right _ _, Or.inl rfl⟩
    have hb := rm_b1 (q := 0 + eLn (eS E B) w) (z := eLn E w + 16) (by show 0 + eLn E w ≤ 1000; omega) (by omega)
    refine gz_O (Ts := GP) (q := Y.length + 296) (As := [.ref (eK E w)]) (rest := []) (rm := rm_xp (0 + eLn (eS E B) w) (eLn E w + 16)) C hx (fun _ h => gp_in h) (cz_cts (μ := mSB μ y (eLn E w + 16)) (c_J4_apX (E := eS E B) (μ := mSB μ y (eLn E w + 16)) (n := 0) (w := w) (t := LB []) (show 295 < eN (eS E B) by show 295 < 296; decide) rfl hTB hw (by show 0 + eLn E w ≤ 1000; omega)) (eM_inn hU hB) (by show 0 < 296; decide) (ys_D hD) (fun q hq z => by have := hs q hq; have z1 : B ≤ q.1 := z.1; omega) hDs) (fun w h => h) ys_b rfl (gp_w wk_3_114) (gp_w wk_3_116) (gp_w wk_3_115) (gp_w wk_3_117) (gp_w wk_3_118) (gp_w wk_1_8) (gp_w wk_3_119) (gp_w wk_3_125) hb_apA ⟨(Nat.le_of_ble_eq_true rfl), (Nat.le_of_ble_eq_true rfl)⟩ (Nat.le_of_ble_eq_true rfl) ⟨by have := hb.1; show 0 + 0 + 0 + 1 + (if 0 + eLn (eS E B) w ≤ eLn E w + 16 then 0 else 1) ≤ 2; omega, by have := hb.2; show 0 + 0 + 0 + (eLn E w + 16) + (if 0 + eLn (eS E B) w ≤ eLn E w + 16 then 0 else capG (0 + eLn (eS E B) w) (eLn E w + 16)) ≤ 4096; omega⟩ dJ5_init_a7421_58 rfl (fun o ν' hP => ?_)
    obtain ⟨μ1, ⟨rfl, h1, h2, -⟩, rfl, h4⟩ := hP
    refine gz_popr C dJ5_init_a7421_61 ?_
    refine gz_end (o := none) ⟨rfl, μ1, ⟨?_, h4⟩, ⟨fun b hb0 => (h2.1 b hb0).trans (funext fun j => if_neg hb0), h2.2⟩, rfl⟩ (gz_vret C hr dJ5_init_a7421_62 (by have := hb.1; show 0 + 0 + 0 + 1 + (if 0 + eLn (eS E B) w ≤ eLn E w + 16 then 0 else 1) ≤ 2; omega) (by have := hb.2; show 0 + 0 + 0 + (eLn E w + 16) + (if 0 + eLn (eS E B) w ≤ eLn E w + 16 then 0 else capG (0 + eLn (eS E B) w) (eLn E w + 16)) ≤ 4096; omega))
    exact lb_str (E := eS E B) (l := []) hw h1
  exact key s.heap [] _ hH va_S.rf (lv_entry [.ref (B + 295), .ref (eK E w)] (Nat.le_of_ble_eq_true rfl))
set_option maxHeartbeats 4000000 in
set_option maxRecDepth 100000 in
theorem z_sbB (hU : (eU E).1 = 0) (hB : eB E ≤ B) (hs : ∀ q, q ∈ Y → q.1 < B) (hw : w < 22) : Cz l E yJ4_init_a7421 (Cond.code yJ4_init_a7421 cJ4_init_a7421 2 none :: GP) rm_bj [.ref (B + 295), .ref (eK E w)] ((B + 295, .inr (1, [.null, .int 0, .int 0, .int 0])) :: (Y ++ wl (eX E B) μ)) (fun o ν' => o = none ∧ ∃ μ1, SBw E B μ1 (lt w) ∧ (GR μ μ1 ∧ ν' = Y ++ wl (eS E B) μ1)) := by
  refine Met.ofW (cc := cJ4_init_a7421) (maxL := 2) (ret := none) (by decide) rfl ?_
  intro p e s m args below meth c s₁ B0 hml hv
  obtain ⟨rfl, hH, hK, hBs, hO⟩ := hv
  have hts := atoms_spec (ws := Cond.code yJ4_init_a7421 cJ4_init_a7421 2 none :: GP) B0.pre
  rw [lg_entry_eq]
  have C : Cq E p s m #[Value.ref (B + 295), Value.ref (eK E w)] meth c cJ4_init_a7421 2 RJ4 := ⟨B0.exec, B0.bytes, hml, findClass_of_methodNamed B0.named, fun w h => hts w (List.mem_cons_of_mem _ (gp_w h)), B0.notSynchronized, hK, hBs, hO⟩
  have hx : Px #[Value.ref (B + 295), Value.ref (eK E w)] s := fun w h => hts w (List.mem_cons_of_mem _ h)
  have hr := B0.returns
  have key : Gz E p l e rm_bj s m #[Value.ref (B + 295), Value.ref (eK E w)] below meth c 0 0 2 (MQ below (qSz E (fun o ν' => o = none ∧ ∃ μ1, SBw E B μ1 (lt w) ∧ (GR μ μ1 ∧ ν' = Y ++ wl (eS E B) μ1))) #[Value.ref (B + 295), Value.ref (eK E w)] s rm_bj.cells rm_bj.slots (eA E)) 0 (lv_args 0 [.ref (B + 295), .ref (eK E w)]) [] ((B + 295, .inr (1, [.null, .int 0, .int 0, .int 0])) :: (Y ++ wl (eX E B) μ)) := by
    refine gz_lv (lv' := [(0, .ref (B + 295)), (1, .ref (eK E w))]) rfl ?_
    refine gz_aload_n C dJ4_init_a7421_0 rfl 0 rfl ?_
    refine gz_aload_n C dJ4_init_a7421_1 rfl 1 rfl ?_
    refine gz_IT (Ts := GP) (As := [.ref (eK E w)]) (rest := []) C hx (fun _ h => gp_in h) (z_sbA hU hB hs hw) (fun w h => h) (gp_w wk_3_99) (gp_w wk_3_100) (gp_w wk_1_7) (gp_w wk_3_101) rfl hd_J5_iA ⟨(Nat.le_of_ble_eq_true rfl), (Nat.le_of_ble_eq_true rfl)⟩ (Nat.le_of_ble_eq_true rfl) ⟨(Nat.le_of_ble_eq_true rfl), (Nat.le_of_ble_eq_true rfl)⟩ dJ4_init_a7421_2 rfl (fun o ν' hP => ?_)
    have hP2 := hP
    obtain ⟨rfl, -⟩ := hP
    exact gz_end (o := none) hP2 (gz_vret C hr dJ4_init_a7421_5 (Nat.le_of_ble_eq_true rfl) (Nat.le_of_ble_eq_true rfl))
  exact key s.heap [] _ hH va_S.rf (lv_entry [.ref (B + 295), .ref (eK E w)] (Nat.le_of_ble_eq_true rfl))
end EBI
