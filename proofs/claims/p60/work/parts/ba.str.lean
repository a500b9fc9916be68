/-! ===== the builder takes a text ===== -/
theorem wk_3_102 : Cond.methodLink "java/lang/AbstractStringBuilder" (32 : Nat) ({ cls := "java/lang/String", name := "length", desc := "()I" } : MethodName) ∈ GW := gw_3 (List.mem_of_getElem? (i := 102) rfl) rfl
theorem wk_3_113 : Cond.methodLink "java/lang/AbstractStringBuilder" (40 : Nat) ({ cls := "java/lang/String", name := "coder", desc := "()B" } : MethodName) ∈ GW := gw_3 (List.mem_of_getElem? (i := 113) rfl) rfl
theorem wk_3_115 : Cond.instanceMethod ({ cls := "java/lang/AbstractStringBuilder", name := "append", desc := "(Ljava/lang/String;)Ljava/lang/AbstractStringBuilder;" } : MethodName) ∈ GW := gw_3 (List.mem_of_getElem? (i := 115) rfl) rfl
theorem wk_3_116 : Cond.sameMethod "java/lang/AbstractStringBuilder" "java/lang/AbstractStringBuilder" "append" "(Ljava/lang/String;)Ljava/lang/AbstractStringBuilder;" ∈ GW := gw_3 (List.mem_of_getElem? (i := 116) rfl) rfl
theorem wk_3_120 : Cond.methodLink "java/lang/StringBuilder" (23 : Nat) ({ cls := "java/lang/StringBuilder", name := "append", desc := "(Ljava/lang/String;)Ljava/lang/StringBuilder;" } : MethodName) ∈ GW := gw_3 (List.mem_of_getElem? (i := 120) rfl) rfl
theorem wk_3_121 : Cond.instanceMethod ({ cls := "java/lang/StringBuilder", name := "append", desc := "(Ljava/lang/String;)Ljava/lang/StringBuilder;" } : MethodName) ∈ GW := gw_3 (List.mem_of_getElem? (i := 121) rfl) rfl
theorem wk_3_122 : Cond.selects "java/lang/StringBuilder" ({ cls := "java/lang/StringBuilder", name := "append", desc := "(Ljava/lang/String;)Ljava/lang/StringBuilder;" } : MethodName) ({ cls := "java/lang/StringBuilder", name := "append", desc := "(Ljava/lang/String;)Ljava/lang/StringBuilder;" } : MethodName) ∈ GW := gw_3 (List.mem_of_getElem? (i := 122) rfl) rfl
theorem wk_3_123 : Cond.code ({ cls := "java/lang/StringBuilder", name := "append", desc := "(Ljava/lang/String;)Ljava/lang/StringBuilder;" } : MethodName) prog_24_method_7_code (2 : Nat) (Option.some (Jvm.ClassFile.FieldType.object "java/lang/StringBuilder")) ∈ GW := gw_3 (List.mem_of_getElem? (i := 123) rfl) rfl
theorem wk_3_124 : Cond.methodLink "java/lang/StringBuilder" (29 : Nat) ({ cls := "java/lang/AbstractStringBuilder", name := "append", desc := "(Ljava/lang/String;)Ljava/lang/AbstractStringBuilder;" } : MethodName) ∈ GW := gw_3 (List.mem_of_getElem? (i := 124) rfl) rfl
theorem wk_3_125 : Cond.code ({ cls := "java/lang/AbstractStringBuilder", name := "append", desc := "(Ljava/lang/String;)Ljava/lang/AbstractStringBuilder;" } : MethodName) prog_10_method_22_code (3 : Nat) (Option.some (Jvm.ClassFile.FieldType.object "java/lang/AbstractStringBuilder")) ∈ GW := gw_3 (List.mem_of_getElem? (i := 125) rfl) rfl
theorem wk_3_189 : Cond.methodLink "java/lang/AbstractStringBuilder" (208 : Nat) ({ cls := "java/lang/AbstractStringBuilder", name := "putStringAt", desc := "(ILjava/lang/String;)V" } : MethodName) ∈ GW := gw_3 (List.mem_of_getElem? (i := 189) rfl) rfl
theorem wk_3_191 : Cond.instanceMethod ({ cls := "java/lang/AbstractStringBuilder", name := "putStringAt", desc := "(ILjava/lang/String;)V" } : MethodName) ∈ GW := gw_3 (List.mem_of_getElem? (i := 191) rfl) rfl
theorem wk_3_192 : Cond.code ({ cls := "java/lang/AbstractStringBuilder", name := "putStringAt", desc := "(ILjava/lang/String;)V" } : MethodName) prog_10_method_73_code (3 : Nat) (Option.none : Option Jvm.ClassFile.FieldType) ∈ GW := gw_3 (List.mem_of_getElem? (i := 192) rfl) rfl
theorem wk_3_193 : Cond.methodLink "java/lang/AbstractStringBuilder" (397 : Nat) ({ cls := "java/lang/AbstractStringBuilder", name := "inflateIfNeededFor", desc := "(Ljava/lang/String;)V" } : MethodName) ∈ GW := gw_3 (List.mem_of_getElem? (i := 193) rfl) rfl
theorem wk_3_195 : Cond.instanceMethod ({ cls := "java/lang/AbstractStringBuilder", name := "inflateIfNeededFor", desc := "(Ljava/lang/String;)V" } : MethodName) ∈ GW := gw_3 (List.mem_of_getElem? (i := 195) rfl) rfl
theorem wk_3_196 : Cond.code ({ cls := "java/lang/AbstractStringBuilder", name := "inflateIfNeededFor", desc := "(Ljava/lang/String;)V" } : MethodName) prog_10_method_71_code (2 : Nat) (Option.none : Option Jvm.ClassFile.FieldType) ∈ GW := gw_3 (List.mem_of_getElem? (i := 196) rfl) rfl
theorem wk_3_216 : Cond.methodLink "java/lang/AbstractStringBuilder" (399 : Nat) ({ cls := "java/lang/String", name := "getBytes", desc := "([BIB)V" } : MethodName) ∈ GW := gw_3 (List.mem_of_getElem? (i := 216) rfl) rfl
theorem wk_3_217 : Cond.instanceMethod ({ cls := "java/lang/String", name := "getBytes", desc := "([BIB)V" } : MethodName) ∈ GW := gw_3 (List.mem_of_getElem? (i := 217) rfl) rfl
theorem wk_3_218 : Cond.selects "java/lang/String" ({ cls := "java/lang/String", name := "getBytes", desc := "([BIB)V" } : MethodName) ({ cls := "java/lang/String", name := "getBytes", desc := "([BIB)V" } : MethodName) ∈ GW := gw_3 (List.mem_of_getElem? (i := 218) rfl) rfl
theorem wk_3_219 : Cond.code ({ cls := "java/lang/String", name := "getBytes", desc := "([BIB)V" } : MethodName) prog_23_method_147_code (4 : Nat) (Option.none : Option Jvm.ClassFile.FieldType) ∈ GW := gw_3 (List.mem_of_getElem? (i := 219) rfl) rfl
theorem wk_3_220 : Cond.methodLink "java/lang/String" (212 : Nat) ({ cls := "java/lang/System", name := "arraycopy", desc := "(Ljava/lang/Object;ILjava/lang/Object;II)V" } : MethodName) ∈ GW := gw_3 (List.mem_of_getElem? (i := 220) rfl) rfl
theorem wk_5_30 : Cond.sameMethod "java/lang/AbstractStringBuilder" "java/lang/AbstractStringBuilder" "putStringAt" "(ILjava/lang/String;)V" ∈ GW := gw_5 (List.mem_of_getElem? (i := 30) rfl) rfl
theorem wk_5_31 : Cond.sameMethod "java/lang/AbstractStringBuilder" "java/lang/AbstractStringBuilder" "inflateIfNeededFor" "(Ljava/lang/String;)V" ∈ GW := gw_5 (List.mem_of_getElem? (i := 31) rfl) rfl
theorem dJ0_getBytes_840e7_0 : decode cJ0_getBytes_840e7 0 = .ok (.aload_n 0, 1) := by decide +kernel
theorem dJ0_getBytes_840e7_1 : decode cJ0_getBytes_840e7 1 = .ok (.invokevirtual 335, 3) := by decide +kernel
theorem dJ0_getBytes_840e7_4 : decode cJ0_getBytes_840e7 4 = .ok (.iload_n 3, 1) := by decide +kernel
theorem dJ0_getBytes_840e7_5 : decode cJ0_getBytes_840e7 5 = .ok (.if_icmp .ne 23, 3) := by decide +kernel
theorem dJ0_getBytes_840e7_8 : decode cJ0_getBytes_840e7 8 = .ok (.aload_n 0, 1) := by decide +kernel
theorem dJ0_getBytes_840e7_9 : decode cJ0_getBytes_840e7 9 = .ok (.getfield 9, 3) := by decide +kernel
theorem dJ0_getBytes_840e7_12 : decode cJ0_getBytes_840e7 12 = .ok (.iconst 0, 1) := by decide +kernel
theorem dJ0_getBytes_840e7_13 : decode cJ0_getBytes_840e7 13 = .ok (.aload_n 1, 1) := by decide +kernel
theorem dJ0_getBytes_840e7_14 : decode cJ0_getBytes_840e7 14 = .ok (.iload_n 2, 1) := by decide +kernel
theorem dJ0_getBytes_840e7_15 : decode cJ0_getBytes_840e7 15 = .ok (.iload_n 3, 1) := by decide +kernel
theorem dJ0_getBytes_840e7_16 : decode cJ0_getBytes_840e7 16 = .ok (.ishl, 1) := by decide +kernel
theorem dJ0_getBytes_840e7_17 : decode cJ0_getBytes_840e7 17 = .ok (.aload_n 0, 1) := by decide +kernel
theorem dJ0_getBytes_840e7_18 : decode cJ0_getBytes_840e7 18 = .ok (.getfield 9, 3) := by decide +kernel
theorem dJ0_getBytes_840e7_21 : decode cJ0_getBytes_840e7 21 = .ok (.arraylength, 1) := by decide +kernel
theorem dJ0_getBytes_840e7_22 : decode cJ0_getBytes_840e7 22 = .ok (.invokestatic 212, 3) := by decide +kernel
theorem dJ0_getBytes_840e7_25 : decode cJ0_getBytes_840e7 25 = .ok (.goto 18, 3) := by decide +kernel
theorem dJ0_getBytes_840e7_28 : decode cJ0_getBytes_840e7 28 = .ok (.aload_n 0, 1) := by decide +kernel
theorem dJ0_getBytes_840e7_29 : decode cJ0_getBytes_840e7 29 = .ok (.getfield 9, 3) := by decide +kernel
theorem dJ0_getBytes_840e7_32 : decode cJ0_getBytes_840e7 32 = .ok (.iconst 0, 1) := by decide +kernel
theorem dJ0_getBytes_840e7_33 : decode cJ0_getBytes_840e7 33 = .ok (.aload_n 1, 1) := by decide +kernel
theorem dJ0_getBytes_840e7_34 : decode cJ0_getBytes_840e7 34 = .ok (.iload_n 2, 1) := by decide +kernel
theorem dJ0_getBytes_840e7_35 : decode cJ0_getBytes_840e7 35 = .ok (.aload_n 0, 1) := by decide +kernel
theorem dJ0_getBytes_840e7_36 : decode cJ0_getBytes_840e7 36 = .ok (.getfield 9, 3) := by decide +kernel
theorem dJ0_getBytes_840e7_39 : decode cJ0_getBytes_840e7 39 = .ok (.arraylength, 1) := by decide +kernel
theorem dJ0_getBytes_840e7_40 : decode cJ0_getBytes_840e7 40 = .ok (.invokestatic 106, 3) := by decide +kernel
theorem dJ0_getBytes_840e7_43 : decode cJ0_getBytes_840e7 43 = .ok (.return_, 1) := by decide +kernel
theorem dJ5_inflateIfNeededFor_a7421_0 : decode cJ5_inflateIfNeededFor_a7421 0 = .ok (.getstatic 18, 3) := by decide +kernel
theorem dJ5_inflateIfNeededFor_a7421_3 : decode cJ5_inflateIfNeededFor_a7421 3 = .ok (.ifCond .eq 18, 3) := by decide +kernel
theorem dJ5_inflateIfNeededFor_a7421_6 : decode cJ5_inflateIfNeededFor_a7421 6 = .ok (.aload_n 0, 1) := by decide +kernel
theorem dJ5_inflateIfNeededFor_a7421_7 : decode cJ5_inflateIfNeededFor_a7421 7 = .ok (.getfield 22, 3) := by decide +kernel
theorem dJ5_inflateIfNeededFor_a7421_10 : decode cJ5_inflateIfNeededFor_a7421 10 = .ok (.aload_n 1, 1) := by decide +kernel
theorem dJ5_inflateIfNeededFor_a7421_11 : decode cJ5_inflateIfNeededFor_a7421 11 = .ok (.invokevirtual 40, 3) := by decide +kernel
theorem dJ5_inflateIfNeededFor_a7421_14 : decode cJ5_inflateIfNeededFor_a7421 14 = .ok (.if_icmp .eq 7, 3) := by decide +kernel
theorem dJ5_inflateIfNeededFor_a7421_17 : decode cJ5_inflateIfNeededFor_a7421 17 = .ok (.aload_n 0, 1) := by decide +kernel
theorem dJ5_inflateIfNeededFor_a7421_18 : decode cJ5_inflateIfNeededFor_a7421 18 = .ok (.invokevirtual 195, 3) := by decide +kernel
theorem dJ5_inflateIfNeededFor_a7421_21 : decode cJ5_inflateIfNeededFor_a7421 21 = .ok (.return_, 1) := by decide +kernel
theorem dJ5_putStringAt_47b60_0 : decode cJ5_putStringAt_47b60 0 = .ok (.aload_n 0, 1) := by decide +kernel
theorem dJ5_putStringAt_47b60_1 : decode cJ5_putStringAt_47b60 1 = .ok (.aload_n 2, 1) := by decide +kernel
theorem dJ5_putStringAt_47b60_2 : decode cJ5_putStringAt_47b60 2 = .ok (.invokevirtual 397, 3) := by decide +kernel
theorem dJ5_putStringAt_47b60_5 : decode cJ5_putStringAt_47b60 5 = .ok (.aload_n 2, 1) := by decide +kernel
theorem dJ5_putStringAt_47b60_6 : decode cJ5_putStringAt_47b60 6 = .ok (.aload_n 0, 1) := by decide +kernel
theorem dJ5_putStringAt_47b60_7 : decode cJ5_putStringAt_47b60 7 = .ok (.getfield 15, 3) := by decide +kernel
theorem dJ5_putStringAt_47b60_10 : decode cJ5_putStringAt_47b60 10 = .ok (.iload_n 1, 1) := by decide +kernel
theorem dJ5_putStringAt_47b60_11 : decode cJ5_putStringAt_47b60 11 = .ok (.aload_n 0, 1) := by decide +kernel
theorem dJ5_putStringAt_47b60_12 : decode cJ5_putStringAt_47b60 12 = .ok (.getfield 22, 3) := by decide +kernel
theorem dJ5_putStringAt_47b60_15 : decode cJ5_putStringAt_47b60 15 = .ok (.invokevirtual 399, 3) := by decide +kernel
theorem dJ5_putStringAt_47b60_18 : decode cJ5_putStringAt_47b60 18 = .ok (.return_, 1) := by decide +kernel
theorem dJ5_append_cf1ce_0 : decode cJ5_append_cf1ce 0 = .ok (.aload_n 1, 1) := by decide +kernel
theorem dJ5_append_cf1ce_1 : decode cJ5_append_cf1ce 1 = .ok (.ifnonnull 8, 3) := by decide +kernel
theorem dJ5_append_cf1ce_4 : decode cJ5_append_cf1ce 4 = .ok (.aload_n 0, 1) := by decide +kernel
theorem dJ5_append_cf1ce_5 : decode cJ5_append_cf1ce 5 = .ok (.invokevirtual 204, 3) := by decide +kernel
theorem dJ5_append_cf1ce_8 : decode cJ5_append_cf1ce 8 = .ok (.areturn, 1) := by decide +kernel
theorem dJ5_append_cf1ce_9 : decode cJ5_append_cf1ce 9 = .ok (.aload_n 1, 1) := by decide +kernel
theorem dJ5_append_cf1ce_10 : decode cJ5_append_cf1ce 10 = .ok (.invokevirtual 32, 3) := by decide +kernel
theorem dJ5_append_cf1ce_13 : decode cJ5_append_cf1ce 13 = .ok (.istore_n 2, 1) := by decide +kernel
theorem dJ5_append_cf1ce_14 : decode cJ5_append_cf1ce 14 = .ok (.aload_n 0, 1) := by decide +kernel
theorem dJ5_append_cf1ce_15 : decode cJ5_append_cf1ce 15 = .ok (.aload_n 0, 1) := by decide +kernel
theorem dJ5_append_cf1ce_16 : decode cJ5_append_cf1ce 16 = .ok (.getfield 79, 3) := by decide +kernel
theorem dJ5_append_cf1ce_19 : decode cJ5_append_cf1ce 19 = .ok (.iload_n 2, 1) := by decide +kernel
theorem dJ5_append_cf1ce_20 : decode cJ5_append_cf1ce 20 = .ok (.iadd, 1) := by decide +kernel
theorem dJ5_append_cf1ce_21 : decode cJ5_append_cf1ce 21 = .ok (.invokevirtual 100, 3) := by decide +kernel
theorem dJ5_append_cf1ce_24 : decode cJ5_append_cf1ce 24 = .ok (.aload_n 0, 1) := by decide +kernel
theorem dJ5_append_cf1ce_25 : decode cJ5_append_cf1ce 25 = .ok (.aload_n 0, 1) := by decide +kernel
theorem dJ5_append_cf1ce_26 : decode cJ5_append_cf1ce 26 = .ok (.getfield 79, 3) := by decide +kernel
theorem dJ5_append_cf1ce_29 : decode cJ5_append_cf1ce 29 = .ok (.aload_n 1, 1) := by decide +kernel
theorem dJ5_append_cf1ce_30 : decode cJ5_append_cf1ce 30 = .ok (.invokevirtual 208, 3) := by decide +kernel
theorem dJ5_append_cf1ce_33 : decode cJ5_append_cf1ce 33 = .ok (.aload_n 0, 1) := by decide +kernel
theorem dJ5_append_cf1ce_34 : decode cJ5_append_cf1ce 34 = .ok (.dup, 1) := by decide +kernel
theorem dJ5_append_cf1ce_35 : decode cJ5_append_cf1ce 35 = .ok (.getfield 79, 3) := by decide +kernel
theorem dJ5_append_cf1ce_38 : decode cJ5_append_cf1ce 38 = .ok (.iload_n 2, 1) := by decide +kernel
theorem dJ5_append_cf1ce_39 : decode cJ5_append_cf1ce 39 = .ok (.iadd, 1) := by decide +kernel
theorem dJ5_append_cf1ce_40 : decode cJ5_append_cf1ce 40 = .ok (.putfield 79, 3) := by decide +kernel
theorem dJ5_append_cf1ce_43 : decode cJ5_append_cf1ce 43 = .ok (.aload_n 0, 1) := by decide +kernel
theorem dJ5_append_cf1ce_44 : decode cJ5_append_cf1ce 44 = .ok (.areturn, 1) := by decide +kernel
theorem dJ4_append_15ec4_0 : decode cJ4_append_15ec4 0 = .ok (.aload_n 0, 1) := by decide +kernel
theorem dJ4_append_15ec4_1 : decode cJ4_append_15ec4 1 = .ok (.aload_n 1, 1) := by decide +kernel
theorem dJ4_append_15ec4_2 : decode cJ4_append_15ec4 2 = .ok (.invokespecial 29, 3) := by decide +kernel
theorem dJ4_append_15ec4_5 : decode cJ4_append_15ec4 5 = .ok (.pop, 1) := by decide +kernel
theorem dJ4_append_15ec4_6 : decode cJ4_append_15ec4 6 = .ok (.aload_n 0, 1) := by decide +kernel
theorem dJ4_append_15ec4_7 : decode cJ4_append_15ec4 7 = .ok (.areturn, 1) := by decide +kernel
theorem dJ4_append_cf1ce_0 : decode cJ4_append_cf1ce 0 = .ok (.aload_n 0, 1) := by decide +kernel
theorem dJ4_append_cf1ce_1 : decode cJ4_append_cf1ce 1 = .ok (.aload_n 1, 1) := by decide +kernel
theorem dJ4_append_cf1ce_2 : decode cJ4_append_cf1ce 2 = .ok (.invokevirtual 23, 3) := by decide +kernel
theorem dJ4_append_cf1ce_5 : decode cJ4_append_cf1ce 5 = .ok (.areturn, 1) := by decide +kernel
theorem hb_inf : yJ5_inflateIfNeededFor_a7421.cls ≠ "java/lang/invoke/MethodHandle" ∧ yJ5_inflateIfNeededFor_a7421.cls ≠ "java/lang/invoke/VarHandle" ∧ (parseMethodDescriptor yJ5_inflateIfNeededFor_a7421.desc).map (fun d => d.parameters.length) = some 1 := by decide +kernel
theorem hb_psa : yJ5_putStringAt_47b60.cls ≠ "java/lang/invoke/MethodHandle" ∧ yJ5_putStringAt_47b60.cls ≠ "java/lang/invoke/VarHandle" ∧ (parseMethodDescriptor yJ5_putStringAt_47b60.desc).map (fun d => d.parameters.length) = some 2 := by decide +kernel
theorem hd_J0_getBytes : yJ0_getBytes_840e7.cls = "java/lang/String" ∧ yJ0_getBytes_840e7.cls ≠ "java/lang/invoke/MethodHandle" ∧ yJ0_getBytes_840e7.cls ≠ "java/lang/invoke/VarHandle" ∧ (parseMethodDescriptor yJ0_getBytes_840e7.desc).map (fun d => d.parameters.length) = some 3 := by decide +kernel
theorem hs_apS : yJ5_append_cf1ce.name ≠ "<init>" ∧ (parseMethodDescriptor yJ5_append_cf1ce.desc).map (fun d => d.parameters.length) = some 1 := by decide +kernel
theorem hv_apS : yJ4_append_15ec4.cls = "java/lang/StringBuilder" ∧ yJ4_append_15ec4.cls ≠ "java/lang/invoke/MethodHandle" ∧ yJ4_append_15ec4.cls ≠ "java/lang/invoke/VarHandle" ∧ (parseMethodDescriptor yJ4_append_15ec4.desc).map (fun d => d.parameters.length) = some 1 := by decide +kernel
abbrev rm_xp (q m : Nat) : Room := { frames := 6, cells := if q ≤ m then 0 else 1, slots := if q ≤ m then 0 else capG q m, locals := 280 }
/-- the builder's bytes laid anew -/
def uF (m : Mm) (f : Nat → Int32) : Mm := (m.1, (m.2.1, (m.2.2.1, (m.2.2.2.1, f))))
theorem wl_fset {E : Ev} {m : Mm} {f : Nat → Int32} (h : 295 < eN E) : (wl E m).set 0 (m.2.2.1, .inl (eC E 0, m.2.2.2.1, .inl f)) = wl E (uF m f) := by
  have e : (fun a => cn E (uF m f) (a - eB E)) = (fun a => cn E m (a - eB E)) := funext fun a => cn_sb rfl rfl rfl
  unfold wl
  rw [e, tx_1 h, tx_1 h]
  rfl
/-- a text's bytes, written from n on -/
def pSt (E : Ev) (w n : Nat) (t : Nat → Int32) : Nat → Int32 := va_cpy (fun j => (eBy E w).getD j 0) t 0 n (eLn E w)
theorem lit_rg : ∀ w, w < 22 → (qByt.getD w []).length = qLen.getD w 0 ∧ ∀ x, x ∈ qByt.getD w [] → fits .byte (.int x) = true := by decide +kernel
theorem eLn_l {E : Ev} {w : Nat} (hw : w < 22) : eLn E w = (qByt.getD w []).length := by
  unfold eLn
  rw [if_neg (by omega), (lit_rg w hw).1]
theorem eBy_l {E : Ev} {w : Nat} (hw : w < 22) : eBy E w = qByt.getD w [] := if_neg (by omega)
theorem lit_fit {E : Ev} {w : Nat} (hw : w < 22) (j : Nat) (hj : j < eLn E w) : fits .byte (.int ((eBy E w).getD j 0)) = true := by
  rw [eLn_l hw] at hj
  rw [eBy_l hw, List.getD_eq_getElem?_getD, List.getElem?_eq_getElem hj, Option.getD_some]
  exact (lit_rg w hw).2 _ (List.getElem_mem hj)
theorem pS_fit {E : Ev} {w n : Nat} {t : Nat → Int32} (hw : w < 22) (h : Fitb t) : Fitb (pSt E w n t) := by
  intro k
  unfold pSt va_cpy
  by_cases e : n ≤ k ∧ k < n + eLn E w
  · rw [if_pos e]
    exact lit_fit hw _ (by omega)
  · rw [if_neg e]
    exact h k
section SBS
variable {E : Ev} {p : Program} {l : Launch} {e : Env} {R : Room} {s : State} {m : MethodId} {args : Array Value} {below : List Frame} {meth : Method} {c : Code} {k n nL : Nat} {Q : State → Prop} {cc : ByteArray} {own : String} {pc : Nat} {lv lv' : List (Nat × Value)} {rest st : List Value} {μ μ' : Mm}
theorem gq_ifnn (C : Cq E p s m args meth c cc nL own) {x : Nat} {off : Int} {tgt : Nat} (d : decode cc pc = .ok (.ifnonnull off, 3)) (ht : (pc : Int) + off = (tgt : Int)) (kk : Gq E p l e R s m args below meth c k n nL Q tgt lv rest μ) : Gq E p l e R s m args below meth c k n nL Q pc lv (.ref x :: rest) μ := fun H locs ls hH hS hl => lv_ifnonnull C.1 C.2.1 d ht (kk H locs ls hH hS hl)
/-- a text's bytes are copied into the builder's -/
theorem gq_cpT (C : Cq E p s m args meth c cc nL own) (hb : 295 < eN E) {b0 n0 index : Nat} {f : Nat → Int32} (hT : va_T .byte b0 n0 (fun j => .int (f j)) (eA E) s s.heap) {sp dp z : Int32} (h1 : ¬ sp < 0) (h2 : ¬ dp < 0) (h3 : ¬ z < 0) (h4 : sp.toNatClampNeg + z.toNatClampNeg ≤ n0) (h5 : dp.toNatClampNeg + z.toNatClampNeg ≤ μ.2.2.2.1) (hfit : ∀ i : Nat, i < z.toNatClampNeg → fits .byte (.int (f (sp.toNatClampNeg + i))) = true) (w1 : Cond.methodLink own index arraycopyName ∈ GW) (w2 : Cond.native arraycopyName ∈ GW) (w3 : Cond.static arraycopyName ∈ GW) (w4 : Cond.initialized "java/lang/System" ∈ GW) (hf : 1 ≤ R.frames) (hlo : (rest.map fun v => v.category).sum + (nativeFrameWords "java/lang/System" "arraycopy" 5 + 11) ≤ R.locals) (d : decode cc pc = .ok (.invokestatic index, 3)) (kk : Gq E p l e R s m args below meth c k n nL Q (pc + 3) lv rest (uF μ (va_cpy f μ.2.2.2.2 sp.toNatClampNeg dp.toNatClampNeg z.toNatClampNeg))) : Gq E p l e R s m args below meth c k n nL Q pc lv (.int z :: .int dp :: .ref μ.2.2.1 :: .int sp :: .ref b0 :: rest) μ := by
  intro H locs ls hH hS hl
  refine vk_copyt C.1 C.2.1 (C.2.2.1.trans hl.1.symm) C.2.2.2.1 (C.2.2.2.2.1 _ w1) (C.2.2.2.2.1 _ w2) (C.2.2.2.2.1 _ w3) (C.2.2.2.2.1 _ w4) C.2.2.2.2.2.2.1 hH.1 hH.2 hS hT 0 0 (wl_b0 hb) rfl h1 h2 h3 h4 h5 hfit hf hlo d (fun H1 locs1 hP hD hS1 => kk H1 locs1 ls ?_ hS1 hl)
  rw [wl_fset hb] at hP hD
  exact ⟨hP, hD⟩
end SBS
abbrev rm_gb : Room := { frames := 1, cells := 0, slots := 0, locals := 60 }
abbrev rm_inf : Room := { frames := 1, cells := 0, slots := 0, locals := 40 }
abbrev rm_psa : Room := { frames := 2, cells := 0, slots := 0, locals := 110 }
section SBT
variable {l : Launch} {E : Ev} {μ : Mm}
set_option maxHeartbeats 4000000 in
set_option maxRecDepth 100000 in
theorem c_J0_getBytes {w n : Nat} (hN : 295 < eN E) (hw : w < 22) (hn : n + eLn E w ≤ μ.2.2.2.1) (hc : μ.2.2.2.1 ≤ 2048) : Ct l E yJ0_getBytes_840e7 (Cond.code yJ0_getBytes_840e7 cJ0_getBytes_840e7 4 none :: GW) rm_gb [.ref (eK E w), .ref μ.2.2.1, .int (nI n), .int 0] μ none (uF μ (pSt E w n μ.2.2.2.2)) := by
  have hL : eLn E w ≤ 2048 := by omega
  refine ct_of (by decide) (Nat.le_of_ble_eq_true rfl) (fun p e s m args below meth c C hr => ?_)
  have C : Cq E p s m args meth c cJ0_getBytes_840e7 4 RJ0 := C
  have hS := (C.2.2.2.2.2.2.2.2.2.1 w (by omega)).1 0 (by decide)
  have hT : va_T .byte (eV E w) (eLn E w) (fun j => .int ((eBy E w).getD j 0)) (eA E) s s.heap := hS.2.2.2
  refine gq_lv (lv' := [(0, .ref (eK E w)), (1, .ref μ.2.2.1), (2, .int (nI n)), (3, .int 0)]) rfl ?_
  refine gq_aload_n C dJ0_getBytes_840e7_0 rfl 0 rfl ?_
  refine gq_VL (As := []) (rest := []) C (c_J0_coder_7d493 (by omega)) (show w < 23 by omega) wk_3_106 wk_3_107 wk_3_108 wk_1_9 wk_3_109 hd_J0_coder_7d493 ⟨(Nat.le_of_ble_eq_true rfl), (Nat.le_of_ble_eq_true rfl)⟩ (Nat.le_of_ble_eq_true rfl) ⟨(Nat.le_of_ble_eq_true rfl), (Nat.le_of_ble_eq_true rfl)⟩ dJ0_getBytes_840e7_1 rfl rfl ?_
  refine gq_iload_n C dJ0_getBytes_840e7_4 rfl 3 rfl ?_
  refine gq_icmp_ne_f (tgt := 28) C dJ0_getBytes_840e7_5 (by decide) rfl ?_
  refine gq_aload_n C dJ0_getBytes_840e7_8 rfl 0 rfl ?_
  refine gq_getOF C hS.2.2.1 wk_4_68 (fun _ h => h) dJ0_getBytes_840e7_9 ?_
  refine gq_iconst (v := 0) C dJ0_getBytes_840e7_12 (by decide) ?_
  refine gq_aload_n C dJ0_getBytes_840e7_13 rfl 1 rfl ?_
  refine gq_iload_n C dJ0_getBytes_840e7_14 rfl 2 rfl ?_
  refine gq_iload_n C dJ0_getBytes_840e7_15 rfl 3 rfl ?_
  refine gq_ishl C dJ0_getBytes_840e7_16 ?_
  rw [show nI n <<< ((0 : Int32) &&& 31) = nI n from sb_shl0 _]
  refine gq_aload_n C dJ0_getBytes_840e7_17 rfl 0 rfl ?_
  refine gq_getOF C hS.2.2.1 wk_4_68 (fun _ h => h) dJ0_getBytes_840e7_18 ?_
  refine gq_tlen C hT dJ0_getBytes_840e7_21 ?_
  have cL : (nI (eLn E w)).toNatClampNeg = eLn E w := nI_clamp (by omega)
  have cN : (nI n).toNatClampNeg = n := nI_clamp (by omega)
  refine gq_cpT (rest := []) C hN hT (by decide) (nI_pos (by omega)) (nI_pos (by omega)) (by rw [cL]; show 0 + _ ≤ _; omega) (by rw [cL, cN]; exact hn) (fun i hi => by rw [cL] at hi; show fits .byte (.int ((eBy E w).getD (0 + i) 0)) = true; rw [Nat.zero_add]; exact lit_fit hw i hi) wk_3_220 wk_1_231 wk_1_230 wk_1_14 (Nat.le_of_ble_eq_true rfl) (Nat.le_of_ble_eq_true rfl) dJ0_getBytes_840e7_22 ?_
  rw [cL, cN]
  refine gq_goto (tgt := 43) C dJ0_getBytes_840e7_25 (by decide) ?_
  exact gq_vret C hr dJ0_getBytes_840e7_43 (Nat.le_of_ble_eq_true rfl) (Nat.le_of_ble_eq_true rfl)
set_option maxHeartbeats 4000000 in
set_option maxRecDepth 100000 in
theorem c_J5_inflateIf {w : Nat} (hN : 295 < eN E) (hw : w < 22) (h1 : μ.1 295 1 = 0) : Ct l E yJ5_inflateIfNeededFor_a7421 (Cond.code yJ5_inflateIfNeededFor_a7421 cJ5_inflateIfNeededFor_a7421 2 none :: GW) rm_inf [.ref (eB E + 295), .ref (eK E w)] μ none μ := by
  refine ct_of (by decide) (Nat.le_of_ble_eq_true rfl) (fun p e s m args below meth c C hr => ?_)
  have C : Cq E p s m args meth c cJ5_inflateIfNeededFor_a7421 2 RJ5 := C
  refine gq_lv (lv' := [(0, .ref (eB E + 295)), (1, .ref (eK E w))]) rfl ?_
  refine gq_getsZ C C.2.2.2.2.2.2.2.2.2.2.2.2.1 wk_3_34 (fun _ h => h) dJ5_inflateIfNeededFor_a7421_0 ?_
  refine gq_if_eq_f (tgt := 21) C dJ5_inflateIfNeededFor_a7421_3 (by decide) (by decide) ?_
  refine gq_aload_n C dJ5_inflateIfNeededFor_a7421_6 rfl 0 rfl ?_
  refine gq_get4 C hN kd_295 1 (by decide) wk_3_44 rfl dJ5_inflateIfNeededFor_a7421_7 ?_
  refine gq_aload_n C dJ5_inflateIfNeededFor_a7421_10 rfl 1 rfl ?_
  refine gq_VL (As := []) (rest := [.int (μ.1 295 1)]) C (c_J0_coder_7d493 (by omega)) (show w < 23 by omega) wk_3_113 wk_3_107 wk_3_108 wk_1_9 wk_3_109 hd_J0_coder_7d493 ⟨(Nat.le_of_ble_eq_true rfl), (Nat.le_of_ble_eq_true rfl)⟩ (Nat.le_of_ble_eq_true rfl) ⟨(Nat.le_of_ble_eq_true rfl), (Nat.le_of_ble_eq_true rfl)⟩ dJ5_inflateIfNeededFor_a7421_11 rfl rfl ?_
  refine gq_icmp_eq_t (tgt := 21) C dJ5_inflateIfNeededFor_a7421_14 (by decide) h1 ?_
  exact gq_vret C hr dJ5_inflateIfNeededFor_a7421_21 (Nat.le_of_ble_eq_true rfl) (Nat.le_of_ble_eq_true rfl)
set_option maxHeartbeats 4000000 in
set_option maxRecDepth 100000 in
theorem c_J5_putStringAt {w n : Nat} (hN : 295 < eN E) (hw : w < 22) (h1 : μ.1 295 1 = 0) (hn : n + eLn E w ≤ μ.2.2.2.1) (hc : μ.2.2.2.1 ≤ 2048) : CtS l E yJ5_putStringAt_47b60 (Cond.code yJ5_putStringAt_47b60 cJ5_putStringAt_47b60 3 none :: GP) rm_psa [.ref (eB E + 295), .int (nI n), .ref (eK E w)] μ (fun o μ' => o = none ∧ μ' = uF μ (pSt E w n μ.2.2.2.2)) := by
  refine ctp_of (by decide) (Nat.le_of_ble_eq_true rfl) (fun p e s m args below meth c C hx hr => ?_)
  have C : Cq E p s m args meth c cJ5_putStringAt_47b60 3 RJ5 := C
  refine gq_lv (lv' := [(0, .ref (eB E + 295)), (1, .int (nI n)), (2, .ref (eK E w))]) rfl ?_
  refine gq_aload_n C dJ5_putStringAt_47b60_0 rfl 0 rfl ?_
  refine gq_aload_n C dJ5_putStringAt_47b60_1 rfl 2 rfl ?_
  refine gq_call (run_VU (As := [.ref (eK E w)]) (rest := []) (j := 4) C hx (c_J5_inflateIf hN hw h1) (fun w h => gp_w h) hN kd_295 (by decide) rfl wk_3_193 wk_5_31 gp_inf wk_3_195 wk_1_7 wk_3_196 hb_inf ⟨(Nat.le_of_ble_eq_true rfl), (Nat.le_of_ble_eq_true rfl)⟩ (Nat.le_of_ble_eq_true rfl) ⟨(Nat.le_of_ble_eq_true rfl), (Nat.le_of_ble_eq_true rfl)⟩ dJ5_putStringAt_47b60_2 rfl) rfl ?_
  refine gq_aload_n C dJ5_putStringAt_47b60_5 rfl 2 rfl ?_
  refine gq_aload_n C dJ5_putStringAt_47b60_6 rfl 0 rfl ?_
  refine gq_get4 C hN kd_295 0 (by decide) wk_3_43 rfl dJ5_putStringAt_47b60_7 ?_
  refine gq_iload_n C dJ5_putStringAt_47b60_10 rfl 1 rfl ?_
  refine gq_aload_n C dJ5_putStringAt_47b60_11 rfl 0 rfl ?_
  refine gq_get4 C hN kd_295 1 (by decide) wk_3_44 rfl dJ5_putStringAt_47b60_12 ?_
  rw [h1]
  refine gq_VL (As := [.ref μ.2.2.1, .int (nI n), .int 0]) (rest := []) C (c_J0_getBytes hN hw hn hc) (show w < 23 by omega) wk_3_216 wk_3_217 wk_3_218 wk_1_9 wk_3_219 hd_J0_getBytes ⟨(Nat.le_of_ble_eq_true rfl), (Nat.le_of_ble_eq_true rfl)⟩ (Nat.le_of_ble_eq_true rfl) ⟨(Nat.le_of_ble_eq_true rfl), (Nat.le_of_ble_eq_true rfl)⟩ dJ5_putStringAt_47b60_15 rfl rfl ?_
  exact gs_end (P := fun o μ' => o = none ∧ μ' = uF μ (pSt E w n μ.2.2.2.2)) (o := none) (μ' := uF μ (pSt E w n μ.2.2.2.2)) ⟨rfl, rfl⟩ (gq_vret C hr dJ5_putStringAt_47b60_18 (Nat.le_of_ble_eq_true rfl) (Nat.le_of_ble_eq_true rfl))
set_option maxHeartbeats 4000000 in
set_option maxRecDepth 100000 in
theorem c_J5_apS {n w : Nat} {t : Nat → Int32} (hN : 295 < eN E) (hU : (eU E).1 = 0) (h : TB μ n t) (hw : w < 22) (hn : n + eLn E w ≤ 1000) : CtS l E yJ5_append_cf1ce (Cond.code yJ5_append_cf1ce cJ5_append_cf1ce 3 (some (.object "java/lang/AbstractStringBuilder")) :: GP) (rm_ap (n + eLn E w) μ.2.2.2.1) [.ref (eB E + 295), .ref (eK E w)] μ (ApP E n (eLn E w) (pSt E w n t) μ) := by
  obtain ⟨h1, h2, h3, h4, h5, h6⟩ := id h
  generalize hd : eLn E w = z at *
  refine ctp_of (by decide) (Nat.le_of_ble_eq_true rfl) (fun p e s m args below meth c C hx hr => ?_)
  have C : Cq E p s m args meth c cJ5_append_cf1ce 3 RJ5 := C
  refine gq_lv (lv' := [(0, .ref (eB E + 295)), (1, .ref (eK E w))]) rfl ?_
  refine gq_aload_n C dJ5_append_cf1ce_0 rfl 1 rfl ?_
  refine gq_ifnn (tgt := 9) C dJ5_append_cf1ce_1 (by decide) ?_
  refine gq_aload_n C dJ5_append_cf1ce_9 rfl 1 rfl ?_
  refine gq_VL (As := []) (rest := []) C (c_J0_length_8abf5 (by omega)) (show w < 23 by omega) wk_3_102 wk_3_103 wk_3_104 wk_1_9 wk_3_105 hd_J0_length_8abf5 ⟨(Nat.le_of_ble_eq_true rfl), (Nat.le_of_ble_eq_true rfl)⟩ (Nat.le_of_ble_eq_true rfl) ⟨Nat.zero_le _, Nat.zero_le _⟩ dJ5_append_cf1ce_10 rfl rfl ?_
  rw [hd]
  refine gq_istore_n (i := 2) C dJ5_append_cf1ce_13 rfl (by decide) rfl ?_
  refine gq_aload_n C dJ5_append_cf1ce_14 rfl 1 rfl ?_
  refine gq_aload_n C dJ5_append_cf1ce_15 rfl 1 rfl ?_
  refine gq_get4 C hN kd_295 3 (by decide) wk_3_46 (show _ = some (.int (μ.1 295 3)) from rfl) dJ5_append_cf1ce_16 ?_
  rw [h2]
  refine gq_iload_n C dJ5_append_cf1ce_19 rfl 0 rfl ?_
  refine gq_iadd C dJ5_append_cf1ce_20 ?_
  rw [nI_add]
  refine gq_callS (run_VU (As := [.int (nI (n + z))]) (rest := []) (j := 4) C hx (c_J5_ensure hN hU h1 (by omega) (by omega) h5) (fun w h => h) hN kd_295 (by decide) rfl wk_3_130 wk_5_28 gp_ens wk_3_132 wk_1_7 wk_3_133 hb_ens ⟨(Nat.le_of_ble_eq_true rfl), (Nat.le_of_ble_eq_true rfl)⟩ (Nat.le_of_ble_eq_true rfl) ⟨Nat.le_of_eq (Nat.zero_add _), Nat.le_of_eq (Nat.zero_add _)⟩ dJ5_append_cf1ce_21 rfl) (fun o μ1 hP => ?_)
  obtain ⟨rfl, hE⟩ := hP
  obtain ⟨i1, i2, i3, ⟨g1, g2, g3, g4, g5, g6⟩, i5⟩ := EnsP.is h hE hn (by omega)
  refine gq_aload_n C dJ5_append_cf1ce_24 rfl 1 rfl ?_
  refine gq_aload_n C dJ5_append_cf1ce_25 rfl 1 rfl ?_
  refine gq_get4 C hN kd_295 3 (by decide) wk_3_46 (show _ = some (.int (μ1.1 295 3)) from rfl) dJ5_append_cf1ce_26 ?_
  rw [g2]
  refine gq_aload_n C dJ5_append_cf1ce_29 rfl 2 rfl ?_
  refine gq_callS (run_VU (As := [.int (nI n), .ref (eK E w)]) (rest := []) (j := 4) C hx (c_J5_putStringAt hN hw g1 (by rw [hd]; exact i5) g4) (fun w h => h) hN kd_295 (by decide) rfl wk_3_189 wk_5_30 gp_psa wk_3_191 wk_1_7 wk_3_192 hb_psa ⟨(Nat.le_of_ble_eq_true rfl), (Nat.le_of_ble_eq_true rfl)⟩ (Nat.le_of_ble_eq_true rfl) ⟨Nat.le_of_eq (Nat.zero_add _), Nat.le_of_eq (Nat.zero_add _)⟩ dJ5_append_cf1ce_30 rfl) (fun o μ2 hP => ?_)
  obtain ⟨rfl, rfl⟩ := hP
  refine gq_aload_n C dJ5_append_cf1ce_33 rfl 1 rfl ?_
  refine gq_dupr C dJ5_append_cf1ce_34 ?_
  refine gq_get4 C hN kd_295 3 (by decide) wk_3_46 (show _ = some (.int ((uF μ1 (pSt E w n μ1.2.2.2.2)).1 295 3)) from rfl) dJ5_append_cf1ce_35 ?_
  rw [show (uF μ1 (pSt E w n μ1.2.2.2.2)).1 295 3 = nI n from g2]
  refine gq_iload_n C dJ5_append_cf1ce_38 rfl 0 rfl ?_
  refine gq_iadd C dJ5_append_cf1ce_39 ?_
  rw [nI_add]
  refine gq_put4_3 (μ' := uI (uF μ1 (pSt E w n μ1.2.2.2.2)) 295 3 (nI (n + z))) C hN kd_295 wk_3_46 rfl dJ5_append_cf1ce_40 ?_
  refine gq_aload_n C dJ5_append_cf1ce_43 rfl 1 rfl ?_
  refine gs_end (P := ApP E n z (pSt E w n t) μ) (o := some (.ref (eB E + 295))) (μ' := uI (uF μ1 (pSt E w n μ1.2.2.2.2)) 295 3 (nI (n + z))) ⟨rfl, ⟨?_, ?_, i5, g4, pS_fit hw g5, fun k hk => ?_⟩, ?_, i3⟩ ?_
  · rw [uI_eq]; exact g1
  · rw [uI_eq]; rfl
  · show pSt E w n μ1.2.2.2.2 k = pSt E w n t k
    unfold pSt va_cpy
    by_cases e : n ≤ k ∧ k < n + eLn E w
    · rw [if_pos e, if_pos e]
    · rw [if_neg e, if_neg e]; exact g6 k (by omega)
  · exact ⟨fun b hb => (uI_ne hb).trans (congrFun i1 b), i2⟩
  · exact gq_aret C hr (Or.inl ⟨_, rfl⟩) dJ5_append_cf1ce_44 (Nat.le_of_eq (by simp)) (Nat.le_of_eq (by simp))
set_option maxHeartbeats 4000000 in
set_option maxRecDepth 100000 in
theorem c_J4_apS {n w : Nat} {t : Nat → Int32} (hN : 295 < eN E) (hU : (eU E).1 = 0) (h : TB μ n t) (hw : w < 22) (hn : n + eLn E w ≤ 1000) : CtS l E yJ4_append_15ec4 (Cond.code yJ4_append_15ec4 cJ4_append_15ec4 2 (some (.object "java/lang/StringBuilder")) :: GP) (rm_bp (n + eLn E w) μ.2.2.2.1) [.ref (eB E + 295), .ref (eK E w)] μ (ApP E n (eLn E w) (pSt E w n t) μ) := by
  refine ctp_of (by decide) (Nat.le_of_ble_eq_true rfl) (fun p e s m args below meth cc C hx hr => ?_)
  have C : Cq E p s m args meth cc cJ4_append_15ec4 2 RJ4 := C
  refine gq_lv (lv' := [(0, .ref (eB E + 295)), (1, .ref (eK E w))]) rfl ?_
  refine gq_aload_n (i := 0) C dJ4_append_15ec4_0 rfl 0 rfl ?_
  refine gq_aload_n (i := 1) C dJ4_append_15ec4_1 rfl 1 rfl ?_
  refine gq_callS (run_SU (As := [.ref (eK E w)]) (rest := []) (j := 4) C hx (c_J5_apS hN hU h hw hn) (fun w h => h) hN kd_295 (by decide) rfl wk_3_124 wk_3_116 wk_3_55 wk_3_115 wk_1_7 wk_3_125 hs_apS ⟨(Nat.le_of_ble_eq_true rfl), (Nat.le_of_ble_eq_true rfl)⟩ (Nat.le_of_ble_eq_true rfl) ⟨Nat.le_of_eq (Nat.zero_add _), Nat.le_of_eq (Nat.zero_add _)⟩ dJ4_append_15ec4_2 rfl) (fun o μ1 hP => ?_)
  have h2 := hP
  obtain ⟨rfl, -⟩ := hP
  refine gq_popr C dJ4_append_15ec4_5 ?_
  refine gq_aload_n (i := 0) C dJ4_append_15ec4_6 rfl 0 rfl ?_
  exact gs_end (P := ApP E n (eLn E w) (pSt E w n t) μ) h2 (gq_aret C hr (Or.inl ⟨_, rfl⟩) dJ4_append_15ec4_7 (Nat.le_of_eq (Nat.zero_add _)) (Nat.le_of_eq (Nat.zero_add _)))
set_option maxHeartbeats 4000000 in
set_option maxRecDepth 100000 in
theorem c_J4_apX {n w : Nat} {t : Nat → Int32} (hN : 295 < eN E) (hU : (eU E).1 = 0) (h : TB μ n t) (hw : w < 22) (hn : n + eLn E w ≤ 1000) : CtS l E yJ4_append_cf1ce (Cond.code yJ4_append_cf1ce cJ4_append_cf1ce 2 (some (.object "java/lang/AbstractStringBuilder")) :: GP) (rm_xp (n + eLn E w) μ.2.2.2.1) [.ref (eB E + 295), .ref (eK E w)] μ (ApP E n (eLn E w) (pSt E w n t) μ) := by
  refine ctp_of (by decide) (Nat.le_of_ble_eq_true rfl) (fun p e s m args below meth cc C hx hr => ?_)
  have C : Cq E p s m args meth cc cJ4_append_cf1ce 2 RJ4 := C
  refine gq_lv (lv' := [(0, .ref (eB E + 295)), (1, .ref (eK E w))]) rfl ?_
  refine gq_aload_n (i := 0) C dJ4_append_cf1ce_0 rfl 0 rfl ?_
  refine gq_aload_n (i := 1) C dJ4_append_cf1ce_1 rfl 1 rfl ?_
  refine gq_callS (run_V (As := [.ref (eK E w)]) (rest := []) (j := 4) C hx (c_J4_apS hN hU h hw hn) (fun w h => h) hN kd_295 (by decide) rfl wk_3_120 wk_3_121 wk_3_122 wk_1_8 wk_3_123 hv_apS ⟨(Nat.le_of_ble_eq_true rfl), (Nat.le_of_ble_eq_true rfl)⟩ (Nat.le_of_ble_eq_true rfl) ⟨Nat.le_of_eq (Nat.zero_add _), Nat.le_of_eq (Nat.zero_add _)⟩ dJ4_append_cf1ce_2 rfl) (fun o μ1 hP => ?_)
  have h2 := hP
  obtain ⟨rfl, -⟩ := hP
  exact gs_end (P := ApP E n (eLn E w) (pSt E w n t) μ) h2 (gq_aret C hr (Or.inl ⟨_, rfl⟩) dJ4_append_cf1ce_5 (Nat.le_of_eq (Nat.zero_add _)) (Nat.le_of_eq (Nat.zero_add _)))
end SBT
