/-! ===== String.length and charAt of the literals ===== -/
theorem wk_1_15 : Cond.initialized "jdk/internal/util/Preconditions" ∈ GW := gw_1 (List.mem_of_getElem? (i := 15) rfl) rfl
theorem wk_1_16 : Cond.initialized "java/lang/StringLatin1" ∈ GW := gw_1 (List.mem_of_getElem? (i := 16) rfl) rfl
theorem wk_1_9 : Cond.initialized "java/lang/String" ∈ GW := gw_1 (List.mem_of_getElem? (i := 9) rfl) rfl
theorem wk_3_103 : Cond.instanceMethod ({ cls := "java/lang/String", name := "length", desc := "()I" } : MethodName) ∈ GW := gw_3 (List.mem_of_getElem? (i := 103) rfl) rfl
theorem wk_3_104 : Cond.selects "java/lang/String" ({ cls := "java/lang/String", name := "length", desc := "()I" } : MethodName) ({ cls := "java/lang/String", name := "length", desc := "()I" } : MethodName) ∈ GW := gw_3 (List.mem_of_getElem? (i := 104) rfl) rfl
theorem wk_3_105 : Cond.code ({ cls := "java/lang/String", name := "length", desc := "()I" } : MethodName) prog_23_method_54_code (1 : Nat) (Option.some Jvm.ClassFile.FieldType.int) ∈ GW := gw_3 (List.mem_of_getElem? (i := 105) rfl) rfl
theorem wk_3_106 : Cond.methodLink "java/lang/String" (335 : Nat) ({ cls := "java/lang/String", name := "coder", desc := "()B" } : MethodName) ∈ GW := gw_3 (List.mem_of_getElem? (i := 106) rfl) rfl
theorem wk_3_107 : Cond.instanceMethod ({ cls := "java/lang/String", name := "coder", desc := "()B" } : MethodName) ∈ GW := gw_3 (List.mem_of_getElem? (i := 107) rfl) rfl
theorem wk_3_108 : Cond.selects "java/lang/String" ({ cls := "java/lang/String", name := "coder", desc := "()B" } : MethodName) ({ cls := "java/lang/String", name := "coder", desc := "()B" } : MethodName) ∈ GW := gw_3 (List.mem_of_getElem? (i := 108) rfl) rfl
theorem wk_3_109 : Cond.code ({ cls := "java/lang/String", name := "coder", desc := "()B" } : MethodName) prog_23_method_152_code (1 : Nat) (Option.some Jvm.ClassFile.FieldType.byte) ∈ GW := gw_3 (List.mem_of_getElem? (i := 109) rfl) rfl
theorem wk_3_110 : Cond.fieldLink "java/lang/String" (38 : Nat) "java/lang/String" "COMPACT_STRINGS" "Z" ∈ GW := gw_3 (List.mem_of_getElem? (i := 110) rfl) rfl
theorem wk_3_175 : Cond.fieldLink "java/lang/String" (1053 : Nat) "jdk/internal/util/Preconditions" "SIOOBE_FORMATTER" "Ljava/util/function/BiFunction;" ∈ GW := gw_3 (List.mem_of_getElem? (i := 175) rfl) rfl
theorem wk_4_68 : Cond.fieldLink "java/lang/String" (9 : Nat) "java/lang/String" "value" "[B" ∈ GW := gw_4 (List.mem_of_getElem? (i := 68) rfl) rfl
theorem wk_4_69 : Cond.fieldLink "java/lang/String" (15 : Nat) "java/lang/String" "coder" "B" ∈ GW := gw_4 (List.mem_of_getElem? (i := 69) rfl) rfl
theorem wk_4_81 : Cond.instanceMethod ({ cls := "java/lang/String", name := "charAt", desc := "(I)C" } : MethodName) ∈ GW := gw_4 (List.mem_of_getElem? (i := 81) rfl) rfl
theorem wk_4_82 : Cond.selects "java/lang/String" ({ cls := "java/lang/String", name := "charAt", desc := "(I)C" } : MethodName) ({ cls := "java/lang/String", name := "charAt", desc := "(I)C" } : MethodName) ∈ GW := gw_4 (List.mem_of_getElem? (i := 82) rfl) rfl
theorem wk_4_83 : Cond.code ({ cls := "java/lang/String", name := "charAt", desc := "(I)C" } : MethodName) prog_23_method_56_code (2 : Nat) (Option.some Jvm.ClassFile.FieldType.char) ∈ GW := gw_4 (List.mem_of_getElem? (i := 83) rfl) rfl
theorem wk_4_84 : Cond.methodLink "java/lang/String" (492 : Nat) ({ cls := "java/lang/String", name := "isLatin1", desc := "()Z" } : MethodName) ∈ GW := gw_4 (List.mem_of_getElem? (i := 84) rfl) rfl
theorem wk_4_85 : Cond.instanceMethod ({ cls := "java/lang/String", name := "isLatin1", desc := "()Z" } : MethodName) ∈ GW := gw_4 (List.mem_of_getElem? (i := 85) rfl) rfl
theorem wk_4_86 : Cond.selects "java/lang/String" ({ cls := "java/lang/String", name := "isLatin1", desc := "()Z" } : MethodName) ({ cls := "java/lang/String", name := "isLatin1", desc := "()Z" } : MethodName) ∈ GW := gw_4 (List.mem_of_getElem? (i := 86) rfl) rfl
theorem wk_4_87 : Cond.code ({ cls := "java/lang/String", name := "isLatin1", desc := "()Z" } : MethodName) prog_23_method_154_code (1 : Nat) (Option.some Jvm.ClassFile.FieldType.boolean) ∈ GW := gw_4 (List.mem_of_getElem? (i := 87) rfl) rfl
theorem wk_4_88 : Cond.methodLink "java/lang/String" (495 : Nat) ({ cls := "java/lang/StringLatin1", name := "charAt", desc := "([BI)C" } : MethodName) ∈ GW := gw_4 (List.mem_of_getElem? (i := 88) rfl) rfl
theorem wk_4_89 : Cond.static ({ cls := "java/lang/StringLatin1", name := "charAt", desc := "([BI)C" } : MethodName) ∈ GW := gw_4 (List.mem_of_getElem? (i := 89) rfl) rfl
theorem wk_4_90 : Cond.code ({ cls := "java/lang/StringLatin1", name := "charAt", desc := "([BI)C" } : MethodName) prog_25_method_2_code (2 : Nat) (Option.some Jvm.ClassFile.FieldType.char) ∈ GW := gw_4 (List.mem_of_getElem? (i := 90) rfl) rfl
theorem wk_4_91 : Cond.methodLink "java/lang/StringLatin1" (9 : Nat) ({ cls := "java/lang/String", name := "checkIndex", desc := "(II)V" } : MethodName) ∈ GW := gw_4 (List.mem_of_getElem? (i := 91) rfl) rfl
theorem wk_4_92 : Cond.static ({ cls := "java/lang/String", name := "checkIndex", desc := "(II)V" } : MethodName) ∈ GW := gw_4 (List.mem_of_getElem? (i := 92) rfl) rfl
theorem wk_4_93 : Cond.code ({ cls := "java/lang/String", name := "checkIndex", desc := "(II)V" } : MethodName) prog_23_method_155_code (2 : Nat) (Option.none : Option Jvm.ClassFile.FieldType) ∈ GW := gw_4 (List.mem_of_getElem? (i := 93) rfl) rfl
theorem wk_4_94 : Cond.methodLink "java/lang/String" (1059 : Nat) ({ cls := "jdk/internal/util/Preconditions", name := "checkIndex", desc := "(IILjava/util/function/BiFunction;)I" } : MethodName) ∈ GW := gw_4 (List.mem_of_getElem? (i := 94) rfl) rfl
theorem wk_4_95 : Cond.static ({ cls := "jdk/internal/util/Preconditions", name := "checkIndex", desc := "(IILjava/util/function/BiFunction;)I" } : MethodName) ∈ GW := gw_4 (List.mem_of_getElem? (i := 95) rfl) rfl
theorem wk_4_96 : Cond.code ({ cls := "jdk/internal/util/Preconditions", name := "checkIndex", desc := "(IILjava/util/function/BiFunction;)I" } : MethodName) prog_34_method_11_code (3 : Nat) (Option.some Jvm.ClassFile.FieldType.int) ∈ GW := gw_4 (List.mem_of_getElem? (i := 96) rfl) rfl
theorem dJ0_length_8abf5_0 : decode cJ0_length_8abf5 0 = .ok (.aload_n 0, 1) := by decide +kernel
theorem dJ0_length_8abf5_1 : decode cJ0_length_8abf5 1 = .ok (.getfield 9, 3) := by decide +kernel
theorem dJ0_length_8abf5_4 : decode cJ0_length_8abf5 4 = .ok (.arraylength, 1) := by decide +kernel
theorem dJ0_length_8abf5_5 : decode cJ0_length_8abf5 5 = .ok (.aload_n 0, 1) := by decide +kernel
theorem dJ0_length_8abf5_6 : decode cJ0_length_8abf5 6 = .ok (.invokevirtual 335, 3) := by decide +kernel
theorem dJ0_length_8abf5_9 : decode cJ0_length_8abf5 9 = .ok (.ishr, 1) := by decide +kernel
theorem dJ0_length_8abf5_10 : decode cJ0_length_8abf5 10 = .ok (.ireturn, 1) := by decide +kernel
theorem dJ0_charAt_5068e_0 : decode cJ0_charAt_5068e 0 = .ok (.aload_n 0, 1) := by decide +kernel
theorem dJ0_charAt_5068e_1 : decode cJ0_charAt_5068e 1 = .ok (.invokevirtual 492, 3) := by decide +kernel
theorem dJ0_charAt_5068e_4 : decode cJ0_charAt_5068e 4 = .ok (.ifCond .eq 12, 3) := by decide +kernel
theorem dJ0_charAt_5068e_7 : decode cJ0_charAt_5068e 7 = .ok (.aload_n 0, 1) := by decide +kernel
theorem dJ0_charAt_5068e_8 : decode cJ0_charAt_5068e 8 = .ok (.getfield 9, 3) := by decide +kernel
theorem dJ0_charAt_5068e_11 : decode cJ0_charAt_5068e 11 = .ok (.iload_n 1, 1) := by decide +kernel
theorem dJ0_charAt_5068e_12 : decode cJ0_charAt_5068e 12 = .ok (.invokestatic 495, 3) := by decide +kernel
theorem dJ0_charAt_5068e_15 : decode cJ0_charAt_5068e 15 = .ok (.ireturn, 1) := by decide +kernel
theorem dJ0_charAt_5068e_16 : decode cJ0_charAt_5068e 16 = .ok (.aload_n 0, 1) := by decide +kernel
theorem dJ0_charAt_5068e_17 : decode cJ0_charAt_5068e 17 = .ok (.getfield 9, 3) := by decide +kernel
theorem dJ0_charAt_5068e_20 : decode cJ0_charAt_5068e 20 = .ok (.iload_n 1, 1) := by decide +kernel
theorem dJ0_charAt_5068e_21 : decode cJ0_charAt_5068e 21 = .ok (.invokestatic 498, 3) := by decide +kernel
theorem dJ0_charAt_5068e_24 : decode cJ0_charAt_5068e 24 = .ok (.ireturn, 1) := by decide +kernel
theorem dJ0_coder_7d493_0 : decode cJ0_coder_7d493 0 = .ok (.getstatic 38, 3) := by decide +kernel
theorem dJ0_coder_7d493_3 : decode cJ0_coder_7d493 3 = .ok (.ifCond .eq 10, 3) := by decide +kernel
theorem dJ0_coder_7d493_6 : decode cJ0_coder_7d493 6 = .ok (.aload_n 0, 1) := by decide +kernel
theorem dJ0_coder_7d493_7 : decode cJ0_coder_7d493 7 = .ok (.getfield 15, 3) := by decide +kernel
theorem dJ0_coder_7d493_10 : decode cJ0_coder_7d493 10 = .ok (.goto 4, 3) := by decide +kernel
theorem dJ0_coder_7d493_13 : decode cJ0_coder_7d493 13 = .ok (.iconst 1, 1) := by decide +kernel
theorem dJ0_coder_7d493_14 : decode cJ0_coder_7d493 14 = .ok (.ireturn, 1) := by decide +kernel
theorem dJ0_isLatin1_aae02_0 : decode cJ0_isLatin1_aae02 0 = .ok (.getstatic 38, 3) := by decide +kernel
theorem dJ0_isLatin1_aae02_3 : decode cJ0_isLatin1_aae02 3 = .ok (.ifCond .eq 14, 3) := by decide +kernel
theorem dJ0_isLatin1_aae02_6 : decode cJ0_isLatin1_aae02 6 = .ok (.aload_n 0, 1) := by decide +kernel
theorem dJ0_isLatin1_aae02_7 : decode cJ0_isLatin1_aae02 7 = .ok (.getfield 15, 3) := by decide +kernel
theorem dJ0_isLatin1_aae02_10 : decode cJ0_isLatin1_aae02 10 = .ok (.ifCond .ne 7, 3) := by decide +kernel
theorem dJ0_isLatin1_aae02_13 : decode cJ0_isLatin1_aae02 13 = .ok (.iconst 1, 1) := by decide +kernel
theorem dJ0_isLatin1_aae02_14 : decode cJ0_isLatin1_aae02 14 = .ok (.goto 4, 3) := by decide +kernel
theorem dJ0_isLatin1_aae02_17 : decode cJ0_isLatin1_aae02 17 = .ok (.iconst 0, 1) := by decide +kernel
theorem dJ0_isLatin1_aae02_18 : decode cJ0_isLatin1_aae02 18 = .ok (.ireturn, 1) := by decide +kernel
theorem dJ0_checkIndex_df160_0 : decode cJ0_checkIndex_df160 0 = .ok (.iload_n 0, 1) := by decide +kernel
theorem dJ0_checkIndex_df160_1 : decode cJ0_checkIndex_df160 1 = .ok (.iload_n 1, 1) := by decide +kernel
theorem dJ0_checkIndex_df160_2 : decode cJ0_checkIndex_df160 2 = .ok (.getstatic 1053, 3) := by decide +kernel
theorem dJ0_checkIndex_df160_5 : decode cJ0_checkIndex_df160 5 = .ok (.invokestatic 1059, 3) := by decide +kernel
theorem dJ0_checkIndex_df160_8 : decode cJ0_checkIndex_df160 8 = .ok (.pop, 1) := by decide +kernel
theorem dJ0_checkIndex_df160_9 : decode cJ0_checkIndex_df160 9 = .ok (.return_, 1) := by decide +kernel
theorem dJ1_charAt_3b067_0 : decode cJ1_charAt_3b067 0 = .ok (.iload_n 1, 1) := by decide +kernel
theorem dJ1_charAt_3b067_1 : decode cJ1_charAt_3b067 1 = .ok (.aload_n 0, 1) := by decide +kernel
theorem dJ1_charAt_3b067_2 : decode cJ1_charAt_3b067 2 = .ok (.arraylength, 1) := by decide +kernel
theorem dJ1_charAt_3b067_3 : decode cJ1_charAt_3b067 3 = .ok (.invokestatic 9, 3) := by decide +kernel
theorem dJ1_charAt_3b067_6 : decode cJ1_charAt_3b067 6 = .ok (.aload_n 0, 1) := by decide +kernel
theorem dJ1_charAt_3b067_7 : decode cJ1_charAt_3b067 7 = .ok (.iload_n 1, 1) := by decide +kernel
theorem dJ1_charAt_3b067_8 : decode cJ1_charAt_3b067 8 = .ok (.baload, 1) := by decide +kernel
theorem dJ1_charAt_3b067_9 : decode cJ1_charAt_3b067 9 = .ok (.sipush 255, 3) := by decide +kernel
theorem dJ1_charAt_3b067_12 : decode cJ1_charAt_3b067 12 = .ok (.iand, 1) := by decide +kernel
theorem dJ1_charAt_3b067_13 : decode cJ1_charAt_3b067 13 = .ok (.i2c, 1) := by decide +kernel
theorem dJ1_charAt_3b067_14 : decode cJ1_charAt_3b067 14 = .ok (.ireturn, 1) := by decide +kernel
theorem dJ3_checkIndex_8e157_0 : decode cJ3_checkIndex_8e157 0 = .ok (.iload_n 0, 1) := by decide +kernel
theorem dJ3_checkIndex_8e157_1 : decode cJ3_checkIndex_8e157 1 = .ok (.ifCond .lt 8, 3) := by decide +kernel
theorem dJ3_checkIndex_8e157_4 : decode cJ3_checkIndex_8e157 4 = .ok (.iload_n 0, 1) := by decide +kernel
theorem dJ3_checkIndex_8e157_5 : decode cJ3_checkIndex_8e157 5 = .ok (.iload_n 1, 1) := by decide +kernel
theorem dJ3_checkIndex_8e157_6 : decode cJ3_checkIndex_8e157 6 = .ok (.if_icmp .lt 10, 3) := by decide +kernel
theorem dJ3_checkIndex_8e157_9 : decode cJ3_checkIndex_8e157 9 = .ok (.aload_n 2, 1) := by decide +kernel
theorem dJ3_checkIndex_8e157_10 : decode cJ3_checkIndex_8e157 10 = .ok (.iload_n 0, 1) := by decide +kernel
theorem dJ3_checkIndex_8e157_11 : decode cJ3_checkIndex_8e157 11 = .ok (.iload_n 1, 1) := by decide +kernel
theorem dJ3_checkIndex_8e157_12 : decode cJ3_checkIndex_8e157 12 = .ok (.invokestatic 95, 3) := by decide +kernel
theorem dJ3_checkIndex_8e157_15 : decode cJ3_checkIndex_8e157 15 = .ok (.athrow, 1) := by decide +kernel
theorem dJ3_checkIndex_8e157_16 : decode cJ3_checkIndex_8e157 16 = .ok (.iload_n 0, 1) := by decide +kernel
theorem dJ3_checkIndex_8e157_17 : decode cJ3_checkIndex_8e157 17 = .ok (.ireturn, 1) := by decide +kernel
def strLen (w : Nat) : Int32 := nI (qLen.getD w 0)
def strAt (w : Nat) (i : Int32) : Option Int32 := if inb i (qLen.getD w 0) = true then some ((qByt.getD w []).getD i.toNatClampNeg 0) else none
section QS
variable {E : Ev} {p : Program} {l : Launch} {e : Env} {R : Room} {s : State} {m : MethodId} {args : Array Value} {below : List Frame} {meth : Method} {c : Code} {k n nL : Nat} {Q : State → Prop} {cc : ByteArray} {own : String} {pc : Nat} {lv lv' : List (Nat × Value)} {rest st : List Value} {μ μ' : Mm}
theorem gq_getsZ (C : Cq E p s m args meth c cc nL own) {Cn nm ds ref : String} {v : Value} {index : Nat} (hZ : va_Z Cn nm ds v (eA E) s s.heap) (w : Cond.fieldLink own index ref nm ds ∈ GW) (hsame : ∀ x, s.fieldFound? Cn nm ds = some x → s.fieldFound? ref nm ds = some x) (d : decode cc pc = .ok (.getstatic index, 3)) (kk : Gq E p l e R s m args below meth c k n nL Q (pc + 3) lv (v :: rest) μ) : Gq E p l e R s m args below meth c k n nL Q pc lv rest μ := fun H locs ls hH hS hl => va_gets C.1 C.2.1 hZ hS C.2.2.2.1 (C.2.2.2.2.1 _ w) hsame d (kk H locs ls hH hS hl)
theorem gq_getOF (C : Cq E p s m args meth c cc nL own) {Cn nm ds ref : String} {v : Value} {q index : Nat} (hE : va_OF Cn nm ds v q (eA E) s s.heap) (w : Cond.fieldLink own index ref nm ds ∈ GW) (hsame : ∀ x, s.fieldFound? Cn nm ds = some x → s.fieldFound? ref nm ds = some x) (d : decode cc pc = .ok (.getfield index, 3)) (kk : Gq E p l e R s m args below meth c k n nL Q (pc + 3) lv (v :: rest) μ) : Gq E p l e R s m args below meth c k n nL Q pc lv (.ref q :: rest) μ := fun H locs ls hH hS hl => vk_getf C.1 C.2.1 hE hS C.2.2.2.1 (C.2.2.2.2.1 _ w) hsame d (kk H locs ls hH hS hl)
theorem gq_tlen (C : Cq E p s m args meth c cc nL own) {t N : Nat} {f : Nat → Value} {ty : FieldType} (hT : va_T ty t N f (eA E) s s.heap) (d : decode cc pc = .ok (.arraylength, 1)) (kk : Gq E p l e R s m args below meth c k n nL Q (pc + 1) lv (.int (nI N) :: rest) μ) : Gq E p l e R s m args below meth c k n nL Q pc lv (.ref t :: rest) μ := fun H locs ls hH hS hl => va_tlen C.1 C.2.1 hT hS rfl d (kk H locs ls hH hS hl)
theorem gq_tb (C : Cq E p s m args meth c cc nL own) {t N : Nat} {f : Nat → Value} {i : Int32} {v : Value} (hT : va_T .byte t N f (eA E) s s.heap) (hin : vp_in i N) (hv : f i.toNatClampNeg = v) (d : decode cc pc = .ok (.baload, 1)) (kk : Gq E p l e R s m args below meth c k n nL Q (pc + 1) lv (v :: rest) μ) : Gq E p l e R s m args below meth c k n nL Q pc lv (.int i :: .ref t :: rest) μ := fun H locs ls hH hS hl => va_tb C.1 C.2.1 hT hS hin hv d (kk H locs ls hH hS hl)
theorem gq_i2c (C : Cq E p s m args meth c cc nL own) {x v : Int32} (hv : (x.toUInt32 % 65536).toInt32 = v) (d : decode cc pc = .ok (.i2c, 1)) (kk : Gq E p l e R s m args below meth c k n nL Q (pc + 1) lv (.int v :: rest) μ) : Gq E p l e R s m args below meth c k n nL Q pc lv (.int x :: rest) μ := fun H locs ls hH hS hl => lv_i2c C.1 C.2.1 d hv (kk H locs ls hH hS hl)
theorem gq_SX (C : Cq E p s m args meth c cc nL own) {y : MethodName} {bytes : ByteArray} {maxL index : Nat} {ret : Option FieldType} {rm : Room} {As : List Value} {o : Option Value} {st0 st1 : List Value} (hM : Ct l E y (Cond.code y bytes maxL ret :: GW) rm As μ o μ') (w1 : Cond.methodLink own index y ∈ GW) (w2 : Cond.static y ∈ GW) (w4 : Cond.initialized y.cls ∈ GW) (w5 : Cond.code y bytes maxL ret ∈ GW) (hd : y.cls ≠ "java/lang/invoke/MethodHandle" ∧ y.cls ≠ "java/lang/invoke/VarHandle" ∧ (parseMethodDescriptor y.desc).map (fun d => d.parameters.length) = some As.length) (hR : rm.frames + 1 ≤ R.frames ∧ 8 + (maxL + 11) + rm.locals ≤ R.locals) (hw : (rest.map fun v => v.category).sum ≤ 8) (hf : k + rm.cells ≤ R.cells ∧ n + rm.slots ≤ R.slots) (d : decode cc pc = .ok (.invokestatic index, 3)) (hst0 : st0 = As.reverse ++ rest) (hst1 : o.toList ++ rest = st1)
    (kk : Gq E p l e R s m args below meth c (k + rm.cells) (n + rm.slots) nL Q (pc + 3) lv st1 μ') : Gq E p l e R s m args below meth c k n nL Q pc lv st0 μ :=
  gq_call (fun H locs ls hH hS hl => va_runS (As := As) (rest := rest) ⟨C.1, C.2.1, C.2.2.1, C.2.2.2.1, C.2.2.2.2.1⟩ hM (va_cwS As.length C.2.2.2.2.1 (gw_in (by
  intro w hw
  rcases List.mem_append.mp hw with h | h
  · exact gw_cons (P := fun w => w ∈ GW) w1 (gw_cons w2 (gw_cons w4 gw_nil)) w h
  · exact gw_ws w5 w h)) rfl rfl rfl hd hR) ⟨qP_blind E μ _, fun U hU hW => ⟨rfl, qP_at hH hS C.2.2.2.2.2.2.1 C.2.2.2.2.2.2.2.1 C.2.2.2.2.2.2.2.2 hU hW⟩⟩ rfl rfl hl.1 hst0 (lv_room hw) d hf) hst1 kk
/-- a call on a literal -/
theorem gq_VL (C : Cq E p s m args meth c cc nL own) {y : MethodName} {bytes : ByteArray} {maxL index : Nat} {ret : Option FieldType} {rm : Room} {As : List Value} {o : Option Value} {st0 st1 : List Value} {w : Nat} (hM : Ct l E y (Cond.code y bytes maxL ret :: GW) rm (.ref (eK E w) :: As) μ o μ') (hw9 : w < 23) (w1 : Cond.methodLink own index y ∈ GW) (w2 : Cond.instanceMethod y ∈ GW) (w3 : Cond.selects "java/lang/String" y y ∈ GW) (w4 : Cond.initialized "java/lang/String" ∈ GW) (w5 : Cond.code y bytes maxL ret ∈ GW) (hd : y.cls = "java/lang/String" ∧ y.cls ≠ "java/lang/invoke/MethodHandle" ∧ y.cls ≠ "java/lang/invoke/VarHandle" ∧ (parseMethodDescriptor y.desc).map (fun d => d.parameters.length) = some As.length) (hR : rm.frames + 1 ≤ R.frames ∧ 8 + (maxL + 11) + rm.locals ≤ R.locals) (hw : (rest.map fun v => v.category).sum ≤ 8) (hf : k + rm.cells ≤ R.cells ∧ n + rm.slots ≤ R.slots) (d : decode cc pc = .ok (.invokevirtual index, 3)) (hst0 : st0 = As.reverse ++ .ref (eK E w) :: rest) (hst1 : o.toList ++ rest = st1)
    (kk : Gq E p l e R s m args below meth c (k + rm.cells) (n + rm.slots) nL Q (pc + 3) lv st1 μ') : Gq E p l e R s m args below meth c k n nL Q pc lv st0 μ :=
  gq_call (fun H locs ls hH hS hl => va_runV (C := "java/lang/String") (As := As) (rest := rest) ⟨C.1, C.2.1, C.2.2.1, C.2.2.2.1, C.2.2.2.2.1⟩ hM (cwV As.length C.2.2.2.2.1 (gw_V w1 w2 w3 w4 (gw_ws w5)) rfl rfl rfl hd hR) ⟨qP_blind E μ _, vk_recv (i := 0) (C.2.2.2.2.2.2.2.2.2.1 w hw9) (by decide) hS, fun U hU hW => ⟨rfl, qP_at hH hS C.2.2.2.2.2.2.1 C.2.2.2.2.2.2.2.1 C.2.2.2.2.2.2.2.2 hU hW⟩⟩ rfl rfl hl.1 hst0 (lv_room hw) d hf) hst1 kk
end QS
def eAt (E : Ev) (w : Nat) (i : Int32) : Option Int32 := if inb i (eLn E w) = true then some ((eBy E w).getD i.toNatClampNeg 0) else none
def eOk (E : Ev) : Prop := (eD E).length < 1000 ∧ ∀ b, b ∈ eD E → ∃ c, c < 128 ∧ b = nI c
theorem str_lt : ∀ w, w < 22 → qLen.getD w 0 < 100 := by decide +kernel
theorem e_lt {E : Ev} (hD : eOk E) {w : Nat} (hw : w < 23) : eLn E w < 1000 := by
  unfold eLn
  by_cases e : w = 22
  · rw [if_pos e]
    exact hD.1
  · rw [if_neg e]
    exact Nat.lt_trans (str_lt w (by omega)) (by decide)
theorem str_by : ∀ w, w < 22 → ∀ j, j < qLen.getD w 0 → ((((qByt.getD w []).getD j 0) &&& (255 : Int32)).toUInt32 % 65536).toInt32 = (qByt.getD w []).getD j 0 ∧ narrow .char (.int ((qByt.getD w []).getD j 0)) = .int ((qByt.getD w []).getD j 0) := by decide +kernel
theorem b128 : ∀ c, c < 128 → ((nI c &&& (255 : Int32)).toUInt32 % 65536).toInt32 = nI c ∧ narrow .char (.int (nI c)) = .int (nI c) := by decide +kernel
theorem e_by {E : Ev} (hD : eOk E) {w j : Nat} (hw : w < 23) (hj : j < eLn E w) : ((((eBy E w).getD j 0) &&& (255 : Int32)).toUInt32 % 65536).toInt32 = (eBy E w).getD j 0 ∧ narrow .char (.int ((eBy E w).getD j 0)) = .int ((eBy E w).getD j 0) := by
  unfold eLn at hj
  unfold eBy
  by_cases e : w = 22
  · rw [if_pos e] at hj ⊢
    obtain ⟨c, h1, h2⟩ := hD.2 _ (List.getElem_mem hj)
    rw [List.getD_eq_getElem?_getD, List.getElem?_eq_getElem hj, Option.getD_some, h2]
    exact b128 c h1
  · rw [if_neg e] at hj ⊢
    exact str_by w (by omega) j hj
theorem eAt_ex {E : Ev} {w : Nat} {i x : Int32} (h : eAt E w i = some x) : vp_in i (eLn E w) ∧ (eBy E w).getD i.toNatClampNeg 0 = x := by
  obtain ⟨h1, h2⟩ := ifs_some h
  exact ⟨inb_in h1, h2⟩
theorem eAt_lit {E : Ev} {w : Nat} {i : Int32} (hw : w < 22) : eAt E w i = strAt w i := by
  have e : ¬ w = 22 := by omega
  unfold eAt strAt eLn eBy
  rw [if_neg e, if_neg e]
theorem eLn_lit {E : Ev} {w : Nat} (hw : w < 22) : nI (eLn E w) = strLen w := by
  have e : ¬ w = 22 := by omega
  unfold eLn strLen
  rw [if_neg e]
theorem hd_J0_coder_7d493 : yJ0_coder_7d493.cls = "java/lang/String" ∧ yJ0_coder_7d493.cls ≠ "java/lang/invoke/MethodHandle" ∧ yJ0_coder_7d493.cls ≠ "java/lang/invoke/VarHandle" ∧ (parseMethodDescriptor yJ0_coder_7d493.desc).map (fun d => d.parameters.length) = some 0 := by decide +kernel
theorem hd_J0_isLatin1_aae02 : yJ0_isLatin1_aae02.cls = "java/lang/String" ∧ yJ0_isLatin1_aae02.cls ≠ "java/lang/invoke/MethodHandle" ∧ yJ0_isLatin1_aae02.cls ≠ "java/lang/invoke/VarHandle" ∧ (parseMethodDescriptor yJ0_isLatin1_aae02.desc).map (fun d => d.parameters.length) = some 0 := by decide +kernel
theorem hd_J0_length_8abf5 : yJ0_length_8abf5.cls = "java/lang/String" ∧ yJ0_length_8abf5.cls ≠ "java/lang/invoke/MethodHandle" ∧ yJ0_length_8abf5.cls ≠ "java/lang/invoke/VarHandle" ∧ (parseMethodDescriptor yJ0_length_8abf5.desc).map (fun d => d.parameters.length) = some 0 := by decide +kernel
theorem hd_J0_charAt_5068e : yJ0_charAt_5068e.cls = "java/lang/String" ∧ yJ0_charAt_5068e.cls ≠ "java/lang/invoke/MethodHandle" ∧ yJ0_charAt_5068e.cls ≠ "java/lang/invoke/VarHandle" ∧ (parseMethodDescriptor yJ0_charAt_5068e.desc).map (fun d => d.parameters.length) = some 1 := by decide +kernel
theorem hd_J0_checkIndex_df160 : yJ0_checkIndex_df160.cls = "java/lang/String" ∧ yJ0_checkIndex_df160.cls ≠ "java/lang/invoke/MethodHandle" ∧ yJ0_checkIndex_df160.cls ≠ "java/lang/invoke/VarHandle" ∧ (parseMethodDescriptor yJ0_checkIndex_df160.desc).map (fun d => d.parameters.length) = some 2 := by decide +kernel
theorem hd_J1_charAt_3b067 : yJ1_charAt_3b067.cls = RJ1 ∧ yJ1_charAt_3b067.cls ≠ "java/lang/invoke/MethodHandle" ∧ yJ1_charAt_3b067.cls ≠ "java/lang/invoke/VarHandle" ∧ (parseMethodDescriptor yJ1_charAt_3b067.desc).map (fun d => d.parameters.length) = some 2 := by decide +kernel
theorem hd_J3_checkIndex_8e157 : yJ3_checkIndex_8e157.cls = RJ3 ∧ yJ3_checkIndex_8e157.cls ≠ "java/lang/invoke/MethodHandle" ∧ yJ3_checkIndex_8e157.cls ≠ "java/lang/invoke/VarHandle" ∧ (parseMethodDescriptor yJ3_checkIndex_8e157.desc).map (fun d => d.parameters.length) = some 3 := by decide +kernel
abbrev rm_J0_coder_7d493 : Room := { frames := 0, cells := 0, slots := 0, locals := 0 }
set_option maxHeartbeats 4000000 in
set_option maxRecDepth 100000 in
theorem c_J0_coder_7d493 {l : Launch} {E : Ev} {w : Nat} (hw : w < 23) {μ : Mm} : Ct l E yJ0_coder_7d493 (Cond.code yJ0_coder_7d493 cJ0_coder_7d493 1 (some .byte) :: GW) rm_J0_coder_7d493 [.ref (eK E w)] μ (some (.int 0)) μ := by
  refine ct_of (by decide) (Nat.le_of_ble_eq_true rfl) (fun p e s m args below meth c C hr => ?_)
  have C : Cq E p s m args meth c cJ0_coder_7d493 1 RJ0 := C
  refine gq_lv (lv' := [(0, .ref (eK E w))]) rfl ?_
  refine gq_getsZ C C.2.2.2.2.2.2.2.2.2.2.2.2.1 wk_3_110 (fun _ h => h) dJ0_coder_7d493_0 ?_
  refine gq_if_eq_f (tgt := 13) C dJ0_coder_7d493_3 (by decide) (by decide) ?_
  refine gq_aload_n C dJ0_coder_7d493_6 rfl 0 rfl ?_
  refine gq_getOF C ((C.2.2.2.2.2.2.2.2.2.1 w hw).1 0 (by decide)).2.1 wk_4_69 (fun _ h => h) dJ0_coder_7d493_7 ?_
  refine gq_goto (tgt := 14) C dJ0_coder_7d493_10 (by decide) ?_
  exact gq_zret C hr (by decide) dJ0_coder_7d493_14 (Nat.le_of_ble_eq_true rfl) (Nat.le_of_ble_eq_true rfl)
abbrev rm_J0_isLatin1_aae02 : Room := { frames := 0, cells := 0, slots := 0, locals := 0 }
set_option maxHeartbeats 4000000 in
set_option maxRecDepth 100000 in
theorem c_J0_isLatin1_aae02 {l : Launch} {E : Ev} {w : Nat} (hw : w < 23) {μ : Mm} : Ct l E yJ0_isLatin1_aae02 (Cond.code yJ0_isLatin1_aae02 cJ0_isLatin1_aae02 1 (some .boolean) :: GW) rm_J0_isLatin1_aae02 [.ref (eK E w)] μ (some (.int 1)) μ := by
  refine ct_of (by decide) (Nat.le_of_ble_eq_true rfl) (fun p e s m args below meth c C hr => ?_)
  have C : Cq E p s m args meth c cJ0_isLatin1_aae02 1 RJ0 := C
  refine gq_lv (lv' := [(0, .ref (eK E w))]) rfl ?_
  refine gq_getsZ C C.2.2.2.2.2.2.2.2.2.2.2.2.1 wk_3_110 (fun _ h => h) dJ0_isLatin1_aae02_0 ?_
  refine gq_if_eq_f (tgt := 17) C dJ0_isLatin1_aae02_3 (by decide) (by decide) ?_
  refine gq_aload_n C dJ0_isLatin1_aae02_6 rfl 0 rfl ?_
  refine gq_getOF C ((C.2.2.2.2.2.2.2.2.2.1 w hw).1 0 (by decide)).2.1 wk_4_69 (fun _ h => h) dJ0_isLatin1_aae02_7 ?_
  refine gq_if_ne_f (tgt := 17) C dJ0_isLatin1_aae02_10 (by decide) rfl ?_
  refine gq_iconst (v := 1) C dJ0_isLatin1_aae02_13 (by decide) ?_
  refine gq_goto (tgt := 18) C dJ0_isLatin1_aae02_14 (by decide) ?_
  exact gq_zret C hr (by decide) dJ0_isLatin1_aae02_18 (Nat.le_of_ble_eq_true rfl) (Nat.le_of_ble_eq_true rfl)
abbrev rm_J0_length_8abf5 : Room := { frames := 1, cells := 0, slots := 0, locals := 20 }
set_option maxHeartbeats 4000000 in
set_option maxRecDepth 100000 in
theorem c_J0_length_8abf5 {l : Launch} {E : Ev} {w : Nat} (hw : w < 23) {μ : Mm} : Ct l E yJ0_length_8abf5 (Cond.code yJ0_length_8abf5 cJ0_length_8abf5 1 (some .int) :: GW) rm_J0_length_8abf5 [.ref (eK E w)] μ (some (.int (nI (eLn E w)))) μ := by
  refine ct_of (by decide) (Nat.le_of_ble_eq_true rfl) (fun p e s m args below meth c C hr => ?_)
  have C : Cq E p s m args meth c cJ0_length_8abf5 1 RJ0 := C
  refine gq_lv (lv' := [(0, .ref (eK E w))]) rfl ?_
  refine gq_aload_n C dJ0_length_8abf5_0 rfl 0 rfl ?_
  refine gq_getOF C ((C.2.2.2.2.2.2.2.2.2.1 w hw).1 0 (by decide)).2.2.1 wk_4_68 (fun _ h => h) dJ0_length_8abf5_1 ?_
  refine gq_tlen C ((C.2.2.2.2.2.2.2.2.2.1 w hw).1 0 (by decide)).2.2.2 dJ0_length_8abf5_4 ?_
  refine gq_aload_n C dJ0_length_8abf5_5 rfl 0 rfl ?_
  refine gq_VL (As := []) (rest := [.int (nI (eLn E w))]) C (c_J0_coder_7d493 hw) hw wk_3_106 wk_3_107 wk_3_108 wk_1_9 wk_3_109 hd_J0_coder_7d493 ⟨(Nat.le_of_ble_eq_true rfl), (Nat.le_of_ble_eq_true rfl)⟩ (Nat.le_of_ble_eq_true rfl) ⟨(Nat.le_of_ble_eq_true rfl), (Nat.le_of_ble_eq_true rfl)⟩ dJ0_length_8abf5_6 rfl rfl ?_
  refine gq_ishr C dJ0_length_8abf5_9 ?_
  rw [sb_shr0]
  exact gq_iret C hr dJ0_length_8abf5_10 (Nat.le_of_ble_eq_true rfl) (Nat.le_of_ble_eq_true rfl)
abbrev rm_J3_checkIndex_8e157 : Room := { frames := 0, cells := 0, slots := 0, locals := 0 }
set_option maxHeartbeats 4000000 in
set_option maxRecDepth 100000 in
theorem c_J3_checkIndex_8e157 {l : Launch} {E : Ev} {i j : Int32} {x : Nat} (h0 : ¬ i < 0) (h1 : i < j) {μ : Mm} : Ct l E yJ3_checkIndex_8e157 (Cond.code yJ3_checkIndex_8e157 cJ3_checkIndex_8e157 3 (some .int) :: GW) rm_J3_checkIndex_8e157 [.int i, .int j, .ref x] μ (some (.int i)) μ := by
  refine ct_of (by decide) (Nat.le_of_ble_eq_true rfl) (fun p e s m args below meth c C hr => ?_)
  have C : Cq E p s m args meth c cJ3_checkIndex_8e157 3 RJ3 := C
  refine gq_lv (lv' := [(0, .int i), (1, .int j), (2, .ref x)]) rfl ?_
  refine gq_iload_n C dJ3_checkIndex_8e157_0 rfl 0 rfl ?_
  refine gq_if_lt_f (tgt := 9) C dJ3_checkIndex_8e157_1 (by decide) h0 ?_
  refine gq_iload_n C dJ3_checkIndex_8e157_4 rfl 0 rfl ?_
  refine gq_iload_n C dJ3_checkIndex_8e157_5 rfl 1 rfl ?_
  refine gq_icmp_lt_t (tgt := 16) C dJ3_checkIndex_8e157_6 (by decide) h1 ?_
  refine gq_iload_n C dJ3_checkIndex_8e157_16 rfl 0 rfl ?_
  exact gq_iret C hr dJ3_checkIndex_8e157_17 (Nat.le_of_ble_eq_true rfl) (Nat.le_of_ble_eq_true rfl)
set_option maxHeartbeats 4000000 in
set_option maxRecDepth 100000 in
theorem c_J3_checkIndex_8e157N {l : Launch} {E : Ev} {i j : Int32} (h0 : ¬ i < 0) (h1 : i < j) {μ : Mm} : Ct l E yJ3_checkIndex_8e157 (Cond.code yJ3_checkIndex_8e157 cJ3_checkIndex_8e157 3 (some .int) :: GW) rm_J3_checkIndex_8e157 [.int i, .int j, .null] μ (some (.int i)) μ := by
  refine ct_of (by decide) (Nat.le_of_ble_eq_true rfl) (fun p e s m args below meth c C hr => ?_)
  have C : Cq E p s m args meth c cJ3_checkIndex_8e157 3 RJ3 := C
  refine gq_lv (lv' := [(0, .int i), (1, .int j), (2, .null)]) rfl ?_
  refine gq_iload_n C dJ3_checkIndex_8e157_0 rfl 0 rfl ?_
  refine gq_if_lt_f (tgt := 9) C dJ3_checkIndex_8e157_1 (by decide) h0 ?_
  refine gq_iload_n C dJ3_checkIndex_8e157_4 rfl 0 rfl ?_
  refine gq_iload_n C dJ3_checkIndex_8e157_5 rfl 1 rfl ?_
  refine gq_icmp_lt_t (tgt := 16) C dJ3_checkIndex_8e157_6 (by decide) h1 ?_
  refine gq_iload_n C dJ3_checkIndex_8e157_16 rfl 0 rfl ?_
  exact gq_iret C hr dJ3_checkIndex_8e157_17 (Nat.le_of_ble_eq_true rfl) (Nat.le_of_ble_eq_true rfl)
abbrev rm_J0_checkIndex_df160 : Room := { frames := 1, cells := 0, slots := 0, locals := 22 }
set_option maxHeartbeats 4000000 in
set_option maxRecDepth 100000 in
theorem c_J0_checkIndex_df160 {l : Launch} {E : Ev} {i j : Int32} (h0 : ¬ i < 0) (h1 : i < j) {μ : Mm} : Ct l E yJ0_checkIndex_df160 (Cond.code yJ0_checkIndex_df160 cJ0_checkIndex_df160 2 none :: GW) rm_J0_checkIndex_df160 [.int i, .int j] μ none μ := by
  refine ct_of (by decide) (Nat.le_of_ble_eq_true rfl) (fun p e s m args below meth c C hr => ?_)
  have C : Cq E p s m args meth c cJ0_checkIndex_df160 2 RJ0 := C
  refine gq_lv (lv' := [(0, .int i), (1, .int j)]) rfl ?_
  refine gq_iload_n C dJ0_checkIndex_df160_0 rfl 0 rfl ?_
  refine gq_iload_n C dJ0_checkIndex_df160_1 rfl 1 rfl ?_
  rcases C.2.2.2.2.2.2.2.2.2.2.2.2.2.2.2.2.2.2.2 with hz | ⟨x, hz⟩
  · refine gq_getsZ C hz wk_3_175 (fun _ h => h) dJ0_checkIndex_df160_2 ?_
    refine gq_SX (As := [.int i, .int j, .null]) (rest := []) C (c_J3_checkIndex_8e157N h0 h1) wk_4_94 wk_4_95 wk_1_15 wk_4_96 hd_J3_checkIndex_8e157.2 ⟨(Nat.le_of_ble_eq_true rfl), (Nat.le_of_ble_eq_true rfl)⟩ (Nat.le_of_ble_eq_true rfl) ⟨(Nat.le_of_ble_eq_true rfl), (Nat.le_of_ble_eq_true rfl)⟩ dJ0_checkIndex_df160_5 rfl rfl ?_
    refine gq_popi C dJ0_checkIndex_df160_8 ?_
    exact gq_vret C hr dJ0_checkIndex_df160_9 (Nat.le_of_ble_eq_true rfl) (Nat.le_of_ble_eq_true rfl)
  · refine gq_getsZ C hz wk_3_175 (fun _ h => h) dJ0_checkIndex_df160_2 ?_
    refine gq_SX (As := [.int i, .int j, .ref x]) (rest := []) C (c_J3_checkIndex_8e157 h0 h1) wk_4_94 wk_4_95 wk_1_15 wk_4_96 hd_J3_checkIndex_8e157.2 ⟨(Nat.le_of_ble_eq_true rfl), (Nat.le_of_ble_eq_true rfl)⟩ (Nat.le_of_ble_eq_true rfl) ⟨(Nat.le_of_ble_eq_true rfl), (Nat.le_of_ble_eq_true rfl)⟩ dJ0_checkIndex_df160_5 rfl rfl ?_
    refine gq_popi C dJ0_checkIndex_df160_8 ?_
    exact gq_vret C hr dJ0_checkIndex_df160_9 (Nat.le_of_ble_eq_true rfl) (Nat.le_of_ble_eq_true rfl)
abbrev rm_J1_charAt_3b067 : Room := { frames := 2, cells := 0, slots := 0, locals := 43 }
set_option maxHeartbeats 4000000 in
set_option maxRecDepth 100000 in
theorem c_J1_charAt_3b067 {l : Launch} {E : Ev} {w : Nat} (hw : w < 23) {i x : Int32} (hx : eAt E w i = some x) {μ : Mm} : Ct l E yJ1_charAt_3b067 (Cond.code yJ1_charAt_3b067 cJ1_charAt_3b067 2 (some .char) :: GW) rm_J1_charAt_3b067 [.ref (eV E w), .int i] μ (some (.int x)) μ := by
  refine ct_of (by decide) (Nat.le_of_ble_eq_true rfl) (fun p e s m args below meth c C hr => ?_)
  have C : Cq E p s m args meth c cJ1_charAt_3b067 2 RJ1 := C
  obtain ⟨hin, hb⟩ := eAt_ex hx
  obtain ⟨j, hj, rfl⟩ := vp_in_of hin (Nat.lt_trans (e_lt C.2.2.2.2.2.2.2.2.2.2.2.2.2.2.2.2.2.2.1 hw) (by decide))
  have hlt := e_lt C.2.2.2.2.2.2.2.2.2.2.2.2.2.2.2.2.2.2.1 hw
  rw [nI_clamp (by omega)] at hb
  obtain ⟨b1, b2⟩ := e_by C.2.2.2.2.2.2.2.2.2.2.2.2.2.2.2.2.2.2.1 hw hj
  rw [hb] at b1 b2
  refine gq_lv (lv' := [(0, .ref (eV E w)), (1, .int (nI j))]) rfl ?_
  refine gq_iload_n C dJ1_charAt_3b067_0 rfl 1 rfl ?_
  refine gq_aload_n C dJ1_charAt_3b067_1 rfl 0 rfl ?_
  refine gq_tlen C ((C.2.2.2.2.2.2.2.2.2.1 w hw).1 0 (by decide)).2.2.2 dJ1_charAt_3b067_2 ?_
  refine gq_SX (As := [.int (nI j), .int (nI (eLn E w))]) (rest := []) C (c_J0_checkIndex_df160 (nI_pos (by omega)) (nI_lt hj (by omega))) wk_4_91 wk_4_92 wk_1_9 wk_4_93 hd_J0_checkIndex_df160.2 ⟨(Nat.le_of_ble_eq_true rfl), (Nat.le_of_ble_eq_true rfl)⟩ (Nat.le_of_ble_eq_true rfl) ⟨(Nat.le_of_ble_eq_true rfl), (Nat.le_of_ble_eq_true rfl)⟩ dJ1_charAt_3b067_3 rfl rfl ?_
  refine gq_aload_n C dJ1_charAt_3b067_6 rfl 0 rfl ?_
  refine gq_iload_n C dJ1_charAt_3b067_7 rfl 1 rfl ?_
  refine gq_tb (v := .int x) C ((C.2.2.2.2.2.2.2.2.2.1 w hw).1 0 (by decide)).2.2.2 hin (by rw [nI_clamp (by omega)]; exact congrArg Value.int hb) dJ1_charAt_3b067_8 ?_
  refine gq_sipush (v := 255) C dJ1_charAt_3b067_9 (by decide) ?_
  refine gq_iand C dJ1_charAt_3b067_12 ?_
  refine gq_i2c C b1 dJ1_charAt_3b067_13 ?_
  exact gq_zret C hr b2 dJ1_charAt_3b067_14 (Nat.le_of_ble_eq_true rfl) (Nat.le_of_ble_eq_true rfl)
abbrev rm_J0_charAt_5068e : Room := { frames := 3, cells := 0, slots := 0, locals := 64 }
set_option maxHeartbeats 4000000 in
set_option maxRecDepth 100000 in
theorem c_J0_charAt_5068e {l : Launch} {E : Ev} {w : Nat} (hw : w < 23) {i x : Int32} (hx : eAt E w i = some x) {μ : Mm} : Ct l E yJ0_charAt_5068e (Cond.code yJ0_charAt_5068e cJ0_charAt_5068e 2 (some .char) :: GW) rm_J0_charAt_5068e [.ref (eK E w), .int i] μ (some (.int x)) μ := by
  refine ct_of (by decide) (Nat.le_of_ble_eq_true rfl) (fun p e s m args below meth c C hr => ?_)
  have C : Cq E p s m args meth c cJ0_charAt_5068e 2 RJ0 := C
  have hb2 : narrow .char (.int x) = .int x := by
    obtain ⟨hin, hb⟩ := eAt_ex hx
    obtain ⟨j, hj, rfl⟩ := vp_in_of hin (Nat.lt_trans (e_lt C.2.2.2.2.2.2.2.2.2.2.2.2.2.2.2.2.2.2.1 hw) (by decide))
    have hlt := e_lt C.2.2.2.2.2.2.2.2.2.2.2.2.2.2.2.2.2.2.1 hw
    rw [nI_clamp (by omega)] at hb
    have q := (e_by C.2.2.2.2.2.2.2.2.2.2.2.2.2.2.2.2.2.2.1 hw hj).2
    rw [hb] at q
    exact q
  refine gq_lv (lv' := [(0, .ref (eK E w)), (1, .int i)]) rfl ?_
  refine gq_aload_n C dJ0_charAt_5068e_0 rfl 0 rfl ?_
  refine gq_VL (As := []) (rest := []) C (c_J0_isLatin1_aae02 hw) hw wk_4_84 wk_4_85 wk_4_86 wk_1_9 wk_4_87 hd_J0_isLatin1_aae02 ⟨(Nat.le_of_ble_eq_true rfl), (Nat.le_of_ble_eq_true rfl)⟩ (Nat.le_of_ble_eq_true rfl) ⟨(Nat.le_of_ble_eq_true rfl), (Nat.le_of_ble_eq_true rfl)⟩ dJ0_charAt_5068e_1 rfl rfl ?_
  refine gq_if_eq_f (tgt := 16) C dJ0_charAt_5068e_4 (by decide) (by decide) ?_
  refine gq_aload_n C dJ0_charAt_5068e_7 rfl 0 rfl ?_
  refine gq_getOF C ((C.2.2.2.2.2.2.2.2.2.1 w hw).1 0 (by decide)).2.2.1 wk_4_68 (fun _ h => h) dJ0_charAt_5068e_8 ?_
  refine gq_iload_n C dJ0_charAt_5068e_11 rfl 1 rfl ?_
  refine gq_SX (As := [.ref (eV E w), .int i]) (rest := []) C (c_J1_charAt_3b067 hw hx) wk_4_88 wk_4_89 wk_1_16 wk_4_90 hd_J1_charAt_3b067.2 ⟨(Nat.le_of_ble_eq_true rfl), (Nat.le_of_ble_eq_true rfl)⟩ (Nat.le_of_ble_eq_true rfl) ⟨(Nat.le_of_ble_eq_true rfl), (Nat.le_of_ble_eq_true rfl)⟩ dJ0_charAt_5068e_12 rfl rfl ?_
  exact gq_zret C hr hb2 dJ0_charAt_5068e_15 (Nat.le_of_ble_eq_true rfl) (Nat.le_of_ble_eq_true rfl)
section QS2
variable {E : Ev} {p : Program} {l : Launch} {e : Env} {R : Room} {s : State} {m : MethodId} {args : Array Value} {below : List Frame} {meth : Method} {c : Code} {k n nL : Nat} {Q : State → Prop} {cc : ByteArray} {own : String} {pc : Nat} {lv lv' : List (Nat × Value)} {rest st : List Value} {μ μ' : Mm}
theorem gq_txLen (C : Cq E p s m args meth c cc nL own) {w index : Nat} (hw : w < 23) (w1 : Cond.methodLink own index yJ0_length_8abf5 ∈ GW) (d : decode cc pc = .ok (.invokevirtual index, 3)) (hf : 2 ≤ R.frames) (hlo : 50 ≤ R.locals) (hs : (rest.map fun v => v.category).sum ≤ 8) (kk : Gq E p l e R s m args below meth c k n nL Q (pc + 3) lv (.int (nI (eLn E w)) :: rest) μ) (hc : k ≤ R.cells := by exact Nat.le_of_ble_eq_true rfl) (hn : n ≤ R.slots := by exact Nat.le_of_ble_eq_true rfl) : Gq E p l e R s m args below meth c k n nL Q pc lv (.ref (eK E w) :: rest) μ :=
  gq_VL (As := []) (rest := rest) C (c_J0_length_8abf5 hw) hw w1 wk_3_103 wk_3_104 wk_1_9 wk_3_105 hd_J0_length_8abf5 ⟨hf, Nat.le_trans (Nat.le_of_ble_eq_true rfl) hlo⟩ hs ⟨hc, hn⟩ d rfl rfl kk
theorem gq_txAt (C : Cq E p s m args meth c cc nL own) {w index : Nat} (hw : w < 23) {i x : Int32} (hx : eAt E w i = some x) (w1 : Cond.methodLink own index yJ0_charAt_5068e ∈ GW) (d : decode cc pc = .ok (.invokevirtual index, 3)) (hf : 4 ≤ R.frames) (hlo : 100 ≤ R.locals) (hs : (rest.map fun v => v.category).sum ≤ 8) (kk : Gq E p l e R s m args below meth c k n nL Q (pc + 3) lv (.int x :: rest) μ) (hc : k ≤ R.cells := by exact Nat.le_of_ble_eq_true rfl) (hn : n ≤ R.slots := by exact Nat.le_of_ble_eq_true rfl) : Gq E p l e R s m args below meth c k n nL Q pc lv (.int i :: .ref (eK E w) :: rest) μ :=
  gq_VL (As := [.int i]) (rest := rest) C (c_J0_charAt_5068e hw hx) hw w1 wk_4_81 wk_4_82 wk_1_9 wk_4_83 hd_J0_charAt_5068e ⟨hf, Nat.le_trans (Nat.le_of_ble_eq_true rfl) hlo⟩ hs ⟨hc, hn⟩ d rfl rfl kk
theorem gq_strLen (C : Cq E p s m args meth c cc nL own) {w index : Nat} (hw : w < 10) (w1 : Cond.methodLink own index yJ0_length_8abf5 ∈ GW) (d : decode cc pc = .ok (.invokevirtual index, 3)) (hf : 2 ≤ R.frames) (hlo : 50 ≤ R.locals) (hs : (rest.map fun v => v.category).sum ≤ 8) (kk : Gq E p l e R s m args below meth c k n nL Q (pc + 3) lv (.int (strLen w) :: rest) μ) (hc : k ≤ R.cells := by exact Nat.le_of_ble_eq_true rfl) (hn : n ≤ R.slots := by exact Nat.le_of_ble_eq_true rfl) : Gq E p l e R s m args below meth c k n nL Q pc lv (.ref (eK E w) :: rest) μ := by
  rw [← eLn_lit (E := E) (w := w) (by omega)] at kk
  exact gq_txLen C (by omega) w1 d hf hlo hs kk hc hn
theorem gq_strAt (C : Cq E p s m args meth c cc nL own) {w index : Nat} (hw : w < 10) {i x : Int32} (hx : strAt w i = some x) (w1 : Cond.methodLink own index yJ0_charAt_5068e ∈ GW) (d : decode cc pc = .ok (.invokevirtual index, 3)) (hf : 4 ≤ R.frames) (hlo : 100 ≤ R.locals) (hs : (rest.map fun v => v.category).sum ≤ 8) (kk : Gq E p l e R s m args below meth c k n nL Q (pc + 3) lv (.int x :: rest) μ) (hc : k ≤ R.cells := by exact Nat.le_of_ble_eq_true rfl) (hn : n ≤ R.slots := by exact Nat.le_of_ble_eq_true rfl) : Gq E p l e R s m args below meth c k n nL Q pc lv (.int i :: .ref (eK E w) :: rest) μ := gq_txAt C (by omega) ((eAt_lit (by omega)).trans hx) w1 d hf hlo hs kk hc hn
end QS2
