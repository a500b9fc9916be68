/-! ===== texts at the level of the law ===== -/
theorem wk_3_149 : Cond.methodLink "java/util/Arrays" (310 : Nat) ({ cls := "[B", name := "clone", desc := "()Ljava/lang/Object;" } : MethodName) ∈ GW := gw_3 (List.mem_of_getElem? (i := 149) rfl) rfl
theorem wk_3_150 : Cond.sameMethod "[B" "java/lang/Object" "clone" "()Ljava/lang/Object;" ∈ GW := gw_3 (List.mem_of_getElem? (i := 150) rfl) rfl
theorem wk_3_151 : Cond.native ({ cls := "java/lang/Object", name := "clone", desc := "()Ljava/lang/Object;" } : MethodName) ∈ GW := gw_3 (List.mem_of_getElem? (i := 151) rfl) rfl
theorem wk_3_152 : Cond.instanceMethod ({ cls := "java/lang/Object", name := "clone", desc := "()Ljava/lang/Object;" } : MethodName) ∈ GW := gw_3 (List.mem_of_getElem? (i := 152) rfl) rfl
theorem wk_3_153 : Cond.selects "[B" ({ cls := "[B", name := "clone", desc := "()Ljava/lang/Object;" } : MethodName) ({ cls := "java/lang/Object", name := "clone", desc := "()Ljava/lang/Object;" } : MethodName) ∈ GW := gw_3 (List.mem_of_getElem? (i := 153) rfl) rfl
theorem wk_3_154 : Cond.castable "[B" "java/lang/Cloneable" ∈ NW := gn_3 (List.mem_of_getElem? (i := 154) rfl) rfl
theorem wk_3_155 : Cond.classLink "java/util/Arrays" (311 : Nat) "[B" ∈ GW := gw_3 (List.mem_of_getElem? (i := 155) rfl) rfl
theorem wk_4_23 : Cond.classLink "java/lang/StringBuilder" (18 : Nat) "java/lang/String" ∈ GW := gw_4 (List.mem_of_getElem? (i := 23) rfl) rfl
theorem wk_4_24 : Cond.instantiable "java/lang/String" (4 : Nat) ∈ GW := gw_4 (List.mem_of_getElem? (i := 24) rfl) rfl
theorem wk_4_25 : Cond.methodLink "java/lang/StringBuilder" (137 : Nat) ({ cls := "java/lang/String", name := "<init>", desc := "(Ljava/lang/StringBuilder;)V" } : MethodName) ∈ GW := gw_4 (List.mem_of_getElem? (i := 25) rfl) rfl
theorem wk_4_26 : Cond.instanceMethod ({ cls := "java/lang/String", name := "<init>", desc := "(Ljava/lang/StringBuilder;)V" } : MethodName) ∈ GW := gw_4 (List.mem_of_getElem? (i := 26) rfl) rfl
theorem wk_4_27 : Cond.code ({ cls := "java/lang/String", name := "<init>", desc := "(Ljava/lang/StringBuilder;)V" } : MethodName) prog_23_method_53_code (2 : Nat) (Option.none : Option Jvm.ClassFile.FieldType) ∈ GW := gw_4 (List.mem_of_getElem? (i := 27) rfl) rfl
theorem wk_4_28 : Cond.methodLink "java/lang/String" (489 : Nat) ({ cls := "java/lang/String", name := "<init>", desc := "(Ljava/lang/AbstractStringBuilder;Ljava/lang/Void;)V" } : MethodName) ∈ GW := gw_4 (List.mem_of_getElem? (i := 28) rfl) rfl
theorem wk_4_29 : Cond.instanceMethod ({ cls := "java/lang/String", name := "<init>", desc := "(Ljava/lang/AbstractStringBuilder;Ljava/lang/Void;)V" } : MethodName) ∈ GW := gw_4 (List.mem_of_getElem? (i := 29) rfl) rfl
theorem wk_4_30 : Cond.code ({ cls := "java/lang/String", name := "<init>", desc := "(Ljava/lang/AbstractStringBuilder;Ljava/lang/Void;)V" } : MethodName) prog_23_method_150_code (5 : Nat) (Option.none : Option Jvm.ClassFile.FieldType) ∈ GW := gw_4 (List.mem_of_getElem? (i := 30) rfl) rfl
theorem wk_4_31 : Cond.methodLink "java/lang/String" (1 : Nat) ({ cls := "java/lang/Object", name := "<init>", desc := "()V" } : MethodName) ∈ GW := gw_4 (List.mem_of_getElem? (i := 31) rfl) rfl
theorem wk_4_32 : Cond.methodLink "java/lang/String" (552 : Nat) ({ cls := "java/lang/AbstractStringBuilder", name := "getValue", desc := "()[B" } : MethodName) ∈ GW := gw_4 (List.mem_of_getElem? (i := 32) rfl) rfl
theorem wk_4_33 : Cond.instanceMethod ({ cls := "java/lang/AbstractStringBuilder", name := "getValue", desc := "()[B" } : MethodName) ∈ GW := gw_4 (List.mem_of_getElem? (i := 33) rfl) rfl
theorem wk_4_34 : Cond.sameMethod "java/lang/AbstractStringBuilder" "java/lang/AbstractStringBuilder" "getValue" "()[B" ∈ GW := gw_4 (List.mem_of_getElem? (i := 34) rfl) rfl
theorem wk_4_35 : Cond.selects "java/lang/StringBuilder" ({ cls := "java/lang/AbstractStringBuilder", name := "getValue", desc := "()[B" } : MethodName) ({ cls := "java/lang/AbstractStringBuilder", name := "getValue", desc := "()[B" } : MethodName) ∈ GW := gw_4 (List.mem_of_getElem? (i := 35) rfl) rfl
theorem wk_4_36 : Cond.code ({ cls := "java/lang/AbstractStringBuilder", name := "getValue", desc := "()[B" } : MethodName) prog_10_method_64_code (1 : Nat) (Option.some (Jvm.ClassFile.FieldType.array Jvm.ClassFile.FieldType.byte)) ∈ GW := gw_4 (List.mem_of_getElem? (i := 36) rfl) rfl
theorem wk_4_37 : Cond.methodLink "java/lang/String" (549 : Nat) ({ cls := "java/lang/AbstractStringBuilder", name := "length", desc := "()I" } : MethodName) ∈ GW := gw_4 (List.mem_of_getElem? (i := 37) rfl) rfl
theorem wk_4_40 : Cond.selects "java/lang/StringBuilder" ({ cls := "java/lang/AbstractStringBuilder", name := "length", desc := "()I" } : MethodName) ({ cls := "java/lang/StringBuilder", name := "length", desc := "()I" } : MethodName) ∈ GW := gw_4 (List.mem_of_getElem? (i := 40) rfl) rfl
theorem wk_4_45 : Cond.methodLink "java/lang/String" (1047 : Nat) ({ cls := "java/lang/AbstractStringBuilder", name := "isLatin1", desc := "()Z" } : MethodName) ∈ GW := gw_4 (List.mem_of_getElem? (i := 45) rfl) rfl
theorem wk_4_46 : Cond.methodLink "java/lang/String" (54 : Nat) ({ cls := "java/util/Arrays", name := "copyOfRange", desc := "([BII)[B" } : MethodName) ∈ GW := gw_4 (List.mem_of_getElem? (i := 46) rfl) rfl
theorem wk_4_47 : Cond.static ({ cls := "java/util/Arrays", name := "copyOfRange", desc := "([BII)[B" } : MethodName) ∈ GW := gw_4 (List.mem_of_getElem? (i := 47) rfl) rfl
theorem wk_4_48 : Cond.code ({ cls := "java/util/Arrays", name := "copyOfRange", desc := "([BII)[B" } : MethodName) prog_31_method_132_code (3 : Nat) (Option.some (Jvm.ClassFile.FieldType.array Jvm.ClassFile.FieldType.byte)) ∈ GW := gw_4 (List.mem_of_getElem? (i := 48) rfl) rfl
theorem wk_4_49 : Cond.methodLink "java/util/Arrays" (339 : Nat) ({ cls := "java/util/Arrays", name := "copyOfRangeByte", desc := "([BII)[B" } : MethodName) ∈ GW := gw_4 (List.mem_of_getElem? (i := 49) rfl) rfl
theorem wk_4_50 : Cond.static ({ cls := "java/util/Arrays", name := "copyOfRangeByte", desc := "([BII)[B" } : MethodName) ∈ GW := gw_4 (List.mem_of_getElem? (i := 50) rfl) rfl
theorem wk_4_51 : Cond.code ({ cls := "java/util/Arrays", name := "copyOfRangeByte", desc := "([BII)[B" } : MethodName) prog_31_method_133_code (5 : Nat) (Option.some (Jvm.ClassFile.FieldType.array Jvm.ClassFile.FieldType.byte)) ∈ GW := gw_4 (List.mem_of_getElem? (i := 51) rfl) rfl
theorem wk_4_52 : Cond.methodLink "java/util/Arrays" (343 : Nat) ({ cls := "java/util/Arrays", name := "checkLength", desc := "(II)V" } : MethodName) ∈ GW := gw_4 (List.mem_of_getElem? (i := 52) rfl) rfl
theorem wk_4_53 : Cond.static ({ cls := "java/util/Arrays", name := "checkLength", desc := "(II)V" } : MethodName) ∈ GW := gw_4 (List.mem_of_getElem? (i := 53) rfl) rfl
theorem wk_4_54 : Cond.code ({ cls := "java/util/Arrays", name := "checkLength", desc := "(II)V" } : MethodName) prog_31_method_131_code (2 : Nat) (Option.none : Option Jvm.ClassFile.FieldType) ∈ GW := gw_4 (List.mem_of_getElem? (i := 54) rfl) rfl
theorem dJ5_getValue_6d5f1_0 : decode cJ5_getValue_6d5f1 0 = .ok (.aload_n 0, 1) := by decide +kernel
theorem dJ5_getValue_6d5f1_1 : decode cJ5_getValue_6d5f1 1 = .ok (.getfield 15, 3) := by decide +kernel
theorem dJ5_getValue_6d5f1_4 : decode cJ5_getValue_6d5f1 4 = .ok (.areturn, 1) := by decide +kernel
theorem dJ7_checkLength_df160_0 : decode cJ7_checkLength_df160 0 = .ok (.iload_n 1, 1) := by decide +kernel
theorem dJ7_checkLength_df160_1 : decode cJ7_checkLength_df160 1 = .ok (.iload_n 0, 1) := by decide +kernel
theorem dJ7_checkLength_df160_2 : decode cJ7_checkLength_df160 2 = .ok (.if_icmp .ge 35, 3) := by decide +kernel
theorem dJ7_checkLength_df160_5 : decode cJ7_checkLength_df160 5 = .ok (.new 43, 3) := by decide +kernel
theorem dJ7_checkLength_df160_8 : decode cJ7_checkLength_df160 8 = .ok (.dup, 1) := by decide +kernel
theorem dJ7_checkLength_df160_9 : decode cJ7_checkLength_df160 9 = .ok (.new 45, 3) := by decide +kernel
theorem dJ7_checkLength_df160_12 : decode cJ7_checkLength_df160 12 = .ok (.dup, 1) := by decide +kernel
theorem dJ7_checkLength_df160_13 : decode cJ7_checkLength_df160 13 = .ok (.invokespecial 47, 3) := by decide +kernel
theorem dJ7_checkLength_df160_16 : decode cJ7_checkLength_df160 16 = .ok (.iload_n 0, 1) := by decide +kernel
theorem dJ7_checkLength_df160_17 : decode cJ7_checkLength_df160 17 = .ok (.invokevirtual 54, 3) := by decide +kernel
theorem dJ7_checkLength_df160_20 : decode cJ7_checkLength_df160 20 = .ok (.ldc_w 337, 3) := by decide +kernel
theorem dJ7_checkLength_df160_23 : decode cJ7_checkLength_df160 23 = .ok (.invokevirtual 50, 3) := by decide +kernel
theorem dJ7_checkLength_df160_26 : decode cJ7_checkLength_df160 26 = .ok (.iload_n 1, 1) := by decide +kernel
theorem dJ7_checkLength_df160_27 : decode cJ7_checkLength_df160 27 = .ok (.invokevirtual 54, 3) := by decide +kernel
theorem dJ7_checkLength_df160_30 : decode cJ7_checkLength_df160 30 = .ok (.invokevirtual 61, 3) := by decide +kernel
theorem dJ7_checkLength_df160_33 : decode cJ7_checkLength_df160 33 = .ok (.invokespecial 65, 3) := by decide +kernel
theorem dJ7_checkLength_df160_36 : decode cJ7_checkLength_df160 36 = .ok (.athrow, 1) := by decide +kernel
theorem dJ7_checkLength_df160_37 : decode cJ7_checkLength_df160 37 = .ok (.return_, 1) := by decide +kernel
theorem dJ7_copyOfRangeByte_39247_0 : decode cJ7_copyOfRangeByte_39247 0 = .ok (.iload_n 1, 1) := by decide +kernel
theorem dJ7_copyOfRangeByte_39247_1 : decode cJ7_copyOfRangeByte_39247 1 = .ok (.iload_n 2, 1) := by decide +kernel
theorem dJ7_copyOfRangeByte_39247_2 : decode cJ7_copyOfRangeByte_39247 2 = .ok (.invokestatic 343, 3) := by decide +kernel
theorem dJ7_copyOfRangeByte_39247_5 : decode cJ7_copyOfRangeByte_39247 5 = .ok (.iload_n 2, 1) := by decide +kernel
theorem dJ7_copyOfRangeByte_39247_6 : decode cJ7_copyOfRangeByte_39247 6 = .ok (.iload_n 1, 1) := by decide +kernel
theorem dJ7_copyOfRangeByte_39247_7 : decode cJ7_copyOfRangeByte_39247 7 = .ok (.isub, 1) := by decide +kernel
theorem dJ7_copyOfRangeByte_39247_8 : decode cJ7_copyOfRangeByte_39247 8 = .ok (.istore_n 3, 1) := by decide +kernel
theorem dJ7_copyOfRangeByte_39247_9 : decode cJ7_copyOfRangeByte_39247 9 = .ok (.iload_n 3, 1) := by decide +kernel
theorem dJ7_copyOfRangeByte_39247_10 : decode cJ7_copyOfRangeByte_39247 10 = .ok (.newarray .byte, 2) := by decide +kernel
theorem dJ7_copyOfRangeByte_39247_12 : decode cJ7_copyOfRangeByte_39247 12 = .ok (.astore 4, 2) := by decide +kernel
theorem dJ7_copyOfRangeByte_39247_14 : decode cJ7_copyOfRangeByte_39247 14 = .ok (.aload_n 0, 1) := by decide +kernel
theorem dJ7_copyOfRangeByte_39247_15 : decode cJ7_copyOfRangeByte_39247 15 = .ok (.iload_n 1, 1) := by decide +kernel
theorem dJ7_copyOfRangeByte_39247_16 : decode cJ7_copyOfRangeByte_39247 16 = .ok (.aload 4, 2) := by decide +kernel
theorem dJ7_copyOfRangeByte_39247_18 : decode cJ7_copyOfRangeByte_39247 18 = .ok (.iconst 0, 1) := by decide +kernel
theorem dJ7_copyOfRangeByte_39247_19 : decode cJ7_copyOfRangeByte_39247 19 = .ok (.aload_n 0, 1) := by decide +kernel
theorem dJ7_copyOfRangeByte_39247_20 : decode cJ7_copyOfRangeByte_39247 20 = .ok (.arraylength, 1) := by decide +kernel
theorem dJ7_copyOfRangeByte_39247_21 : decode cJ7_copyOfRangeByte_39247 21 = .ok (.iload_n 1, 1) := by decide +kernel
theorem dJ7_copyOfRangeByte_39247_22 : decode cJ7_copyOfRangeByte_39247 22 = .ok (.isub, 1) := by decide +kernel
theorem dJ7_copyOfRangeByte_39247_23 : decode cJ7_copyOfRangeByte_39247 23 = .ok (.iload_n 3, 1) := by decide +kernel
theorem dJ7_copyOfRangeByte_39247_24 : decode cJ7_copyOfRangeByte_39247 24 = .ok (.invokestatic 304, 3) := by decide +kernel
theorem dJ7_copyOfRangeByte_39247_27 : decode cJ7_copyOfRangeByte_39247 27 = .ok (.invokestatic 150, 3) := by decide +kernel
theorem dJ7_copyOfRangeByte_39247_30 : decode cJ7_copyOfRangeByte_39247 30 = .ok (.aload 4, 2) := by decide +kernel
theorem dJ7_copyOfRangeByte_39247_32 : decode cJ7_copyOfRangeByte_39247 32 = .ok (.areturn, 1) := by decide +kernel
theorem dJ7_copyOfRange_39247_0 : decode cJ7_copyOfRange_39247 0 = .ok (.iload_n 1, 1) := by decide +kernel
theorem dJ7_copyOfRange_39247_1 : decode cJ7_copyOfRange_39247 1 = .ok (.ifCond .ne 9, 3) := by decide +kernel
theorem dJ7_copyOfRange_39247_4 : decode cJ7_copyOfRange_39247 4 = .ok (.iload_n 2, 1) := by decide +kernel
theorem dJ7_copyOfRange_39247_5 : decode cJ7_copyOfRange_39247 5 = .ok (.aload_n 0, 1) := by decide +kernel
theorem dJ7_copyOfRange_39247_6 : decode cJ7_copyOfRange_39247 6 = .ok (.arraylength, 1) := by decide +kernel
theorem dJ7_copyOfRange_39247_7 : decode cJ7_copyOfRange_39247 7 = .ok (.if_icmp .eq 10, 3) := by decide +kernel
theorem dJ7_copyOfRange_39247_10 : decode cJ7_copyOfRange_39247 10 = .ok (.aload_n 0, 1) := by decide +kernel
theorem dJ7_copyOfRange_39247_11 : decode cJ7_copyOfRange_39247 11 = .ok (.iload_n 1, 1) := by decide +kernel
theorem dJ7_copyOfRange_39247_12 : decode cJ7_copyOfRange_39247 12 = .ok (.iload_n 2, 1) := by decide +kernel
theorem dJ7_copyOfRange_39247_13 : decode cJ7_copyOfRange_39247 13 = .ok (.invokestatic 339, 3) := by decide +kernel
theorem dJ7_copyOfRange_39247_16 : decode cJ7_copyOfRange_39247 16 = .ok (.areturn, 1) := by decide +kernel
theorem dJ7_copyOfRange_39247_17 : decode cJ7_copyOfRange_39247 17 = .ok (.aload_n 0, 1) := by decide +kernel
theorem dJ7_copyOfRange_39247_18 : decode cJ7_copyOfRange_39247 18 = .ok (.invokevirtual 310, 3) := by decide +kernel
theorem dJ7_copyOfRange_39247_21 : decode cJ7_copyOfRange_39247 21 = .ok (.checkcast 311, 3) := by decide +kernel
theorem dJ7_copyOfRange_39247_24 : decode cJ7_copyOfRange_39247 24 = .ok (.areturn, 1) := by decide +kernel
theorem dJ0_init_db425_0 : decode cJ0_init_db425 0 = .ok (.aload_n 0, 1) := by decide +kernel
theorem dJ0_init_db425_1 : decode cJ0_init_db425 1 = .ok (.invokespecial 1, 3) := by decide +kernel
theorem dJ0_init_db425_4 : decode cJ0_init_db425 4 = .ok (.aload_n 1, 1) := by decide +kernel
theorem dJ0_init_db425_5 : decode cJ0_init_db425 5 = .ok (.invokevirtual 552, 3) := by decide +kernel
theorem dJ0_init_db425_8 : decode cJ0_init_db425 8 = .ok (.astore_n 3, 1) := by decide +kernel
theorem dJ0_init_db425_9 : decode cJ0_init_db425 9 = .ok (.aload_n 1, 1) := by decide +kernel
theorem dJ0_init_db425_10 : decode cJ0_init_db425 10 = .ok (.invokevirtual 549, 3) := by decide +kernel
theorem dJ0_init_db425_13 : decode cJ0_init_db425 13 = .ok (.istore 4, 2) := by decide +kernel
theorem dJ0_init_db425_15 : decode cJ0_init_db425 15 = .ok (.aload_n 1, 1) := by decide +kernel
theorem dJ0_init_db425_16 : decode cJ0_init_db425 16 = .ok (.invokevirtual 1047, 3) := by decide +kernel
theorem dJ0_init_db425_19 : decode cJ0_init_db425 19 = .ok (.ifCond .eq 22, 3) := by decide +kernel
theorem dJ0_init_db425_22 : decode cJ0_init_db425 22 = .ok (.aload_n 0, 1) := by decide +kernel
theorem dJ0_init_db425_23 : decode cJ0_init_db425 23 = .ok (.iconst 0, 1) := by decide +kernel
theorem dJ0_init_db425_24 : decode cJ0_init_db425 24 = .ok (.putfield 15, 3) := by decide +kernel
theorem dJ0_init_db425_27 : decode cJ0_init_db425 27 = .ok (.aload_n 0, 1) := by decide +kernel
theorem dJ0_init_db425_28 : decode cJ0_init_db425 28 = .ok (.aload_n 3, 1) := by decide +kernel
theorem dJ0_init_db425_29 : decode cJ0_init_db425 29 = .ok (.iconst 0, 1) := by decide +kernel
theorem dJ0_init_db425_30 : decode cJ0_init_db425 30 = .ok (.iload 4, 2) := by decide +kernel
theorem dJ0_init_db425_32 : decode cJ0_init_db425 32 = .ok (.invokestatic 54, 3) := by decide +kernel
theorem dJ0_init_db425_35 : decode cJ0_init_db425 35 = .ok (.putfield 9, 3) := by decide +kernel
theorem dJ0_init_db425_38 : decode cJ0_init_db425 38 = .ok (.goto 59, 3) := by decide +kernel
theorem dJ0_init_db425_41 : decode cJ0_init_db425 41 = .ok (.getstatic 38, 3) := by decide +kernel
theorem dJ0_init_db425_44 : decode cJ0_init_db425 44 = .ok (.ifCond .eq 35, 3) := by decide +kernel
theorem dJ0_init_db425_47 : decode cJ0_init_db425 47 = .ok (.aload_n 1, 1) := by decide +kernel
theorem dJ0_init_db425_48 : decode cJ0_init_db425 48 = .ok (.getfield 1048, 3) := by decide +kernel
theorem dJ0_init_db425_51 : decode cJ0_init_db425 51 = .ok (.ifCond .eq 28, 3) := by decide +kernel
theorem dJ0_init_db425_54 : decode cJ0_init_db425 54 = .ok (.aload_n 0, 1) := by decide +kernel
theorem dJ0_init_db425_55 : decode cJ0_init_db425 55 = .ok (.aload_n 3, 1) := by decide +kernel
theorem dJ0_init_db425_56 : decode cJ0_init_db425 56 = .ok (.iconst 0, 1) := by decide +kernel
theorem dJ0_init_db425_57 : decode cJ0_init_db425 57 = .ok (.iload 4, 2) := by decide +kernel
theorem dJ0_init_db425_59 : decode cJ0_init_db425 59 = .ok (.invokestatic 1051, 3) := by decide +kernel
theorem dJ0_init_db425_62 : decode cJ0_init_db425 62 = .ok (.putfield 9, 3) := by decide +kernel
theorem dJ0_init_db425_65 : decode cJ0_init_db425 65 = .ok (.aload_n 0, 1) := by decide +kernel
theorem dJ0_init_db425_66 : decode cJ0_init_db425 66 = .ok (.aload_n 0, 1) := by decide +kernel
theorem dJ0_init_db425_67 : decode cJ0_init_db425 67 = .ok (.getfield 9, 3) := by decide +kernel
theorem dJ0_init_db425_70 : decode cJ0_init_db425 70 = .ok (.iload 4, 2) := by decide +kernel
theorem dJ0_init_db425_72 : decode cJ0_init_db425 72 = .ok (.invokestatic 47, 3) := by decide +kernel
theorem dJ0_init_db425_75 : decode cJ0_init_db425 75 = .ok (.putfield 15, 3) := by decide +kernel
theorem dJ0_init_db425_78 : decode cJ0_init_db425 78 = .ok (.return_, 1) := by decide +kernel
theorem dJ0_init_db425_79 : decode cJ0_init_db425 79 = .ok (.aload_n 0, 1) := by decide +kernel
theorem dJ0_init_db425_80 : decode cJ0_init_db425 80 = .ok (.iconst 1, 1) := by decide +kernel
theorem dJ0_init_db425_81 : decode cJ0_init_db425 81 = .ok (.putfield 15, 3) := by decide +kernel
theorem dJ0_init_db425_84 : decode cJ0_init_db425 84 = .ok (.aload_n 0, 1) := by decide +kernel
theorem dJ0_init_db425_85 : decode cJ0_init_db425 85 = .ok (.aload_n 3, 1) := by decide +kernel
theorem dJ0_init_db425_86 : decode cJ0_init_db425 86 = .ok (.iconst 0, 1) := by decide +kernel
theorem dJ0_init_db425_87 : decode cJ0_init_db425 87 = .ok (.iload 4, 2) := by decide +kernel
theorem dJ0_init_db425_89 : decode cJ0_init_db425 89 = .ok (.iconst 1, 1) := by decide +kernel
theorem dJ0_init_db425_90 : decode cJ0_init_db425 90 = .ok (.ishl, 1) := by decide +kernel
theorem dJ0_init_db425_91 : decode cJ0_init_db425 91 = .ok (.invokestatic 54, 3) := by decide +kernel
theorem dJ0_init_db425_94 : decode cJ0_init_db425 94 = .ok (.putfield 9, 3) := by decide +kernel
theorem dJ0_init_db425_97 : decode cJ0_init_db425 97 = .ok (.return_, 1) := by decide +kernel
theorem dJ0_init_81219_0 : decode cJ0_init_81219 0 = .ok (.aload_n 0, 1) := by decide +kernel
theorem dJ0_init_81219_1 : decode cJ0_init_81219 1 = .ok (.aload_n 1, 1) := by decide +kernel
theorem dJ0_init_81219_2 : decode cJ0_init_81219 2 = .ok (.aconst_null, 1) := by decide +kernel
theorem dJ0_init_81219_3 : decode cJ0_init_81219 3 = .ok (.invokespecial 489, 3) := by decide +kernel
theorem dJ0_init_81219_6 : decode cJ0_init_81219 6 = .ok (.return_, 1) := by decide +kernel
theorem dJ4_toString_0e30d_0 : decode cJ4_toString_0e30d 0 = .ok (.new 18, 3) := by decide +kernel
theorem dJ4_toString_0e30d_3 : decode cJ4_toString_0e30d 3 = .ok (.dup, 1) := by decide +kernel
theorem dJ4_toString_0e30d_4 : decode cJ4_toString_0e30d 4 = .ok (.aload_n 0, 1) := by decide +kernel
theorem dJ4_toString_0e30d_5 : decode cJ4_toString_0e30d 5 = .ok (.invokespecial 137, 3) := by decide +kernel
theorem dJ4_toString_0e30d_8 : decode cJ4_toString_0e30d 8 = .ok (.areturn, 1) := by decide +kernel
theorem hd_J7_ck : yJ7_checkLength_df160.cls = RJ7 ∧ yJ7_checkLength_df160.cls ≠ "java/lang/invoke/MethodHandle" ∧ yJ7_checkLength_df160.cls ≠ "java/lang/invoke/VarHandle" ∧ (parseMethodDescriptor yJ7_checkLength_df160.desc).map (fun d => d.parameters.length) = some 2 := by decide +kernel
theorem hd_J7_cb : yJ7_copyOfRangeByte_39247.cls = RJ7 ∧ yJ7_copyOfRangeByte_39247.cls ≠ "java/lang/invoke/MethodHandle" ∧ yJ7_copyOfRangeByte_39247.cls ≠ "java/lang/invoke/VarHandle" ∧ (parseMethodDescriptor yJ7_copyOfRangeByte_39247.desc).map (fun d => d.parameters.length) = some 3 := by decide +kernel
theorem hd_J7_cr : yJ7_copyOfRange_39247.cls ≠ "java/lang/invoke/MethodHandle" ∧ yJ7_copyOfRange_39247.cls ≠ "java/lang/invoke/VarHandle" ∧ (parseMethodDescriptor yJ7_copyOfRange_39247.desc).map (fun d => d.parameters.length) = some 3 := by decide +kernel
theorem hb_gv : yJ5_getValue_6d5f1.cls ≠ "java/lang/invoke/MethodHandle" ∧ yJ5_getValue_6d5f1.cls ≠ "java/lang/invoke/VarHandle" ∧ (parseMethodDescriptor yJ5_getValue_6d5f1.desc).map (fun d => d.parameters.length) = some 0 := by decide +kernel
theorem hd_J0_i2 : yJ0_init_db425.cls ≠ "java/lang/invoke/MethodHandle" ∧ yJ0_init_db425.cls ≠ "java/lang/invoke/VarHandle" ∧ (parseMethodDescriptor yJ0_init_db425.desc).map (fun d => d.parameters.length) = some 2 := by decide +kernel
theorem hd_J0_i1 : yJ0_init_81219.cls ≠ "java/lang/invoke/MethodHandle" ∧ yJ0_init_81219.cls ≠ "java/lang/invoke/VarHandle" ∧ (parseMethodDescriptor yJ0_init_81219.desc).map (fun d => d.parameters.length) = some 1 := by decide +kernel
theorem hb_len : yJ5_length_8abf5.cls ≠ "java/lang/invoke/MethodHandle" ∧ yJ5_length_8abf5.cls ≠ "java/lang/invoke/VarHandle" ∧ (parseMethodDescriptor yJ5_length_8abf5.desc).map (fun d => d.parameters.length) = some 0 := by decide +kernel
section E9R
variable {E : Ev} {p : Program} {l : Launch} {e : Env} {R : Room} {s : State} {m : MethodId} {args : Array Value} {below : List Frame} {meth : Method} {c : Code} {k n nL : Nat} {Q : State → Prop} {cc : ByteArray} {own : String} {pc : Nat} {lv lv' : List (Nat × Value)} {rest st : List Value} {ν ν' : va_W}
theorem gz_ifnn (C : Cq E p s m args meth c cc nL own) {x : Nat} {off : Int} {tgt : Nat} (d : decode cc pc = .ok (.ifnonnull off, 3)) (ht : (pc : Int) + off = (tgt : Int)) (kk : Gz E p l e R s m args below meth c k n nL Q tgt lv rest ν) : Gz E p l e R s m args below meth c k n nL Q pc lv (.ref x :: rest) ν := fun H locs ls hH hS hl => lv_ifnonnull C.1 C.2.1 d ht (kk H locs ls hH hS hl)
theorem gz_null (C : Cq E p s m args meth c cc nL own) (d : decode cc pc = .ok (.aconst_null, 1)) (kk : Gz E p l e R s m args below meth c k n nL Q (pc + 1) lv (.null :: rest) ν) : Gz E p l e R s m args below meth c k n nL Q pc lv rest ν := fun H locs ls hH hS hl => lv_null C.1 C.2.1 d (kk H locs ls hH hS hl)
theorem gz_getsZ (C : Cq E p s m args meth c cc nL own) {Cn nm ds ref : String} {v : Value} {index : Nat} (hZ : va_Z Cn nm ds v (eA E) s s.heap) (w : Cond.fieldLink own index ref nm ds ∈ GW) (hsame : ∀ x, s.fieldFound? Cn nm ds = some x → s.fieldFound? ref nm ds = some x) (d : decode cc pc = .ok (.getstatic index, 3)) (kk : Gz E p l e R s m args below meth c k n nL Q (pc + 3) lv (v :: rest) ν) : Gz E p l e R s m args below meth c k n nL Q pc lv rest ν := fun H locs ls hH hS hl => va_gets C.1 C.2.1 hZ hS C.2.2.2.1 (C.2.2.2.2.1 _ w) hsame d (kk H locs ls hH hS hl)
theorem gz_blen (C : Cq E p s m args meth c cc nL own) (q : Nat) {a n0 : Nat} {f : Nat → Int32} (hq : ν[q]? = some (a, .inl (eC E 0, n0, .inl f))) {v : Int32} (hv : Int32.ofNat n0 = v) (d : decode cc pc = .ok (.arraylength, 1)) (kk : Gz E p l e R s m args below meth c k n nL Q (pc + 1) lv (.int v :: rest) ν) : Gz E p l e R s m args below meth c k n nL Q pc lv (.ref a :: rest) ν := fun H locs ls hH hS hl => va_alen C.1 C.2.1 C.2.2.2.2.2.2.1 hH.1 q 0 hq rfl hv d (kk H locs ls hH hS hl)
theorem gz_aret (C : Cq E p s m args meth c cc nL own) {x : Nat} {rt : FieldType} {mc ms : Nat} (hr : meth.sig.returnType = some rt) (hrt : (∃ n, rt = .object n) ∨ ∃ t, rt = .array t) (d : decode cc pc = .ok (.areturn, 1)) (h1 : k ≤ mc) (h2 : n ≤ ms) : Gz E p l e R s m args below meth c k n nL (MQ below (qQz E (some (.ref x)) ν) args s mc ms (eA E)) pc lv [.ref x] ν := fun H locs ls hH hS hl => W.widen h1 h2 (W.aret C.1 C.2.1 hr hrt (Or.inr ⟨x, rfl⟩) (fun t ht _ => ⟨rfl, hH.sameW ht, hS.F ht⟩) hS.2.2 d (hlocks := C.2.2.2.2.2.1))
theorem gz_mmin (C : Cq E p s m args meth c cc nL own) {index : Nat} {x y : Int32} (w1 : Cond.methodLink own index Lib.Math.min.name ∈ GW) (w2 : Cond.static Lib.Math.min.name ∈ GW) (w3 : Cond.initialized "java/lang/Math" ∈ GW) (w4 : Cond.code Lib.Math.min.name Lib.Math.min.code 2 (some .int) ∈ GW) (hf : 1 ≤ R.frames) (hlo : (rest.map fun v => v.category).sum + 13 ≤ R.locals) (hc : k ≤ R.cells) (hs : n ≤ R.slots) (d : decode cc pc = .ok (.invokestatic index, 3)) (kk : Gz E p l e R s m args below meth c k n nL Q (pc + 3) lv (.int (if y < x then y else x) :: rest) ν) : Gz E p l e R s m args below meth c k n nL Q pc lv (.int y :: .int x :: rest) ν := fun H locs ls hH hS hl => va_mmin C.1 C.2.1 (C.2.2.1.trans hl.1.symm) C.2.2.2.1 (C.2.2.2.2.1 _ w1) (C.2.2.2.2.1 _ w2) (C.2.2.2.2.1 _ w3) (C.2.2.2.2.1 _ w4) hf hlo hc hs d (kk H locs ls hH hS hl)
theorem gz_copyB (C : Cq E p s m args meth c cc nL own) {index : Nat} (q0 q1 : Nat) {a0 a1 n0 n1 : Nat} {f g : Nat → Int32} (ha0 : ν[q0]? = some (a0, .inl (eC E 0, n0, .inl f))) (ha1 : ν[q1]? = some (a1, .inl (eC E 0, n1, .inl g))) {sp dp z : Int32} (h1 : ¬ sp < 0) (h2 : ¬ dp < 0) (h3 : ¬ z < 0) (h4 : sp.toNatClampNeg + z.toNatClampNeg ≤ n0) (h5 : dp.toNatClampNeg + z.toNatClampNeg ≤ n1) (hfit : ∀ i, i < z.toNatClampNeg → fits .byte (.int (f (sp.toNatClampNeg + i))) = true) (w1 : Cond.methodLink own index arraycopyName ∈ GW) (w2 : Cond.native arraycopyName ∈ GW) (w3 : Cond.static arraycopyName ∈ GW) (w4 : Cond.initialized "java/lang/System" ∈ GW) (hf : 1 ≤ R.frames) (hlo : (rest.map fun v => v.category).sum + (nativeFrameWords "java/lang/System" "arraycopy" 5 + 11) ≤ R.locals) (hν : ν.set q1 (a1, .inl (eC E 0, n1, .inl (va_cpy f g sp.toNatClampNeg dp.toNatClampNeg z.toNatClampNeg))) = ν') (d : decode cc pc = .ok (.invokestatic index, 3)) (kk : Gz E p l e R s m args below meth c k n nL Q (pc + 3) lv rest ν') : Gz E p l e R s m args below meth c k n nL Q pc lv (.int z :: .int dp :: .ref a1 :: .int sp :: .ref a0 :: rest) ν := by
  subst hν
  intro H locs ls hH hS hl
  exact va_copyi C.1 C.2.1 (C.2.2.1.trans hl.1.symm) C.2.2.2.1 (C.2.2.2.2.1 _ w1) (C.2.2.2.2.1 _ w2) (C.2.2.2.2.1 _ w3) (C.2.2.2.2.1 _ w4) C.2.2.2.2.2.2.1 hH.1 hH.2 hS q0 q1 0 0 ha0 ha1 rfl rfl rfl h1 h2 h3 h4 h5 hfit hf hlo d (fun H1 locs1 hP hD hS1 => kk H1 locs1 ls ⟨hP, hD⟩ hS1 hl)
theorem gz_clone (C : Cq E p s m args meth c cc nL own) (hU : (eU E).1 = 0) {index : Nat} (q : Nat) {a n0 : Nat} {f : Nat → Int32} (hq : ν[q]? = some (a, .inl (eC E 0, n0, .inl f))) (hfit : Fitb f) (w1 : Cond.methodLink own index ⟨"[B", "clone", "()Ljava/lang/Object;"⟩ ∈ GW) (w2 : Cond.sameMethod "[B" "java/lang/Object" "clone" "()Ljava/lang/Object;" ∈ GW) (w3 : Cond.native ⟨"java/lang/Object", "clone", "()Ljava/lang/Object;"⟩ ∈ GW) (w4 : Cond.instanceMethod ⟨"java/lang/Object", "clone", "()Ljava/lang/Object;"⟩ ∈ GW) (w5 : Cond.selects "[B" ⟨"[B", "clone", "()Ljava/lang/Object;"⟩ ⟨"java/lang/Object", "clone", "()Ljava/lang/Object;"⟩ ∈ GW) (w6 : Cond.castable "[B" "java/lang/Cloneable" ∈ NW) (hf : 1 ≤ R.frames) (hlo : (rest.map fun v => v.category).sum + 14 ≤ R.locals) (hR : k + 1 ≤ R.cells ∧ n + n0 ≤ R.slots) (d : decode cc pc = .ok (.invokevirtual index, 3)) (kk : ∀ y, Gz E p l e R s m args below meth c (k + 1) (n + n0) nL Q (pc + 3) lv (.ref y :: rest) ((y, .inl (eC E 0, n0, .inl f)) :: ν)) : Gz E p l e R s m args below meth c k n nL Q pc lv (.ref a :: rest) ν := by
  intro H locs ls hH hS hl
  refine va_clone C.1 C.2.1 (C.2.2.1.trans hl.1.symm) C.2.2.2.1 (C.2.2.2.2.1 _ w1) (C.2.2.2.2.1 _ w2) (C.2.2.2.2.1 _ w3) (C.2.2.2.2.1 _ w4) (C.2.2.2.2.1 _ w5) (C.2.2.2.2.2.2.2.2.2.2.2.2.2.2.2.2.2.1 _ w6) C.2.2.2.2.2.2.1 hH.1 hH.2 hS (fun z hz => ⟨Nat.le_trans C.2.2.2.2.2.2.2.1 hz, Or.inl hU⟩) q 0 hq rfl ((C.2.2.2.2.2.2.1.2 0 (eC E 0, .byte) rfl).2) (fun i v hv => ?_) hf hlo hR.1 hR.2 d (fun y H1 hK hP hD hS1 => kk y H1 locs ls (hw_perm (List.perm_append_singleton _ _).symm ⟨hP, hD⟩) hS1 hl)
  have hi : i < n0 := by
    have := (Array.getElem?_eq_some_iff.mp hv).1
    have e9 : (vp_cell (eC E 0) (n0, .inl f)).slots.size = n0 := arrV_size _ _ _
    omega
  have hs : (vp_cell (eC E 0) (n0, .inl f)).slots[i]? = some (.int (f i)) := arrV_read _ _ hi
  rw [hs] at hv
  cases hv
  exact hfit i
theorem gz_castA (C : Cq E p s m args meth c cc nL own) {index : Nat} (q : Nat) {a : Nat} {x : vp_A} (hq : ν[q]? = some (a, .inl (eC E 0, x))) (w : Cond.classLink own index "[B" ∈ GW) (d : decode cc pc = .ok (.checkcast index, 3)) (kk : Gz E p l e R s m args below meth c k n nL Q (pc + 3) lv (.ref a :: rest) ν) : Gz E p l e R s m args below meth c k n nL Q pc lv (.ref a :: rest) ν := fun H locs ls hH hS hl => va_castA C.1 C.2.1 C.2.2.2.1 (C.2.2.2.2.1 _ w) hH.1 q hq ((C.2.2.2.2.2.2.1.2 0 (eC E 0, .byte) rfl).2) d (kk H locs ls hH hS hl)
/-! calls, the words out of any good list -/
theorem gz_U {Ts : List Cond} (C : Cq E p s m args meth c cc nL own) (hx : ∀ w ∈ Ts, w.before args s = true) (hG : ∀ Ws : List Cond, (∀ w ∈ Ws, w ∈ Ts) → GoodIn Ts Ws) {y : MethodName} {bytes : ByteArray} {maxL index q a ci : Nat} {ret : Option FieldType} {rm : Room} {As : List Value} {st0 : List Value} {Cn : String} {T : u_T} {N : Nat} {fs : List Value} {P : Option Value → va_W → Prop} {Gs : List Cond} (hM : Cz l E y (Cond.code y bytes maxL ret :: Gs) rm (.ref a :: As) ν P) (hGs : ∀ w ∈ Gs, w ∈ Ts) (hq : ν[q]? = some (a, .inr (ci, fs))) (hc : vwCl[ci]? = some (Cn, T, N)) (w1 : Cond.methodLink own index y ∈ Ts) (w2 : Cond.sameMethod y.cls y.cls y.name y.desc ∈ Ts) (w3 : Cond.selects Cn y y ∈ Ts) (w4 : Cond.instanceMethod y ∈ Ts) (w5 : Cond.initialized y.cls ∈ Ts) (w6 : Cond.code y bytes maxL ret ∈ Ts) (hd : y.cls ≠ "java/lang/invoke/MethodHandle" ∧ y.cls ≠ "java/lang/invoke/VarHandle" ∧ (parseMethodDescriptor y.desc).map (fun d => d.parameters.length) = some As.length) (hR : rm.frames + 1 ≤ R.frames ∧ 8 + (maxL + 11) + rm.locals ≤ R.locals) (hw : (rest.map fun v => v.category).sum ≤ 8) (hf : k + rm.cells ≤ R.cells ∧ n + rm.slots ≤ R.slots) (d : decode cc pc = .ok (.invokevirtual index, 3)) (hst0 : st0 = As.reverse ++ .ref a :: rest)
    (kk : ∀ o ν', P o ν' → Gz E p l e R s m args below meth c (k + rm.cells) (n + rm.slots) nL Q (pc + 3) lv (o.toList ++ rest) ν') : Gz E p l e R s m args below meth c k n nL Q pc lv st0 ν :=
  gz_callS (fun H locs ls hH hS hl => va_runU (C := Cn) (owner := y.cls) (x := y) (y := y) (As := As) (rest := rest) ⟨C.1, C.2.1, C.2.2.1, C.2.2.2.1, hx⟩ hM (va_cwU (Ts := Ts) As.length hx (hG _ (gw_app (P := fun w => w ∈ Ts) (gw_cons w1 (gw_cons w2 (gw_cons w3 (gw_cons w4 (gw_cons w5 gw_nil))))) (gw_cons w6 hGs))) rfl rfl rfl rfl hd hR) ⟨qPz_blind E ν _, va_recv C.2.2.2.2.2.2.1 hH.1 hc hq, fun U hU hW => ⟨rfl, qPz_at hH hS C.2.2.2.2.2.2.1 C.2.2.2.2.2.2.2.1 C.2.2.2.2.2.2.2.2 hU hW⟩⟩ rfl rfl hl.1 hst0 (lv_room hw) d hf) kk
/-- what the class above names, and the object's class overrides -/
theorem gz_O {Ts : List Cond} (C : Cq E p s m args meth c cc nL own) (hx : ∀ w ∈ Ts, w.before args s = true) (hG : ∀ Ws : List Cond, (∀ w ∈ Ws, w ∈ Ts) → GoodIn Ts Ws) {x y : MethodName} {bytes b0 : ByteArray} {maxL m0 index q a ci : Nat} {ret r0 : Option FieldType} {rm : Room} {As : List Value} {st0 : List Value} {Cn : String} {T : u_T} {N : Nat} {fs : List Value} {P : Option Value → va_W → Prop} {Gs : List Cond} (hM : Cz l E y (Cond.code y bytes maxL ret :: Gs) rm (.ref a :: As) ν P) (hGs : ∀ w ∈ Gs, w ∈ Ts) (hq : ν[q]? = some (a, .inr (ci, fs))) (hc : vwCl[ci]? = some (Cn, T, N)) (w1 : Cond.methodLink own index x ∈ Ts) (w2 : Cond.sameMethod x.cls x.cls x.name x.desc ∈ Ts) (w3 : Cond.instanceMethod x ∈ Ts) (w4 : Cond.selects Cn x y ∈ Ts) (w5 : Cond.instanceMethod y ∈ Ts) (w6 : Cond.initialized y.cls ∈ Ts) (w7 : Cond.code y bytes maxL ret ∈ Ts) (w8 : Cond.code x b0 m0 r0 ∈ Ts) (hd : x.cls ≠ "java/lang/invoke/MethodHandle" ∧ x.cls ≠ "java/lang/invoke/VarHandle" ∧ (parseMethodDescriptor x.desc).map (fun d => d.parameters.length) = some As.length) (hR : rm.frames + 1 ≤ R.frames ∧ 8 + (maxL + 11) + rm.locals ≤ R.locals) (hw : (rest.map fun v => v.category).sum ≤ 8) (hf : k + rm.cells ≤ R.cells ∧ n + rm.slots ≤ R.slots) (d : decode cc pc = .ok (.invokevirtual index, 3)) (hst0 : st0 = As.reverse ++ .ref a :: rest)
    (kk : ∀ o ν', P o ν' → Gz E p l e R s m args below meth c (k + rm.cells) (n + rm.slots) nL Q (pc + 3) lv (o.toList ++ rest) ν') : Gz E p l e R s m args below meth c k n nL Q pc lv st0 ν :=
  gz_callS (fun H locs ls hH hS hl => va_runU (C := Cn) (owner := x.cls) (x := x) (y := y) (As := As) (rest := rest) ⟨C.1, C.2.1, C.2.2.1, C.2.2.2.1, hx⟩ hM (va_cwO (Ts := Ts) As.length hx (hG _ (gw_app (P := fun w => w ∈ Ts) (gw_cons w1 (gw_cons w2 (gw_cons w3 (gw_cons w4 (gw_cons w5 (gw_cons w6 gw_nil)))))) (gw_cons w7 hGs))) rfl rfl rfl w8 hd hR) ⟨qPz_blind E ν _, va_recv C.2.2.2.2.2.2.1 hH.1 hc hq, fun U hU hW => ⟨rfl, qPz_at hH hS C.2.2.2.2.2.2.1 C.2.2.2.2.2.2.2.1 C.2.2.2.2.2.2.2.2 hU hW⟩⟩ rfl rfl hl.1 hst0 (lv_room hw) d hf) kk
theorem gz_SU (C : Cq E p s m args meth c cc nL own) {y : MethodName} {bytes : ByteArray} {maxL index q a ci : Nat} {ret : Option FieldType} {rm : Room} {As : List Value} {st0 : List Value} {Cn : String} {T : u_T} {N : Nat} {fs : List Value} {P : Option Value → va_W → Prop} (hM : Cz l E y (Cond.code y bytes maxL ret :: GW) rm (.ref a :: As) ν P) (hq : ν[q]? = some (a, .inr (ci, fs))) (hc : vwCl[ci]? = some (Cn, T, N)) (w1 : Cond.methodLink own index y ∈ GW) (w2 : Cond.sameMethod y.cls y.cls y.name y.desc ∈ GW) (w3 : Cond.superclass own y.cls ∈ GW) (w4 : Cond.instanceMethod y ∈ GW) (w5 : Cond.initialized y.cls ∈ GW) (w6 : Cond.code y bytes maxL ret ∈ GW) (hd : y.name ≠ "<init>" ∧ (parseMethodDescriptor y.desc).map (fun d => d.parameters.length) = some As.length) (hR : rm.frames + 1 ≤ R.frames ∧ 8 + (maxL + 11) + rm.locals ≤ R.locals) (hw : (rest.map fun v => v.category).sum ≤ 8) (hf : k + rm.cells ≤ R.cells ∧ n + rm.slots ≤ R.slots) (d : decode cc pc = .ok (.invokespecial index, 3)) (hst0 : st0 = As.reverse ++ .ref a :: rest)
    (kk : ∀ o ν', P o ν' → Gz E p l e R s m args below meth c (k + rm.cells) (n + rm.slots) nL Q (pc + 3) lv (o.toList ++ rest) ν') : Gz E p l e R s m args below meth c k n nL Q pc lv st0 ν :=
  gz_callS (fun H locs ls hH hS hl => va_runSU (C := Cn) (As := As) (rest := rest) (C.2.2.2.2.2.2.1.1 ci _ hc).2 ⟨C.1, C.2.1, C.2.2.1, C.2.2.2.1, C.2.2.2.2.1⟩ hM (va_cwSU (Ts := GW) As.length C.2.2.2.2.1 (gw_in (gw_app (P := fun w => w ∈ GW) (gw_cons w1 (gw_cons w2 (gw_cons w3 (gw_cons w4 (gw_cons w5 gw_nil))))) (gw_ws w6))) rfl rfl rfl hd hR) ⟨qPz_blind E ν _, va_recv C.2.2.2.2.2.2.1 hH.1 hc hq, fun U hU hW => ⟨rfl, qPz_at hH hS C.2.2.2.2.2.2.1 C.2.2.2.2.2.2.2.1 C.2.2.2.2.2.2.2.2 hU hW⟩⟩ rfl rfl hl.1 hst0 (lv_room hw) d hf) kk
theorem gz_VT {Ts : List Cond} (C : Cq E p s m args meth c cc nL own) (hx : ∀ w ∈ Ts, w.before args s = true) (hG : ∀ Ws : List Cond, (∀ w ∈ Ws, w ∈ Ts) → GoodIn Ts Ws) {y : MethodName} {bytes : ByteArray} {maxL index q a ci : Nat} {ret : Option FieldType} {rm : Room} {As : List Value} {st0 : List Value} {Cn : String} {T : u_T} {N : Nat} {fs : List Value} {P : Option Value → va_W → Prop} {Gs : List Cond} (hM : Cz l E y (Cond.code y bytes maxL ret :: Gs) rm (.ref a :: As) ν P) (hGs : ∀ w ∈ Gs, w ∈ Ts) (hq : ν[q]? = some (a, .inr (ci, fs))) (hc : vwCl[ci]? = some (Cn, T, N)) (w1 : Cond.methodLink own index y ∈ Ts) (w2 : Cond.instanceMethod y ∈ Ts) (w3 : Cond.selects Cn y y ∈ Ts) (w4 : Cond.initialized Cn ∈ Ts) (w5 : Cond.code y bytes maxL ret ∈ Ts) (hd : y.cls = Cn ∧ y.cls ≠ "java/lang/invoke/MethodHandle" ∧ y.cls ≠ "java/lang/invoke/VarHandle" ∧ (parseMethodDescriptor y.desc).map (fun d => d.parameters.length) = some As.length) (hR : rm.frames + 1 ≤ R.frames ∧ 8 + (maxL + 11) + rm.locals ≤ R.locals) (hw : (rest.map fun v => v.category).sum ≤ 8) (hf : k + rm.cells ≤ R.cells ∧ n + rm.slots ≤ R.slots) (d : decode cc pc = .ok (.invokevirtual index, 3)) (hst0 : st0 = As.reverse ++ .ref a :: rest)
    (kk : ∀ o ν', P o ν' → Gz E p l e R s m args below meth c (k + rm.cells) (n + rm.slots) nL Q (pc + 3) lv (o.toList ++ rest) ν') : Gz E p l e R s m args below meth c k n nL Q pc lv st0 ν :=
  gz_callS (fun H locs ls hH hS hl => va_runV (C := Cn) (As := As) (rest := rest) ⟨C.1, C.2.1, C.2.2.1, C.2.2.2.1, hx⟩ hM (cwV As.length hx (hG _ (gw_app (P := fun w => w ∈ Ts) (gw_cons w1 (gw_cons w2 (gw_cons w3 (gw_cons w4 gw_nil)))) (gw_cons w5 hGs))) rfl rfl rfl hd hR) ⟨qPz_blind E ν _, va_recv C.2.2.2.2.2.2.1 hH.1 hc hq, fun U hU hW => ⟨rfl, qPz_at hH hS C.2.2.2.2.2.2.1 C.2.2.2.2.2.2.2.1 C.2.2.2.2.2.2.2.2 hU hW⟩⟩ rfl rfl hl.1 hst0 (lv_room hw) d hf) kk
theorem gz_IT {Ts : List Cond} (C : Cq E p s m args meth c cc nL own) (hx : ∀ w ∈ Ts, w.before args s = true) (hG : ∀ Ws : List Cond, (∀ w ∈ Ws, w ∈ Ts) → GoodIn Ts Ws) {y : MethodName} {bytes : ByteArray} {maxL index a : Nat} {rm : Room} {As : List Value} {st0 : List Value} {P : Option Value → va_W → Prop} {Gs : List Cond} (hM : Cz l E y (Cond.code y bytes maxL none :: Gs) rm (.ref a :: As) ν P) (hGs : ∀ w ∈ Gs, w ∈ Ts) (w1 : Cond.methodLink own index y ∈ Ts) (w2 : Cond.instanceMethod y ∈ Ts) (w3 : Cond.initialized y.cls ∈ Ts) (w5 : Cond.code y bytes maxL none ∈ Ts) (hy : y.name = "<init>") (hd : y.cls ≠ "java/lang/invoke/MethodHandle" ∧ y.cls ≠ "java/lang/invoke/VarHandle" ∧ (parseMethodDescriptor y.desc).map (fun d => d.parameters.length) = some As.length) (hR : rm.frames + 1 ≤ R.frames ∧ 8 + (maxL + 11) + rm.locals ≤ R.locals) (hw : (rest.map fun v => v.category).sum ≤ 8) (hf : k + rm.cells ≤ R.cells ∧ n + rm.slots ≤ R.slots) (d : decode cc pc = .ok (.invokespecial index, 3)) (hst0 : st0 = As.reverse ++ .ref a :: rest)
    (kk : ∀ o ν', P o ν' → Gz E p l e R s m args below meth c (k + rm.cells) (n + rm.slots) nL Q (pc + 3) lv (o.toList ++ rest) ν') : Gz E p l e R s m args below meth c k n nL Q pc lv st0 ν :=
  gz_callS (fun H locs ls hH hS hl => va_runI (As := As) (rest := rest) (b := a) ⟨C.1, C.2.1, C.2.2.1, C.2.2.2.1, hx⟩ hM (cwI As.length hx (hG _ (gw_cons (P := fun w => w ∈ Ts) w5 hGs)) rfl rfl rfl (hx _ w3) (hx _ w1) (hx _ w2) hy hd hR) ⟨qPz_blind E ν _, fun U hU hW => ⟨rfl, qPz_at hH hS C.2.2.2.2.2.2.1 C.2.2.2.2.2.2.2.1 C.2.2.2.2.2.2.2.2 hU hW⟩⟩ rfl rfl hl.1 hst0 (lv_room hw) d hf) kk
/-! a text's method: it changes nothing -/
def eE (E : Ev) : Ev := eM E (eB E) 0 (1, 0)
theorem gz_VE {E1 : Ev} {μ : Mm} (C : Cq E p s m args meth c cc nL own) (hE : E1.1 = E.1 ∧ (E1.2.1 = E.2.1 ∧ (eB E1 = eB E ∧ (eN E1 = 0 ∧ eU E1 = (1, 0))))) {y : MethodName} {bytes : ByteArray} {maxL index a : Nat} {ret : Option FieldType} {rm : Room} {As : List Value} {o : Option Value} {st0 st1 : List Value} (hM : Ct l E1 y (Cond.code y bytes maxL ret :: GW) rm (.ref a :: As) μ o μ) (hO : ∀ (H : Heap) (locs : List Loc), HW E ν H → va_S (eA E) s.heap H locs → ∀ U : State, U.heap = H → s.WarmedH U.vm → Old E1 U) (hrec : ∀ (H : Heap) (locs : List Loc), HW E ν H → va_S (eA E) s.heap H locs → ∃ cell : Cell, H[a]? = some cell ∧ cell.vm.isStatics = false ∧ s.vm.findClass "java/lang/String" = some cell.cls) (w1 : Cond.methodLink own index y ∈ GW) (w2 : Cond.instanceMethod y ∈ GW) (w3 : Cond.selects "java/lang/String" y y ∈ GW) (w4 : Cond.initialized "java/lang/String" ∈ GW) (w5 : Cond.code y bytes maxL ret ∈ GW) (hd : y.cls = "java/lang/String" ∧ y.cls ≠ "java/lang/invoke/MethodHandle" ∧ y.cls ≠ "java/lang/invoke/VarHandle" ∧ (parseMethodDescriptor y.desc).map (fun d => d.parameters.length) = some As.length) (hR : rm.frames + 1 ≤ R.frames ∧ 8 + (maxL + 11) + rm.locals ≤ R.locals) (hw : (rest.map fun v => v.category).sum ≤ 8) (hf : k + rm.cells ≤ R.cells ∧ n + rm.slots ≤ R.slots) (d : decode cc pc = .ok (.invokevirtual index, 3)) (hst0 : st0 = As.reverse ++ .ref a :: rest) (hst1 : o.toList ++ rest = st1)
    (kk : Gz E p l e R s m args below meth c (k + rm.cells) (n + rm.slots) nL Q (pc + 3) lv st1 ν) : Gz E p l e R s m args below meth c k n nL Q pc lv st0 ν := by
  obtain ⟨e1, e2, e3, e4, e5⟩ := hE
  have hA : ∀ q, ¬ eA E1 q := fun q z => by
    have z2 := z.2
    rw [e5] at z2
    rcases z2 with w | w
    · exact absurd w (by decide)
    · exact absurd w (Nat.not_lt_zero q)
  have hwl : ∀ μ : Mm, wl E1 μ = [] := fun μ => by
    unfold wl eL tx
    rw [e4, if_pos (by decide)]
    rfl
  have eT : eTy E1 = eTy E := by
    unfold eTy eC
    rw [e2]
  intro H locs ls hH hS hl
  have hHd : Hd E1 μ H := by
    unfold Hd
    rw [hwl]
    exact And.intro (fun k q hk => absurd hk (by simp)) (And.intro (fun i j p q hp => absurd hp (by simp)) (fun k q hk => absurd hk (by simp)))
  have hr := va_runV (p := p) (l := l) (e := e) (R := R) (s := s) (m := m) (args := args) (below := below) (meth := meth) (c := c) (H := H) (locs := locs) (cells := k) (slots := n) (g := F0 m pc ls st0) (C := "java/lang/String") (As := As) (rest := rest) (b := a) ⟨C.1, C.2.1, C.2.2.1, C.2.2.2.1, C.2.2.2.2.1⟩ hM (cwV As.length C.2.2.2.2.1 (gw_V w1 w2 w3 w4 (gw_ws w5)) rfl rfl rfl hd hR) ⟨qP_blind E1 μ _, hrec H locs hH hS, fun U hU hW => ⟨rfl, by rw [hU]; exact hHd, by rw [e1, eT]; exact va_K.moved hW.alike C.2.2.2.2.2.2.1, by rw [e3, hU]; exact Nat.le_trans C.2.2.2.2.2.2.2.1 hS.1, hO H locs hH hS U hU hW⟩⟩ rfl rfl hl.1 hst0 (lv_room hw) d hf
  intro T hT X
  obtain ⟨v, st₀, t, T', L, h0, X', hL, z1, z2, ⟨hv, hP', hF⟩, st⟩ := hr T hT X
  cases hv
  obtain ⟨k1, k2, k3⟩ := vx_keep (A0 := eA E) (A1 := eA E1) h0 z1 hS (fun q _ h => absurd h (hA q)) (fun q h => absurd h (hA q)) hL hF
  have hW2 : HW E ν T'.heap := by
    obtain ⟨h1, h2, h3⟩ := hw_iff.mp hH
    exact hw_iff.mpr ⟨fun q hq => (h1 q hq).kept (k2 _ (h1 q hq).lt (hA _)), h2, h3⟩
  subst hst1
  obtain ⟨t2, a1, b1⟩ := kk T'.heap (locs ++ L) ls hW2 k3 hl T' rfl X'
  exact ⟨t2, st t2 a1, b1⟩
theorem eE_ok : (eE E).1 = E.1 ∧ ((eE E).2.1 = E.2.1 ∧ (eB (eE E) = eB E ∧ (eN (eE E) = 0 ∧ eU (eE E) = (1, 0)))) := ⟨rfl, rfl, rfl, rfl, rfl⟩
/-- .. of a literal -/
theorem gz_VL {μ : Mm} (C : Cq E p s m args meth c cc nL own) (hU : (eU E).1 = 0) {y : MethodName} {bytes : ByteArray} {maxL index w : Nat} {ret : Option FieldType} {rm : Room} {As : List Value} {o : Option Value} {st0 st1 : List Value} (hM : Ct l (eE E) y (Cond.code y bytes maxL ret :: GW) rm (.ref (eK E w) :: As) μ o μ) (hw9 : w < 23) (w1 : Cond.methodLink own index y ∈ GW) (w2 : Cond.instanceMethod y ∈ GW) (w3 : Cond.selects "java/lang/String" y y ∈ GW) (w4 : Cond.initialized "java/lang/String" ∈ GW) (w5 : Cond.code y bytes maxL ret ∈ GW) (hd : y.cls = "java/lang/String" ∧ y.cls ≠ "java/lang/invoke/MethodHandle" ∧ y.cls ≠ "java/lang/invoke/VarHandle" ∧ (parseMethodDescriptor y.desc).map (fun d => d.parameters.length) = some As.length) (hR : rm.frames + 1 ≤ R.frames ∧ 8 + (maxL + 11) + rm.locals ≤ R.locals) (hw : (rest.map fun v => v.category).sum ≤ 8) (hf : k + rm.cells ≤ R.cells ∧ n + rm.slots ≤ R.slots) (d : decode cc pc = .ok (.invokevirtual index, 3)) (hst0 : st0 = As.reverse ++ .ref (eK E w) :: rest) (hst1 : o.toList ++ rest = st1)
    (kk : Gz E p l e R s m args below meth c (k + rm.cells) (n + rm.slots) nL Q (pc + 3) lv st1 ν) : Gz E p l e R s m args below meth c k n nL Q pc lv st0 ν :=
  gz_VE C eE_ok hM (fun H locs hH hS U hU2 hW => eM_old hU (Nat.le_refl _) (Old.to hW (by rw [hU2]; exact hS) C.2.2.2.2.2.2.2.2)) (fun H locs hH hS => vk_recv (i := 0) (C.2.2.2.2.2.2.2.2.2.1 w hw9) (by decide) hS) w1 w2 w3 w4 w5 hd hR hw hf d hst0 hst1 kk
end E9R
theorem gz_SX {E : Ev} {p : Program} {l : Launch} {e : Env} {R : Room} {s : State} {m : MethodId} {args : Array Value} {below : List Frame} {meth : Method} {c : Code} {k n nL : Nat} {Q : State → Prop} {cc : ByteArray} {own : String} {pc : Nat} {lv : List (Nat × Value)} {rest : List Value} {ν : va_W} (C : Cq E p s m args meth c cc nL own) {y : MethodName} {bytes : ByteArray} {maxL index : Nat} {ret : Option FieldType} {rm : Room} {As : List Value} {st0 : List Value} {P : Option Value → va_W → Prop} (hM : Cz l E y (Cond.code y bytes maxL ret :: GW) rm As ν P) (w1 : Cond.methodLink own index y ∈ GW) (w2 : Cond.static y ∈ GW) (w4 : Cond.initialized y.cls ∈ GW) (w5 : Cond.code y bytes maxL ret ∈ GW) (hd : y.cls ≠ "java/lang/invoke/MethodHandle" ∧ y.cls ≠ "java/lang/invoke/VarHandle" ∧ (parseMethodDescriptor y.desc).map (fun d => d.parameters.length) = some As.length) (hR : rm.frames + 1 ≤ R.frames ∧ 8 + (maxL + 11) + rm.locals ≤ R.locals) (hw : (rest.map fun v => v.category).sum ≤ 8) (hf : k + rm.cells ≤ R.cells ∧ n + rm.slots ≤ R.slots) (d : decode cc pc = .ok (.invokestatic index, 3)) (hst0 : st0 = As.reverse ++ rest)
    (kk : ∀ o ν', P o ν' → Gz E p l e R s m args below meth c (k + rm.cells) (n + rm.slots) nL Q (pc + 3) lv (o.toList ++ rest) ν') : Gz E p l e R s m args below meth c k n nL Q pc lv st0 ν :=
  gz_callS (fun H locs ls hH hS hl => va_runS (As := As) (rest := rest) ⟨C.1, C.2.1, C.2.2.1, C.2.2.2.1, C.2.2.2.2.1⟩ hM (va_cwS As.length C.2.2.2.2.1 (gw_in (gw_app (P := fun w => w ∈ GW) (gw_cons w1 (gw_cons w2 (gw_cons w4 gw_nil))) (gw_ws w5))) rfl rfl rfl hd hR) ⟨qPz_blind E ν _, fun U hU hW => ⟨rfl, qPz_at hH hS C.2.2.2.2.2.2.1 C.2.2.2.2.2.2.2.1 C.2.2.2.2.2.2.2.2 hU hW⟩⟩ rfl rfl hl.1 hst0 (lv_room hw) d hf) kk
theorem df_J0 : ∀ j, j < 4 → defaultValue (tyJ0 j) = vp_V [.null, .int 0, .int 0, .int 0] j := by
  intro j hj
  rcases (show j = 0 ∨ j = 1 ∨ j = 2 ∨ j = 3 by omega) with rfl | rfl | rfl | rfl <;> rfl
abbrev rm_s0 : Room := { frames := 0, cells := 0, slots := 0, locals := 0 }
abbrev rm_cr (z : Nat) : Room := { frames := 2, cells := 1, slots := z, locals := 60 }
abbrev rm_cr2 (z : Nat) : Room := { frames := 3, cells := 1, slots := z, locals := 110 }
abbrev rm_si (z : Nat) : Room := { frames := 4, cells := 1, slots := z, locals := 150 }
abbrev rm_sj (z : Nat) : Room := { frames := 5, cells := 1, slots := z, locals := 190 }
abbrev rm_ts (z : Nat) : Room := { frames := 6, cells := 2, slots := z + 4, locals := 230 }
/-- a text that was made of a builder -/
def CopP (E : Ev) (ν : va_W) (z : Nat) (f : Nat → Int32) (y : Nat) (gg : Nat → Int32) (ν' : va_W) : Prop := (∀ k, k < z → gg k = f k) ∧ (Fitb gg ∧ ν' = (y, .inl (eC E 0, z, .inl gg)) :: ν)
section E9C
variable {l : Launch} {E : Ev} {ν : va_W} {a bb q1 q2 z cap : Nat} {mb : Int32} {f : Nat → Int32}
set_option maxHeartbeats 4000000 in
set_option maxRecDepth 100000 in
theorem z_getValue (hq : ν[q1]? = some (a, .inr (1, [.ref bb, .int 0, .int mb, .int (nI z)]))) : Cz l E yJ5_getValue_6d5f1 (Cond.code yJ5_getValue_6d5f1 cJ5_getValue_6d5f1 1 (some (.array .byte)) :: GW) rm_s0 [.ref a] ν (fun o ν' => o = some (.ref bb) ∧ ν' = ν) := by
  refine cz_of (by decide) (Nat.le_of_ble_eq_true rfl) (fun p e s m args below meth c C hnm hr => ?_)
  have C : Cq E p s m args meth c cJ5_getValue_6d5f1 1 RJ5 := C
  refine gz_lv (lv' := [(0, .ref a)]) rfl ?_
  refine gz_aload_n C dJ5_getValue_6d5f1_0 rfl 0 rfl ?_
  refine gz_get (ci := 1) (N := 4) (T := TJ4) C inG_J4 q1 hq rfl 0 (by decide) wk_3_43 rfl dJ5_getValue_6d5f1_1 ?_
  exact gz_end (o := some (.ref bb)) ⟨rfl, rfl⟩ (gz_aret C hr (Or.inr ⟨_, rfl⟩) dJ5_getValue_6d5f1_4 (Nat.le_of_ble_eq_true rfl) (Nat.le_of_ble_eq_true rfl))
set_option maxHeartbeats 4000000 in
set_option maxRecDepth 100000 in
theorem z_length (hq : ν[q1]? = some (a, .inr (1, [.ref bb, .int 0, .int mb, .int (nI z)]))) : Cz l E yJ5_length_8abf5 (Cond.code yJ5_length_8abf5 cJ5_length_8abf5 1 (some .int) :: GW) rm_s0 [.ref a] ν (fun o ν' => o = some (.int (nI z)) ∧ ν' = ν) := by
  refine cz_of (by decide) (Nat.le_of_ble_eq_true rfl) (fun p e s m args below meth c C hnm hr => ?_)
  have C : Cq E p s m args meth c cJ5_length_8abf5 1 RJ5 := C
  refine gz_lv (lv' := [(0, .ref a)]) rfl ?_
  refine gz_aload_n C dJ5_length_8abf5_0 rfl 0 rfl ?_
  refine gz_get (ci := 1) (N := 4) (T := TJ4) C inG_J4 q1 hq rfl 3 (by decide) wk_3_46 rfl dJ5_length_8abf5_1 ?_
  exact gz_end (o := some (.int (nI z))) ⟨rfl, rfl⟩ (gz_iret C hr dJ5_length_8abf5_4 (Nat.le_of_ble_eq_true rfl) (Nat.le_of_ble_eq_true rfl))
set_option maxHeartbeats 4000000 in
set_option maxRecDepth 100000 in
theorem z_lengthB (hq : ν[q1]? = some (a, .inr (1, [.ref bb, .int 0, .int mb, .int (nI z)]))) : Cz l E yJ4_length_8abf5 (Cond.code yJ4_length_8abf5 cJ4_length_8abf5 1 (some .int) :: GW) { frames := 1, cells := 0, slots := 0, locals := 40 } [.ref a] ν (fun o ν' => o = some (.int (nI z)) ∧ ν' = ν) := by
  refine cz_of (by decide) (Nat.le_of_ble_eq_true rfl) (fun p e s m args below meth c C hnm hr => ?_)
  have C : Cq E p s m args meth c cJ4_length_8abf5 1 RJ4 := C
  refine gz_lv (lv' := [(0, .ref a)]) rfl ?_
  refine gz_aload_n C dJ4_length_8abf5_0 rfl 0 rfl ?_
  refine gz_SU (As := []) (rest := []) (q := q1) C (z_length hq) hq rfl wk_4_43 wk_4_39 wk_3_55 wk_4_38 wk_1_7 wk_4_44 hs_len ⟨(Nat.le_of_ble_eq_true rfl), (Nat.le_of_ble_eq_true rfl)⟩ (Nat.le_of_ble_eq_true rfl) ⟨(Nat.le_of_ble_eq_true rfl), (Nat.le_of_ble_eq_true rfl)⟩ dJ4_length_8abf5_1 rfl (fun o ν' hP => ?_)
  obtain ⟨rfl, rfl⟩ := hP
  exact gz_end (o := some (.int (nI z))) ⟨rfl, rfl⟩ (gz_iret C hr dJ4_length_8abf5_4 (Nat.le_of_ble_eq_true rfl) (Nat.le_of_ble_eq_true rfl))
set_option maxHeartbeats 4000000 in
set_option maxRecDepth 100000 in
theorem z_isLatin1 (hq : ν[q1]? = some (a, .inr (1, [.ref bb, .int 0, .int mb, .int (nI z)]))) : Cz l E yJ5_isLatin1_aae02 (Cond.code yJ5_isLatin1_aae02 cJ5_isLatin1_aae02 1 (some .boolean) :: GW) rm_s0 [.ref a] ν (fun o ν' => o = some (.int 1) ∧ ν' = ν) := by
  refine cz_of (by decide) (Nat.le_of_ble_eq_true rfl) (fun p e s m args below meth c C hnm hr => ?_)
  have C : Cq E p s m args meth c cJ5_isLatin1_aae02 1 RJ5 := C
  refine gz_lv (lv' := [(0, .ref a)]) rfl ?_
  refine gz_getsZ C C.2.2.2.2.2.2.2.2.2.2.2.2.1 wk_3_34 (fun _ h => h) dJ5_isLatin1_aae02_0 ?_
  refine gz_if_eq_f (tgt := 17) C dJ5_isLatin1_aae02_3 (by decide) (by decide) ?_
  refine gz_aload_n C dJ5_isLatin1_aae02_6 rfl 0 rfl ?_
  refine gz_get (ci := 1) (N := 4) (T := TJ4) C inG_J4 q1 hq rfl 1 (by decide) wk_3_44 rfl dJ5_isLatin1_aae02_7 ?_
  refine gz_if_ne_f (tgt := 17) C dJ5_isLatin1_aae02_10 (by decide) rfl ?_
  refine gz_iconst (v := 1) C dJ5_isLatin1_aae02_13 (by decide) ?_
  refine gz_goto (tgt := 18) C dJ5_isLatin1_aae02_14 (by decide) ?_
  exact gz_end (o := some (.int 1)) ⟨rfl, rfl⟩ (gz_zret C hr (by decide) dJ5_isLatin1_aae02_18 (Nat.le_of_ble_eq_true rfl) (Nat.le_of_ble_eq_true rfl))
set_option maxHeartbeats 4000000 in
set_option maxRecDepth 100000 in
theorem z_checkLength (hz : z < 2 ^ 30) : Cz l E yJ7_checkLength_df160 (Cond.code yJ7_checkLength_df160 cJ7_checkLength_df160 2 none :: GW) rm_s0 [.int 0, .int (nI z)] ν (fun o ν' => o = none ∧ ν' = ν) := by
  refine cz_of (by decide) (Nat.le_of_ble_eq_true rfl) (fun p e s m args below meth c C hnm hr => ?_)
  have C : Cq E p s m args meth c cJ7_checkLength_df160 2 RJ7 := C
  refine gz_lv (lv' := [(0, .int 0), (1, .int (nI z))]) rfl ?_
  refine gz_iload_n C dJ7_checkLength_df160_0 rfl 1 rfl ?_
  refine gz_iload_n C dJ7_checkLength_df160_1 rfl 0 rfl ?_
  refine gz_icmp_ge_t (tgt := 37) C dJ7_checkLength_df160_2 (by decide) (nI_pos' (by omega)) ?_
  exact gz_end (o := none) ⟨rfl, rfl⟩ (gz_vret C hr dJ7_checkLength_df160_37 (Nat.le_of_ble_eq_true rfl) (Nat.le_of_ble_eq_true rfl))
set_option maxHeartbeats 4000000 in
set_option maxRecDepth 100000 in
theorem z_copyRB (hU : (eU E).1 = 0) (hq : ν[q2]? = some (bb, .inl (eC E 0, cap, .inl f))) (hz : z ≤ cap) (hc : cap ≤ 2048) (hf : Fitb f) : Cz l E yJ7_copyOfRangeByte_39247 (Cond.code yJ7_copyOfRangeByte_39247 cJ7_copyOfRangeByte_39247 5 (some (.array .byte)) :: GW) (rm_cr z) [.ref bb, .int 0, .int (nI z)] ν (fun o ν' => ∃ y gg, o = some (.ref y) ∧ CopP E ν z f y gg ν') := by
  refine cz_of (by decide) (Nat.le_of_ble_eq_true rfl) (fun p e s m args below meth c C hnm hr => ?_)
  have C : Cq E p s m args meth c cJ7_copyOfRangeByte_39247 5 RJ7 := C
  refine gz_lv (lv' := [(0, .ref bb), (1, .int 0), (2, .int (nI z))]) rfl ?_
  refine gz_iload_n C dJ7_copyOfRangeByte_39247_0 rfl 1 rfl ?_
  refine gz_iload_n C dJ7_copyOfRangeByte_39247_1 rfl 2 rfl ?_
  refine gz_S (As := [.int 0, .int (nI z)]) (rest := []) C (z_checkLength (by omega)) wk_4_52 wk_4_53 wk_1_13 wk_4_54 hd_J7_ck ⟨(Nat.le_of_ble_eq_true rfl), (Nat.le_of_ble_eq_true rfl)⟩ (Nat.le_of_ble_eq_true rfl) ⟨Nat.zero_le _, Nat.zero_le _⟩ dJ7_copyOfRangeByte_39247_2 rfl (fun o ν' hP => ?_)
  obtain ⟨rfl, hv9⟩ := hP
  rw [hv9]
  refine gz_iload_n C dJ7_copyOfRangeByte_39247_5 rfl 2 rfl ?_
  refine gz_iload_n C dJ7_copyOfRangeByte_39247_6 rfl 1 rfl ?_
  refine gz_isub C dJ7_copyOfRangeByte_39247_7 ?_
  rw [show nI z - 0 = nI z from Int32.sub_zero _]
  refine gz_istore_n (i := 3) C dJ7_copyOfRangeByte_39247_8 rfl (by decide) rfl ?_
  refine gz_iload_n C dJ7_copyOfRangeByte_39247_9 rfl 0 rfl ?_
  refine gz_newa (atype := .byte) (ty := .byte) (a0 := (z, .inl (fun _ => 0))) (N := z) C hU wk_1_100 rfl 0 rfl (fun _ _ h => h) (fun _ => rfl) (nI_pos (by omega)) (nI_clamp (by omega)) (by show z * 1 ≤ 536870912; omega) ⟨by show 0 + 0 + 1 ≤ 1; omega, by show 0 + 0 + z ≤ z; omega⟩ dJ7_copyOfRangeByte_39247_10 (fun y hy1 hy2 hy3 => ?_)
  refine gz_astore (i := 4) C dJ7_copyOfRangeByte_39247_12 (by decide) rfl ?_
  refine gz_aload_n C dJ7_copyOfRangeByte_39247_14 rfl 2 rfl ?_
  refine gz_iload_n C dJ7_copyOfRangeByte_39247_15 rfl 3 rfl ?_
  refine gz_aload C dJ7_copyOfRangeByte_39247_16 0 rfl ?_
  refine gz_iconst (v := 0) C dJ7_copyOfRangeByte_39247_18 (by decide) ?_
  refine gz_aload_n C dJ7_copyOfRangeByte_39247_19 rfl 2 rfl ?_
  refine gz_blen (v := nI cap) C (q2 + 1) hq rfl dJ7_copyOfRangeByte_39247_20 ?_
  refine gz_iload_n C dJ7_copyOfRangeByte_39247_21 rfl 3 rfl ?_
  refine gz_isub C dJ7_copyOfRangeByte_39247_22 ?_
  rw [show nI cap - 0 = nI cap from Int32.sub_zero _]
  refine gz_iload_n C dJ7_copyOfRangeByte_39247_23 rfl 1 rfl ?_
  refine gz_mmin C wk_3_156 wk_2_33 wk_1_12 wk_2_34 (Nat.le_of_ble_eq_true rfl) (Nat.le_of_ble_eq_true rfl) (by show 0 + 0 + 1 ≤ 1; omega) (by show 0 + 0 + z ≤ z; omega) dJ7_copyOfRangeByte_39247_24 ?_
  have hmin : (if nI z < nI cap then nI z else nI cap) = nI z := by
    by_cases e9 : z < cap
    · rw [if_pos (nI_lt e9 (by omega))]
    · obtain rfl : z = cap := by omega
      rw [if_neg (nI_nlt (Nat.le_refl _) (by omega))]
  rw [hmin]
  refine gz_copyB (ν' := (y, .inl (eC E 0, z, .inl (va_cpy f (fun _ => 0) 0 0 z))) :: ν) C (q2 + 1) 0 hq rfl (by decide) (by decide) (nI_pos (by omega)) (by rw [nI_clamp (by omega)]; show 0 + z ≤ cap; omega) (by rw [nI_clamp (by omega)]; show 0 + z ≤ z; omega) (fun i _ => hf _) wk_3_157 wk_1_231 wk_1_230 wk_1_14 (Nat.le_of_ble_eq_true rfl) (Nat.le_of_ble_eq_true rfl) (by rw [nI_clamp (by omega)]; rfl) dJ7_copyOfRangeByte_39247_27 ?_
  refine gz_aload C dJ7_copyOfRangeByte_39247_30 0 rfl ?_
  refine gz_end (o := some (.ref y)) (ν' := (y, .inl (eC E 0, z, .inl (va_cpy f (fun _ => 0) 0 0 z))) :: ν) ⟨y, _, rfl, fun k hk => ?_, fun k => ?_, rfl⟩ (gz_aret C hr (Or.inr ⟨_, rfl⟩) dJ7_copyOfRangeByte_39247_32 (by show 0 + 0 + 1 ≤ 1; omega) (by show 0 + 0 + z ≤ z; omega))
  · show (if 0 ≤ k ∧ k < 0 + z then f (0 + (k - 0)) else 0) = _
    rw [if_pos (by omega), show 0 + (k - 0) = k by omega]
  · show fits .byte (.int (if 0 ≤ k ∧ k < 0 + z then f (0 + (k - 0)) else 0)) = true
    split
    · exact hf _
    · exact fit_0
set_option maxHeartbeats 4000000 in
set_option maxRecDepth 100000 in
theorem z_copyR (hU : (eU E).1 = 0) (hq : ν[q2]? = some (bb, .inl (eC E 0, cap, .inl f))) (hz : z ≤ cap) (hc : cap ≤ 2048) (hf : Fitb f) : Cz l E yJ7_copyOfRange_39247 (Cond.code yJ7_copyOfRange_39247 cJ7_copyOfRange_39247 3 (some (.array .byte)) :: GW) (rm_cr2 z) [.ref bb, .int 0, .int (nI z)] ν (fun o ν' => ∃ y gg, o = some (.ref y) ∧ CopP E ν z f y gg ν') := by
  refine cz_of (by decide) (Nat.le_of_ble_eq_true rfl) (fun p e s m args below meth c C hnm hr => ?_)
  have C : Cq E p s m args meth c cJ7_copyOfRange_39247 3 RJ7 := C
  refine gz_lv (lv' := [(0, .ref bb), (1, .int 0), (2, .int (nI z))]) rfl ?_
  refine gz_iload_n C dJ7_copyOfRange_39247_0 rfl 1 rfl ?_
  refine gz_if_ne_f (tgt := 10) C dJ7_copyOfRange_39247_1 (by decide) rfl ?_
  refine gz_iload_n C dJ7_copyOfRange_39247_4 rfl 2 rfl ?_
  refine gz_aload_n C dJ7_copyOfRange_39247_5 rfl 0 rfl ?_
  refine gz_blen (v := nI cap) C q2 hq rfl dJ7_copyOfRange_39247_6 ?_
  by_cases e9 : z = cap
  · subst e9
    refine gz_icmp_eq_t (tgt := 17) C dJ7_copyOfRange_39247_7 (by decide) rfl ?_
    refine gz_aload_n C dJ7_copyOfRange_39247_17 rfl 0 rfl ?_
    refine gz_clone C hU q2 hq hf wk_3_149 wk_3_150 wk_3_151 wk_3_152 wk_3_153 wk_3_154 (Nat.le_of_ble_eq_true rfl) (Nat.le_of_ble_eq_true rfl) ⟨by show 0 + 1 ≤ 1; omega, by show 0 + z ≤ z; omega⟩ dJ7_copyOfRange_39247_18 (fun y => ?_)
    refine gz_castA C 0 rfl wk_3_155 dJ7_copyOfRange_39247_21 ?_
    exact gz_end (o := some (.ref y)) ⟨y, f, rfl, fun _ _ => rfl, hf, rfl⟩ (gz_aret C hr (Or.inr ⟨_, rfl⟩) dJ7_copyOfRange_39247_24 (by show 0 + 1 ≤ 1; omega) (by show 0 + z ≤ z; omega))
  · refine gz_icmp_eq_f (tgt := 17) C dJ7_copyOfRange_39247_7 (by decide) (fun w => e9 (nI_inj (by omega) (by omega) w)) ?_
    refine gz_aload_n C dJ7_copyOfRange_39247_10 rfl 0 rfl ?_
    refine gz_iload_n C dJ7_copyOfRange_39247_11 rfl 1 rfl ?_
    refine gz_iload_n C dJ7_copyOfRange_39247_12 rfl 2 rfl ?_
    refine gz_S (As := [.ref bb, .int 0, .int (nI z)]) (rest := []) C (z_copyRB hU hq hz hc hf) wk_4_49 wk_4_50 wk_1_13 wk_4_51 hd_J7_cb ⟨(Nat.le_of_ble_eq_true rfl), (Nat.le_of_ble_eq_true rfl)⟩ (Nat.le_of_ble_eq_true rfl) ⟨by show 0 + 1 ≤ 1; omega, by show 0 + z ≤ z; omega⟩ dJ7_copyOfRange_39247_13 rfl (fun o ν' hP => ?_)
    have hP2 := hP
    obtain ⟨y, gg, rfl, -⟩ := hP
    exact gz_end (o := some (.ref y)) hP2 (gz_aret C hr (Or.inr ⟨_, rfl⟩) dJ7_copyOfRange_39247_16 (by show 0 + 1 ≤ 1; omega) (by show 0 + z ≤ z; omega))
variable {xx : Nat}
set_option maxHeartbeats 4000000 in
set_option maxRecDepth 100000 in
theorem z_init2 (hU : (eU E).1 = 0) (hq1 : ν[q1]? = some (a, .inr (1, [.ref bb, .int 0, .int mb, .int (nI z)]))) (hq2 : ν[q2]? = some (bb, .inl (eC E 0, cap, .inl f))) (hz : z ≤ cap) (hc : cap ≤ 2048) (hf : Fitb f) : Cz l E yJ0_init_db425 (Cond.code yJ0_init_db425 cJ0_init_db425 5 none :: GW) (rm_si z) [.ref xx, .ref a, .null] ((xx, .inr (0, [.null, .int 0, .int 0, .int 0])) :: ν) (fun o ν' => o = none ∧ ∃ y gg, (∀ k, k < z → gg k = f k) ∧ (Fitb gg ∧ ν' = (y, .inl (eC E 0, z, .inl gg)) :: (xx, .inr (0, [.ref y, .int 0, .int 0, .int 0])) :: ν)) := by
  refine cz_of (by decide) (Nat.le_of_ble_eq_true rfl) (fun p e s m args below meth c C hnm hr => ?_)
  have C : Cq E p s m args meth c cJ0_init_db425 5 RJ0 := C
  refine gz_lv (lv' := [(0, .ref xx), (1, .ref a), (2, .null)]) rfl ?_
  refine gz_aload_n C dJ0_init_db425_0 rfl 0 rfl ?_
  refine gz_obj C wk_4_31 wk_1_56 wk_1_57 ⟨(Nat.le_of_ble_eq_true rfl), (Nat.le_of_ble_eq_true rfl)⟩ dJ0_init_db425_1 ?_
  refine gz_aload_n C dJ0_init_db425_4 rfl 1 rfl ?_
  refine gz_U (As := []) (rest := []) (q := q1 + 1) C C.2.2.2.2.1 (fun _ h => gw_in h) (z_getValue (q1 := q1 + 1) hq1) (fun _ h => h) hq1 rfl wk_4_32 wk_4_34 wk_4_35 wk_4_33 wk_1_7 wk_4_36 hb_gv ⟨(Nat.le_of_ble_eq_true rfl), (Nat.le_of_ble_eq_true rfl)⟩ (Nat.le_of_ble_eq_true rfl) ⟨Nat.zero_le _, Nat.zero_le _⟩ dJ0_init_db425_5 rfl (fun o ν' hP => ?_)
  obtain ⟨rfl, rfl⟩ := hP
  refine gz_astore_n (i := 3) C dJ0_init_db425_8 rfl (by decide) rfl ?_
  refine gz_aload_n C dJ0_init_db425_9 rfl 2 rfl ?_
  refine gz_O (As := []) (rest := []) (q := q1 + 1) C C.2.2.2.2.1 (fun _ h => gw_in h) (z_lengthB (q1 := q1 + 1) hq1) (fun _ h => h) hq1 rfl wk_4_37 wk_4_39 wk_4_38 wk_4_40 wk_4_41 wk_1_8 wk_4_42 wk_4_44 hb_len ⟨(Nat.le_of_ble_eq_true rfl), (Nat.le_of_ble_eq_true rfl)⟩ (Nat.le_of_ble_eq_true rfl) ⟨Nat.zero_le _, Nat.zero_le _⟩ dJ0_init_db425_10 rfl (fun o ν' hP => ?_)
  obtain ⟨rfl, rfl⟩ := hP
  refine gz_istore (i := 4) C dJ0_init_db425_13 (by decide) rfl ?_
  refine gz_aload_n C dJ0_init_db425_15 rfl 3 rfl ?_
  refine gz_U (As := []) (rest := []) (q := q1 + 1) C C.2.2.2.2.1 (fun _ h => gw_in h) (z_isLatin1 (q1 := q1 + 1) hq1) (fun _ h => h) hq1 rfl wk_4_45 wk_3_160 wk_3_161 wk_3_159 wk_1_7 wk_3_162 hb_lat ⟨(Nat.le_of_ble_eq_true rfl), (Nat.le_of_ble_eq_true rfl)⟩ (Nat.le_of_ble_eq_true rfl) ⟨Nat.zero_le _, Nat.zero_le _⟩ dJ0_init_db425_16 rfl (fun o ν' hP => ?_)
  obtain ⟨rfl, rfl⟩ := hP
  refine gz_if_eq_f (tgt := 41) C dJ0_init_db425_19 (by decide) (by decide) ?_
  refine gz_aload_n C dJ0_init_db425_22 rfl 2 rfl ?_
  refine gz_iconst (v := 0) C dJ0_init_db425_23 (by decide) ?_
  refine gz_putF (ci := 0) (N := 4) (T := TJ0) (ν' := (xx, .inr (0, [.null, .int 0, .int 0, .int 0])) :: ν) C hnm inG_J0 tyJ0 tyJ0_ok nmJ0 0 rfl rfl 1 (by decide) wk_4_69 rfl rfl rfl rfl rfl (Nat.le_of_ble_eq_true rfl) rfl dJ0_init_db425_24 ?_
  refine gz_aload_n C dJ0_init_db425_27 rfl 2 rfl ?_
  refine gz_aload_n C dJ0_init_db425_28 rfl 1 rfl ?_
  refine gz_iconst (v := 0) C dJ0_init_db425_29 (by decide) ?_
  refine gz_iload C dJ0_init_db425_30 0 rfl ?_
  refine gz_SX (As := [.ref bb, .int 0, .int (nI z)]) (rest := [.ref xx]) C (z_copyR (q2 := q2 + 1) hU hq2 hz hc hf) wk_4_46 wk_4_47 wk_1_13 wk_4_48 hd_J7_cr ⟨(Nat.le_of_ble_eq_true rfl), (Nat.le_of_ble_eq_true rfl)⟩ (Nat.le_of_ble_eq_true rfl) ⟨by show 0 + 0 + 0 + 0 + 1 ≤ 1; omega, by show 0 + 0 + 0 + 0 + z ≤ z; omega⟩ dJ0_init_db425_32 rfl (fun o ν' hP => ?_)
  obtain ⟨y, gg, rfl, g1, g2, rfl⟩ := hP
  refine gz_putF (ci := 0) (N := 4) (T := TJ0) (ν' := (y, .inl (eC E 0, z, .inl gg)) :: (xx, .inr (0, [.ref y, .int 0, .int 0, .int 0])) :: ν) C hnm inG_J0 tyJ0 tyJ0_ok nmJ0 1 rfl rfl 0 (by decide) wk_4_68 rfl rfl rfl rfl rfl (Nat.le_of_ble_eq_true rfl) rfl dJ0_init_db425_35 ?_
  refine gz_goto (tgt := 97) C dJ0_init_db425_38 (by decide) ?_
  exact gz_end (o := none) ⟨rfl, y, gg, g1, g2, rfl⟩ (gz_vret C hr dJ0_init_db425_97 (by show 0 + 0 + 0 + 0 + 1 ≤ 1; omega) (by show 0 + 0 + 0 + 0 + z ≤ z; omega))
set_option maxHeartbeats 4000000 in
set_option maxRecDepth 100000 in
theorem z_init1 (hU : (eU E).1 = 0) (hq1 : ν[q1]? = some (a, .inr (1, [.ref bb, .int 0, .int mb, .int (nI z)]))) (hq2 : ν[q2]? = some (bb, .inl (eC E 0, cap, .inl f))) (hz : z ≤ cap) (hc : cap ≤ 2048) (hf : Fitb f) : Cz l E yJ0_init_81219 (Cond.code yJ0_init_81219 cJ0_init_81219 2 none :: GW) (rm_sj z) [.ref xx, .ref a] ((xx, .inr (0, [.null, .int 0, .int 0, .int 0])) :: ν) (fun o ν' => o = none ∧ ∃ y gg, (∀ k, k < z → gg k = f k) ∧ (Fitb gg ∧ ν' = (y, .inl (eC E 0, z, .inl gg)) :: (xx, .inr (0, [.ref y, .int 0, .int 0, .int 0])) :: ν)) := by
  refine cz_of (by decide) (Nat.le_of_ble_eq_true rfl) (fun p e s m args below meth c C hnm hr => ?_)
  have C : Cq E p s m args meth c cJ0_init_81219 2 RJ0 := C
  refine gz_lv (lv' := [(0, .ref xx), (1, .ref a)]) rfl ?_
  refine gz_aload_n C dJ0_init_81219_0 rfl 0 rfl ?_
  refine gz_aload_n C dJ0_init_81219_1 rfl 1 rfl ?_
  refine gz_null C dJ0_init_81219_2 ?_
  refine gz_I (As := [.ref a, .null]) (rest := []) C (z_init2 hU hq1 hq2 hz hc hf) wk_4_28 wk_4_29 wk_1_9 wk_4_30 rfl hd_J0_i2 ⟨(Nat.le_of_ble_eq_true rfl), (Nat.le_of_ble_eq_true rfl)⟩ (Nat.le_of_ble_eq_true rfl) ⟨by show 0 + 1 ≤ 1; omega, by show 0 + z ≤ z; omega⟩ dJ0_init_81219_3 rfl (fun o ν' hP => ?_)
  have hP2 := hP
  obtain ⟨rfl, -⟩ := hP
  exact gz_end (o := none) hP2 (gz_vret C hr dJ0_init_81219_6 (by show 0 + 1 ≤ 1; omega) (by show 0 + z ≤ z; omega))
set_option maxHeartbeats 4000000 in
set_option maxRecDepth 100000 in
theorem z_toString (hU : (eU E).1 = 0) (hq1 : ν[q1]? = some (a, .inr (1, [.ref bb, .int 0, .int mb, .int (nI z)]))) (hq2 : ν[q2]? = some (bb, .inl (eC E 0, cap, .inl f))) (hz : z ≤ cap) (hc : cap ≤ 2048) (hf : Fitb f) : Cz l E yJ4_toString_0e30d (Cond.code yJ4_toString_0e30d cJ4_toString_0e30d 1 (some (.object "java/lang/String")) :: GW) (rm_ts z) [.ref a] ν (fun o ν' => ∃ xx y gg, o = some (.ref xx) ∧ ((∀ k, k < z → gg k = f k) ∧ (Fitb gg ∧ ν' = (y, .inl (eC E 0, z, .inl gg)) :: (xx, .inr (0, [.ref y, .int 0, .int 0, .int 0])) :: ν))) := by
  refine cz_of (by decide) (Nat.le_of_ble_eq_true rfl) (fun p e s m args below meth c C hnm hr => ?_)
  have C : Cq E p s m args meth c cJ4_toString_0e30d 1 RJ4 := C
  refine gz_lv (lv' := [(0, .ref a)]) rfl ?_
  refine gz_new (ci := 0) (N := 4) (T := TJ0) (fs := [.null, .int 0, .int 0, .int 0]) C hU inG_J0 tyJ0 tyJ0_ok wk_4_23 wk_4_24 wk_1_9 rfl df_J0 ⟨by show 0 + 1 ≤ 2; omega, by show 0 + 4 ≤ z + 4; omega⟩ dJ4_toString_0e30d_0 (fun xx _ _ _ => ?_)
  refine gz_dupr C dJ4_toString_0e30d_3 ?_
  refine gz_aload_n C dJ4_toString_0e30d_4 rfl 0 rfl ?_
  refine gz_I (As := [.ref a]) (rest := [.ref xx]) C (z_init1 hU hq1 hq2 hz hc hf) wk_4_25 wk_4_26 wk_1_9 wk_4_27 rfl hd_J0_i1 ⟨(Nat.le_of_ble_eq_true rfl), (Nat.le_of_ble_eq_true rfl)⟩ (Nat.le_of_ble_eq_true rfl) ⟨by show 0 + 1 + 1 ≤ 2; omega, by show 0 + 4 + z ≤ z + 4; omega⟩ dJ4_toString_0e30d_5 rfl (fun o ν' hP => ?_)
  obtain ⟨rfl, y, gg, g1, g2, rfl⟩ := hP
  exact gz_end (o := some (.ref xx)) ⟨xx, y, gg, rfl, g1, g2, rfl⟩ (gz_aret C hr (Or.inl ⟨_, rfl⟩) dJ4_toString_0e30d_8 (by show 0 + 1 + 1 ≤ 2; omega) (by show 0 + 4 + z ≤ z + 4; omega))
end E9C
