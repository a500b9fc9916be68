/-! ===== the other helpers ===== -/
theorem wk_4_187 : Cond.classLink "WaterExchangeLaw" (19 : Nat) "java/util/NoSuchElementException" ∈ GW := gw_4 (List.mem_of_getElem? (i := 187) rfl) rfl
theorem wk_4_188 : Cond.methodLink "WaterExchangeLaw" (15 : Nat) ({ cls := "WaterExchange", name := "count", desc := "(I)I" } : MethodName) ∈ GW := gw_4 (List.mem_of_getElem? (i := 188) rfl) rfl
theorem wk_4_189 : Cond.instanceMethod ({ cls := "WaterExchange", name := "count", desc := "(I)I" } : MethodName) ∈ GW := gw_4 (List.mem_of_getElem? (i := 189) rfl) rfl
theorem wk_4_190 : Cond.selects "WaterExchange" ({ cls := "WaterExchange", name := "count", desc := "(I)I" } : MethodName) ({ cls := "WaterExchange", name := "count", desc := "(I)I" } : MethodName) ∈ GW := gw_4 (List.mem_of_getElem? (i := 190) rfl) rfl
theorem wk_4_191 : Cond.code ({ cls := "WaterExchange", name := "count", desc := "(I)I" } : MethodName) prog_1_method_7_code (2 : Nat) (Option.some Jvm.ClassFile.FieldType.int) ∈ GW := gw_4 (List.mem_of_getElem? (i := 191) rfl) rfl
theorem wk_4_194 : Cond.castable "java/util/NoSuchElementException" "java/util/NoSuchElementException" ∈ NW := gn_4 (List.mem_of_getElem? (i := 194) rfl) rfl
theorem wk_4_211 : Cond.methodLink "WaterExchangeLaw" (21 : Nat) ({ cls := "WaterExchange", name := "season", desc := "(I)I" } : MethodName) ∈ GW := gw_4 (List.mem_of_getElem? (i := 211) rfl) rfl
theorem wk_4_212 : Cond.instanceMethod ({ cls := "WaterExchange", name := "season", desc := "(I)I" } : MethodName) ∈ GW := gw_4 (List.mem_of_getElem? (i := 212) rfl) rfl
theorem wk_4_213 : Cond.selects "WaterExchange" ({ cls := "WaterExchange", name := "season", desc := "(I)I" } : MethodName) ({ cls := "WaterExchange", name := "season", desc := "(I)I" } : MethodName) ∈ GW := gw_4 (List.mem_of_getElem? (i := 213) rfl) rfl
theorem wk_4_214 : Cond.code ({ cls := "WaterExchange", name := "season", desc := "(I)I" } : MethodName) prog_1_method_8_code (2 : Nat) (Option.some Jvm.ClassFile.FieldType.int) ∈ GW := gw_4 (List.mem_of_getElem? (i := 214) rfl) rfl
theorem wk_4_226 : Cond.methodLink "WaterExchangeLaw" (24 : Nat) ({ cls := "WaterExchange", name := "yearPercent", desc := "(I)I" } : MethodName) ∈ GW := gw_4 (List.mem_of_getElem? (i := 226) rfl) rfl
theorem wk_4_227 : Cond.instanceMethod ({ cls := "WaterExchange", name := "yearPercent", desc := "(I)I" } : MethodName) ∈ GW := gw_4 (List.mem_of_getElem? (i := 227) rfl) rfl
theorem wk_4_228 : Cond.selects "WaterExchange" ({ cls := "WaterExchange", name := "yearPercent", desc := "(I)I" } : MethodName) ({ cls := "WaterExchange", name := "yearPercent", desc := "(I)I" } : MethodName) ∈ GW := gw_4 (List.mem_of_getElem? (i := 228) rfl) rfl
theorem wk_4_229 : Cond.code ({ cls := "WaterExchange", name := "yearPercent", desc := "(I)I" } : MethodName) prog_1_method_9_code (2 : Nat) (Option.some Jvm.ClassFile.FieldType.int) ∈ GW := gw_4 (List.mem_of_getElem? (i := 229) rfl) rfl
theorem wk_4_235 : Cond.classLink "WaterExchangeLaw" (31 : Nat) "java/lang/IndexOutOfBoundsException" ∈ GW := gw_4 (List.mem_of_getElem? (i := 235) rfl) rfl
theorem wk_4_236 : Cond.methodLink "WaterExchangeLaw" (27 : Nat) ({ cls := "WaterExchange", name := "reach", desc := "(II)I" } : MethodName) ∈ GW := gw_4 (List.mem_of_getElem? (i := 236) rfl) rfl
theorem wk_4_237 : Cond.instanceMethod ({ cls := "WaterExchange", name := "reach", desc := "(II)I" } : MethodName) ∈ GW := gw_4 (List.mem_of_getElem? (i := 237) rfl) rfl
theorem wk_4_238 : Cond.selects "WaterExchange" ({ cls := "WaterExchange", name := "reach", desc := "(II)I" } : MethodName) ({ cls := "WaterExchange", name := "reach", desc := "(II)I" } : MethodName) ∈ GW := gw_4 (List.mem_of_getElem? (i := 238) rfl) rfl
theorem wk_4_239 : Cond.code ({ cls := "WaterExchange", name := "reach", desc := "(II)I" } : MethodName) prog_1_method_10_code (3 : Nat) (Option.some Jvm.ClassFile.FieldType.int) ∈ GW := gw_4 (List.mem_of_getElem? (i := 239) rfl) rfl
theorem wk_5_106 : Cond.methodLink "WaterExchangeLaw" (67 : Nat) ({ cls := "WaterExchange", name := "expected", desc := "(II)I" } : MethodName) ∈ GW := gw_5 (List.mem_of_getElem? (i := 106) rfl) rfl
theorem wk_5_107 : Cond.instanceMethod ({ cls := "WaterExchange", name := "expected", desc := "(II)I" } : MethodName) ∈ GW := gw_5 (List.mem_of_getElem? (i := 107) rfl) rfl
theorem wk_5_108 : Cond.selects "WaterExchange" ({ cls := "WaterExchange", name := "expected", desc := "(II)I" } : MethodName) ({ cls := "WaterExchange", name := "expected", desc := "(II)I" } : MethodName) ∈ GW := gw_5 (List.mem_of_getElem? (i := 108) rfl) rfl
theorem wk_5_109 : Cond.code ({ cls := "WaterExchange", name := "expected", desc := "(II)I" } : MethodName) prog_1_method_35_code (3 : Nat) (Option.some Jvm.ClassFile.FieldType.int) ∈ GW := gw_5 (List.mem_of_getElem? (i := 109) rfl) rfl
theorem wk_5_20 : Cond.methodLink "WaterExchangeLaw" (33 : Nat) ({ cls := "WaterExchange", name := "coming", desc := "(I)I" } : MethodName) ∈ GW := gw_5 (List.mem_of_getElem? (i := 20) rfl) rfl
theorem wk_5_21 : Cond.instanceMethod ({ cls := "WaterExchange", name := "coming", desc := "(I)I" } : MethodName) ∈ GW := gw_5 (List.mem_of_getElem? (i := 21) rfl) rfl
theorem wk_5_214 : Cond.methodLink "WaterExchangeLaw" (70 : Nat) ({ cls := "WaterExchange", name := "cutMonths", desc := "(II)I" } : MethodName) ∈ GW := gw_5 (List.mem_of_getElem? (i := 214) rfl) rfl
theorem wk_5_215 : Cond.instanceMethod ({ cls := "WaterExchange", name := "cutMonths", desc := "(II)I" } : MethodName) ∈ GW := gw_5 (List.mem_of_getElem? (i := 215) rfl) rfl
theorem wk_5_216 : Cond.selects "WaterExchange" ({ cls := "WaterExchange", name := "cutMonths", desc := "(II)I" } : MethodName) ({ cls := "WaterExchange", name := "cutMonths", desc := "(II)I" } : MethodName) ∈ GW := gw_5 (List.mem_of_getElem? (i := 216) rfl) rfl
theorem wk_5_217 : Cond.code ({ cls := "WaterExchange", name := "cutMonths", desc := "(II)I" } : MethodName) prog_1_method_36_code (3 : Nat) (Option.some Jvm.ClassFile.FieldType.int) ∈ GW := gw_5 (List.mem_of_getElem? (i := 217) rfl) rfl
theorem wk_5_22 : Cond.selects "WaterExchange" ({ cls := "WaterExchange", name := "coming", desc := "(I)I" } : MethodName) ({ cls := "WaterExchange", name := "coming", desc := "(I)I" } : MethodName) ∈ GW := gw_5 (List.mem_of_getElem? (i := 22) rfl) rfl
theorem wk_5_221 : Cond.methodLink "WaterExchangeLaw" (73 : Nat) ({ cls := "WaterExchange", name := "balanceAfter", desc := "(II)J" } : MethodName) ∈ GW := gw_5 (List.mem_of_getElem? (i := 221) rfl) rfl
theorem wk_5_222 : Cond.instanceMethod ({ cls := "WaterExchange", name := "balanceAfter", desc := "(II)J" } : MethodName) ∈ GW := gw_5 (List.mem_of_getElem? (i := 222) rfl) rfl
theorem wk_5_223 : Cond.selects "WaterExchange" ({ cls := "WaterExchange", name := "balanceAfter", desc := "(II)J" } : MethodName) ({ cls := "WaterExchange", name := "balanceAfter", desc := "(II)J" } : MethodName) ∈ GW := gw_5 (List.mem_of_getElem? (i := 223) rfl) rfl
theorem wk_5_224 : Cond.code ({ cls := "WaterExchange", name := "balanceAfter", desc := "(II)J" } : MethodName) prog_1_method_37_code (3 : Nat) (Option.some Jvm.ClassFile.FieldType.long) ∈ GW := gw_5 (List.mem_of_getElem? (i := 224) rfl) rfl
theorem wk_5_228 : Cond.classLink "WaterExchangeLaw" (80 : Nat) "java/lang/IllegalStateException" ∈ GW := gw_5 (List.mem_of_getElem? (i := 228) rfl) rfl
theorem wk_5_229 : Cond.methodLink "WaterExchangeLaw" (77 : Nat) ({ cls := "WaterExchange", name := "driestMonth", desc := "(I)I" } : MethodName) ∈ GW := gw_5 (List.mem_of_getElem? (i := 229) rfl) rfl
theorem wk_5_23 : Cond.code ({ cls := "WaterExchange", name := "coming", desc := "(I)I" } : MethodName) prog_1_method_11_code (2 : Nat) (Option.some Jvm.ClassFile.FieldType.int) ∈ GW := gw_5 (List.mem_of_getElem? (i := 23) rfl) rfl
theorem wk_5_230 : Cond.instanceMethod ({ cls := "WaterExchange", name := "driestMonth", desc := "(I)I" } : MethodName) ∈ GW := gw_5 (List.mem_of_getElem? (i := 230) rfl) rfl
theorem wk_5_231 : Cond.selects "WaterExchange" ({ cls := "WaterExchange", name := "driestMonth", desc := "(I)I" } : MethodName) ({ cls := "WaterExchange", name := "driestMonth", desc := "(I)I" } : MethodName) ∈ GW := gw_5 (List.mem_of_getElem? (i := 231) rfl) rfl
theorem wk_5_232 : Cond.code ({ cls := "WaterExchange", name := "driestMonth", desc := "(I)I" } : MethodName) prog_1_method_38_code (5 : Nat) (Option.some Jvm.ClassFile.FieldType.int) ∈ GW := gw_5 (List.mem_of_getElem? (i := 232) rfl) rfl
theorem wk_5_239 : Cond.castable "java/lang/IllegalStateException" "java/lang/IllegalStateException" ∈ NW := gn_5 (List.mem_of_getElem? (i := 239) rfl) rfl
theorem wk_5_32 : Cond.methodLink "WaterExchangeLaw" (36 : Nat) ({ cls := "WaterExchange", name := "balance", desc := "(I)J" } : MethodName) ∈ GW := gw_5 (List.mem_of_getElem? (i := 32) rfl) rfl
theorem wk_5_33 : Cond.instanceMethod ({ cls := "WaterExchange", name := "balance", desc := "(I)J" } : MethodName) ∈ GW := gw_5 (List.mem_of_getElem? (i := 33) rfl) rfl
theorem wk_5_34 : Cond.selects "WaterExchange" ({ cls := "WaterExchange", name := "balance", desc := "(I)J" } : MethodName) ({ cls := "WaterExchange", name := "balance", desc := "(I)J" } : MethodName) ∈ GW := gw_5 (List.mem_of_getElem? (i := 34) rfl) rfl
theorem wk_5_35 : Cond.code ({ cls := "WaterExchange", name := "balance", desc := "(I)J" } : MethodName) prog_1_method_12_code (2 : Nat) (Option.some Jvm.ClassFile.FieldType.long) ∈ GW := gw_5 (List.mem_of_getElem? (i := 35) rfl) rfl
theorem wk_5_39 : Cond.methodLink "WaterExchangeLaw" (40 : Nat) ({ cls := "WaterExchange", name := "bank", desc := "(I)I" } : MethodName) ∈ GW := gw_5 (List.mem_of_getElem? (i := 39) rfl) rfl
theorem wk_5_40 : Cond.instanceMethod ({ cls := "WaterExchange", name := "bank", desc := "(I)I" } : MethodName) ∈ GW := gw_5 (List.mem_of_getElem? (i := 40) rfl) rfl
theorem wk_5_41 : Cond.selects "WaterExchange" ({ cls := "WaterExchange", name := "bank", desc := "(I)I" } : MethodName) ({ cls := "WaterExchange", name := "bank", desc := "(I)I" } : MethodName) ∈ GW := gw_5 (List.mem_of_getElem? (i := 41) rfl) rfl
theorem wk_5_42 : Cond.code ({ cls := "WaterExchange", name := "bank", desc := "(I)I" } : MethodName) prog_1_method_13_code (2 : Nat) (Option.some Jvm.ClassFile.FieldType.int) ∈ GW := gw_5 (List.mem_of_getElem? (i := 42) rfl) rfl
theorem wk_5_46 : Cond.methodLink "WaterExchangeLaw" (43 : Nat) ({ cls := "WaterExchange", name := "right", desc := "(II)I" } : MethodName) ∈ GW := gw_5 (List.mem_of_getElem? (i := 46) rfl) rfl
theorem wk_5_47 : Cond.instanceMethod ({ cls := "WaterExchange", name := "right", desc := "(II)I" } : MethodName) ∈ GW := gw_5 (List.mem_of_getElem? (i := 47) rfl) rfl
theorem wk_5_48 : Cond.selects "WaterExchange" ({ cls := "WaterExchange", name := "right", desc := "(II)I" } : MethodName) ({ cls := "WaterExchange", name := "right", desc := "(II)I" } : MethodName) ∈ GW := gw_5 (List.mem_of_getElem? (i := 48) rfl) rfl
theorem wk_5_49 : Cond.code ({ cls := "WaterExchange", name := "right", desc := "(II)I" } : MethodName) prog_1_method_14_code (3 : Nat) (Option.some Jvm.ClassFile.FieldType.int) ∈ GW := gw_5 (List.mem_of_getElem? (i := 49) rfl) rfl
theorem wk_5_53 : Cond.methodLink "WaterExchangeLaw" (46 : Nat) ({ cls := "WaterExchange", name := "leaseField", desc := "(II)I" } : MethodName) ∈ GW := gw_5 (List.mem_of_getElem? (i := 53) rfl) rfl
theorem wk_5_54 : Cond.instanceMethod ({ cls := "WaterExchange", name := "leaseField", desc := "(II)I" } : MethodName) ∈ GW := gw_5 (List.mem_of_getElem? (i := 54) rfl) rfl
theorem wk_5_55 : Cond.selects "WaterExchange" ({ cls := "WaterExchange", name := "leaseField", desc := "(II)I" } : MethodName) ({ cls := "WaterExchange", name := "leaseField", desc := "(II)I" } : MethodName) ∈ GW := gw_5 (List.mem_of_getElem? (i := 55) rfl) rfl
theorem wk_5_56 : Cond.code ({ cls := "WaterExchange", name := "leaseField", desc := "(II)I" } : MethodName) prog_1_method_16_code (3 : Nat) (Option.some Jvm.ClassFile.FieldType.int) ∈ GW := gw_5 (List.mem_of_getElem? (i := 56) rfl) rfl
theorem wk_5_6 : Cond.castable "java/lang/IndexOutOfBoundsException" "java/lang/IndexOutOfBoundsException" ∈ NW := gn_5 (List.mem_of_getElem? (i := 6) rfl) rfl
theorem wk_5_60 : Cond.methodLink "WaterExchangeLaw" (49 : Nat) ({ cls := "WaterExchange", name := "optionField", desc := "(II)I" } : MethodName) ∈ GW := gw_5 (List.mem_of_getElem? (i := 60) rfl) rfl
theorem wk_5_61 : Cond.instanceMethod ({ cls := "WaterExchange", name := "optionField", desc := "(II)I" } : MethodName) ∈ GW := gw_5 (List.mem_of_getElem? (i := 61) rfl) rfl
theorem wk_5_62 : Cond.selects "WaterExchange" ({ cls := "WaterExchange", name := "optionField", desc := "(II)I" } : MethodName) ({ cls := "WaterExchange", name := "optionField", desc := "(II)I" } : MethodName) ∈ GW := gw_5 (List.mem_of_getElem? (i := 62) rfl) rfl
theorem wk_5_63 : Cond.code ({ cls := "WaterExchange", name := "optionField", desc := "(II)I" } : MethodName) prog_1_method_17_code (3 : Nat) (Option.some Jvm.ClassFile.FieldType.int) ∈ GW := gw_5 (List.mem_of_getElem? (i := 63) rfl) rfl
theorem wk_5_67 : Cond.methodLink "WaterExchangeLaw" (52 : Nat) ({ cls := "WaterExchange", name := "claim", desc := "(II)I" } : MethodName) ∈ GW := gw_5 (List.mem_of_getElem? (i := 67) rfl) rfl
theorem wk_5_68 : Cond.instanceMethod ({ cls := "WaterExchange", name := "claim", desc := "(II)I" } : MethodName) ∈ GW := gw_5 (List.mem_of_getElem? (i := 68) rfl) rfl
theorem wk_5_69 : Cond.selects "WaterExchange" ({ cls := "WaterExchange", name := "claim", desc := "(II)I" } : MethodName) ({ cls := "WaterExchange", name := "claim", desc := "(II)I" } : MethodName) ∈ GW := gw_5 (List.mem_of_getElem? (i := 69) rfl) rfl
theorem wk_5_70 : Cond.code ({ cls := "WaterExchange", name := "claim", desc := "(II)I" } : MethodName) prog_1_method_19_code (3 : Nat) (Option.some Jvm.ClassFile.FieldType.int) ∈ GW := gw_5 (List.mem_of_getElem? (i := 70) rfl) rfl
theorem wk_5_74 : Cond.methodLink "WaterExchangeLaw" (55 : Nat) ({ cls := "WaterExchange", name := "gauge", desc := "(II)I" } : MethodName) ∈ GW := gw_5 (List.mem_of_getElem? (i := 74) rfl) rfl
theorem wk_5_75 : Cond.instanceMethod ({ cls := "WaterExchange", name := "gauge", desc := "(II)I" } : MethodName) ∈ GW := gw_5 (List.mem_of_getElem? (i := 75) rfl) rfl
theorem wk_5_76 : Cond.selects "WaterExchange" ({ cls := "WaterExchange", name := "gauge", desc := "(II)I" } : MethodName) ({ cls := "WaterExchange", name := "gauge", desc := "(II)I" } : MethodName) ∈ GW := gw_5 (List.mem_of_getElem? (i := 76) rfl) rfl
theorem wk_5_77 : Cond.code ({ cls := "WaterExchange", name := "gauge", desc := "(II)I" } : MethodName) prog_1_method_20_code (3 : Nat) (Option.some Jvm.ClassFile.FieldType.int) ∈ GW := gw_5 (List.mem_of_getElem? (i := 77) rfl) rfl
theorem wk_5_81 : Cond.methodLink "WaterExchangeLaw" (58 : Nat) ({ cls := "WaterExchange", name := "history", desc := "(II)I" } : MethodName) ∈ GW := gw_5 (List.mem_of_getElem? (i := 81) rfl) rfl
theorem wk_5_82 : Cond.instanceMethod ({ cls := "WaterExchange", name := "history", desc := "(II)I" } : MethodName) ∈ GW := gw_5 (List.mem_of_getElem? (i := 82) rfl) rfl
theorem wk_5_83 : Cond.selects "WaterExchange" ({ cls := "WaterExchange", name := "history", desc := "(II)I" } : MethodName) ({ cls := "WaterExchange", name := "history", desc := "(II)I" } : MethodName) ∈ GW := gw_5 (List.mem_of_getElem? (i := 83) rfl) rfl
theorem wk_5_84 : Cond.code ({ cls := "WaterExchange", name := "history", desc := "(II)I" } : MethodName) prog_1_method_26_code (3 : Nat) (Option.some Jvm.ClassFile.FieldType.int) ∈ GW := gw_5 (List.mem_of_getElem? (i := 84) rfl) rfl
theorem wk_5_88 : Cond.methodLink "WaterExchangeLaw" (61 : Nat) ({ cls := "WaterExchange", name := "got", desc := "(I)I" } : MethodName) ∈ GW := gw_5 (List.mem_of_getElem? (i := 88) rfl) rfl
theorem wk_5_89 : Cond.instanceMethod ({ cls := "WaterExchange", name := "got", desc := "(I)I" } : MethodName) ∈ GW := gw_5 (List.mem_of_getElem? (i := 89) rfl) rfl
theorem wk_5_90 : Cond.selects "WaterExchange" ({ cls := "WaterExchange", name := "got", desc := "(I)I" } : MethodName) ({ cls := "WaterExchange", name := "got", desc := "(I)I" } : MethodName) ∈ GW := gw_5 (List.mem_of_getElem? (i := 90) rfl) rfl
theorem wk_5_91 : Cond.code ({ cls := "WaterExchange", name := "got", desc := "(I)I" } : MethodName) prog_1_method_28_code (2 : Nat) (Option.some Jvm.ClassFile.FieldType.int) ∈ GW := gw_5 (List.mem_of_getElem? (i := 91) rfl) rfl
theorem wk_5_95 : Cond.methodLink "WaterExchangeLaw" (64 : Nat) ({ cls := "WaterExchange", name := "earned", desc := "(I)J" } : MethodName) ∈ GW := gw_5 (List.mem_of_getElem? (i := 95) rfl) rfl
theorem wk_5_96 : Cond.instanceMethod ({ cls := "WaterExchange", name := "earned", desc := "(I)J" } : MethodName) ∈ GW := gw_5 (List.mem_of_getElem? (i := 96) rfl) rfl
theorem wk_5_97 : Cond.selects "WaterExchange" ({ cls := "WaterExchange", name := "earned", desc := "(I)J" } : MethodName) ({ cls := "WaterExchange", name := "earned", desc := "(I)J" } : MethodName) ∈ GW := gw_5 (List.mem_of_getElem? (i := 97) rfl) rfl
theorem wk_5_98 : Cond.code ({ cls := "WaterExchange", name := "earned", desc := "(I)J" } : MethodName) prog_1_method_29_code (2 : Nat) (Option.some Jvm.ClassFile.FieldType.long) ∈ GW := gw_5 (List.mem_of_getElem? (i := 98) rfl) rfl
theorem wk_6_100 : Cond.methodLink "WaterExchangeLaw" (108 : Nat) ({ cls := "WaterExchange", name := "setKeep", desc := "(II)I" } : MethodName) ∈ GW := gw_6 (List.mem_of_getElem? (i := 100) rfl) rfl
theorem wk_6_101 : Cond.instanceMethod ({ cls := "WaterExchange", name := "setKeep", desc := "(II)I" } : MethodName) ∈ GW := gw_6 (List.mem_of_getElem? (i := 101) rfl) rfl
theorem wk_6_102 : Cond.selects "WaterExchange" ({ cls := "WaterExchange", name := "setKeep", desc := "(II)I" } : MethodName) ({ cls := "WaterExchange", name := "setKeep", desc := "(II)I" } : MethodName) ∈ GW := gw_6 (List.mem_of_getElem? (i := 102) rfl) rfl
theorem wk_6_103 : Cond.code ({ cls := "WaterExchange", name := "setKeep", desc := "(II)I" } : MethodName) prog_1_method_52_code (4 : Nat) (Option.some Jvm.ClassFile.FieldType.int) ∈ GW := gw_6 (List.mem_of_getElem? (i := 103) rfl) rfl
theorem wk_6_108 : Cond.methodLink "WaterExchangeLaw" (111 : Nat) ({ cls := "WaterExchange", name := "setMinimum", desc := "(II)I" } : MethodName) ∈ GW := gw_6 (List.mem_of_getElem? (i := 108) rfl) rfl
theorem wk_6_109 : Cond.instanceMethod ({ cls := "WaterExchange", name := "setMinimum", desc := "(II)I" } : MethodName) ∈ GW := gw_6 (List.mem_of_getElem? (i := 109) rfl) rfl
theorem wk_6_110 : Cond.selects "WaterExchange" ({ cls := "WaterExchange", name := "setMinimum", desc := "(II)I" } : MethodName) ({ cls := "WaterExchange", name := "setMinimum", desc := "(II)I" } : MethodName) ∈ GW := gw_6 (List.mem_of_getElem? (i := 110) rfl) rfl
theorem wk_6_111 : Cond.code ({ cls := "WaterExchange", name := "setMinimum", desc := "(II)I" } : MethodName) prog_1_method_53_code (4 : Nat) (Option.some Jvm.ClassFile.FieldType.int) ∈ GW := gw_6 (List.mem_of_getElem? (i := 111) rfl) rfl
theorem wk_6_115 : Cond.methodLink "WaterExchangeLaw" (114 : Nat) ({ cls := "WaterExchange", name := "transfer", desc := "(III)I" } : MethodName) ∈ GW := gw_6 (List.mem_of_getElem? (i := 115) rfl) rfl
theorem wk_6_116 : Cond.instanceMethod ({ cls := "WaterExchange", name := "transfer", desc := "(III)I" } : MethodName) ∈ GW := gw_6 (List.mem_of_getElem? (i := 116) rfl) rfl
theorem wk_6_117 : Cond.selects "WaterExchange" ({ cls := "WaterExchange", name := "transfer", desc := "(III)I" } : MethodName) ({ cls := "WaterExchange", name := "transfer", desc := "(III)I" } : MethodName) ∈ GW := gw_6 (List.mem_of_getElem? (i := 117) rfl) rfl
theorem wk_6_118 : Cond.code ({ cls := "WaterExchange", name := "transfer", desc := "(III)I" } : MethodName) prog_1_method_54_code (5 : Nat) (Option.some Jvm.ClassFile.FieldType.int) ∈ GW := gw_6 (List.mem_of_getElem? (i := 118) rfl) rfl
theorem wk_6_123 : Cond.methodLink "WaterExchangeLaw" (117 : Nat) ({ cls := "WaterExchange", name := "swap", desc := "(II)I" } : MethodName) ∈ GW := gw_6 (List.mem_of_getElem? (i := 123) rfl) rfl
theorem wk_6_124 : Cond.instanceMethod ({ cls := "WaterExchange", name := "swap", desc := "(II)I" } : MethodName) ∈ GW := gw_6 (List.mem_of_getElem? (i := 124) rfl) rfl
theorem wk_6_125 : Cond.selects "WaterExchange" ({ cls := "WaterExchange", name := "swap", desc := "(II)I" } : MethodName) ({ cls := "WaterExchange", name := "swap", desc := "(II)I" } : MethodName) ∈ GW := gw_6 (List.mem_of_getElem? (i := 125) rfl) rfl
theorem wk_6_126 : Cond.code ({ cls := "WaterExchange", name := "swap", desc := "(II)I" } : MethodName) prog_1_method_55_code (4 : Nat) (Option.some Jvm.ClassFile.FieldType.int) ∈ GW := gw_6 (List.mem_of_getElem? (i := 126) rfl) rfl
theorem wk_6_132 : Cond.methodLink "WaterExchangeLaw" (120 : Nat) ({ cls := "WaterExchange", name := "save", desc := "(I)Z" } : MethodName) ∈ GW := gw_6 (List.mem_of_getElem? (i := 132) rfl) rfl
theorem wk_6_133 : Cond.instanceMethod ({ cls := "WaterExchange", name := "save", desc := "(I)Z" } : MethodName) ∈ GW := gw_6 (List.mem_of_getElem? (i := 133) rfl) rfl
theorem wk_6_134 : Cond.selects "WaterExchange" ({ cls := "WaterExchange", name := "save", desc := "(I)Z" } : MethodName) ({ cls := "WaterExchange", name := "save", desc := "(I)Z" } : MethodName) ∈ GW := gw_6 (List.mem_of_getElem? (i := 134) rfl) rfl
theorem wk_6_135 : Cond.code ({ cls := "WaterExchange", name := "save", desc := "(I)Z" } : MethodName) prog_1_method_58_code (3 : Nat) (Option.some Jvm.ClassFile.FieldType.boolean) ∈ GW := gw_6 (List.mem_of_getElem? (i := 135) rfl) rfl
theorem wk_6_143 : Cond.methodLink "WaterExchangeLaw" (124 : Nat) ({ cls := "WaterExchange", name := "restore", desc := "(I)I" } : MethodName) ∈ GW := gw_6 (List.mem_of_getElem? (i := 143) rfl) rfl
theorem wk_6_144 : Cond.instanceMethod ({ cls := "WaterExchange", name := "restore", desc := "(I)I" } : MethodName) ∈ GW := gw_6 (List.mem_of_getElem? (i := 144) rfl) rfl
theorem wk_6_145 : Cond.selects "WaterExchange" ({ cls := "WaterExchange", name := "restore", desc := "(I)I" } : MethodName) ({ cls := "WaterExchange", name := "restore", desc := "(I)I" } : MethodName) ∈ GW := gw_6 (List.mem_of_getElem? (i := 145) rfl) rfl
theorem wk_6_146 : Cond.code ({ cls := "WaterExchange", name := "restore", desc := "(I)I" } : MethodName) prog_1_method_59_code (2 : Nat) (Option.some Jvm.ClassFile.FieldType.int) ∈ GW := gw_6 (List.mem_of_getElem? (i := 146) rfl) rfl
theorem wk_6_16 : Cond.methodLink "WaterExchangeLaw" (82 : Nat) ({ cls := "WaterExchange", name := "free", desc := "(I)I" } : MethodName) ∈ GW := gw_6 (List.mem_of_getElem? (i := 16) rfl) rfl
theorem wk_6_17 : Cond.instanceMethod ({ cls := "WaterExchange", name := "free", desc := "(I)I" } : MethodName) ∈ GW := gw_6 (List.mem_of_getElem? (i := 17) rfl) rfl
theorem wk_6_18 : Cond.selects "WaterExchange" ({ cls := "WaterExchange", name := "free", desc := "(I)I" } : MethodName) ({ cls := "WaterExchange", name := "free", desc := "(I)I" } : MethodName) ∈ GW := gw_6 (List.mem_of_getElem? (i := 18) rfl) rfl
theorem wk_6_19 : Cond.code ({ cls := "WaterExchange", name := "free", desc := "(I)I" } : MethodName) prog_1_method_41_code (2 : Nat) (Option.some Jvm.ClassFile.FieldType.int) ∈ GW := gw_6 (List.mem_of_getElem? (i := 19) rfl) rfl
theorem wk_6_25 : Cond.methodLink "WaterExchangeLaw" (85 : Nat) ({ cls := "WaterExchange", name := "bestReach", desc := "(I)I" } : MethodName) ∈ GW := gw_6 (List.mem_of_getElem? (i := 25) rfl) rfl
theorem wk_6_26 : Cond.instanceMethod ({ cls := "WaterExchange", name := "bestReach", desc := "(I)I" } : MethodName) ∈ GW := gw_6 (List.mem_of_getElem? (i := 26) rfl) rfl
theorem wk_6_27 : Cond.selects "WaterExchange" ({ cls := "WaterExchange", name := "bestReach", desc := "(I)I" } : MethodName) ({ cls := "WaterExchange", name := "bestReach", desc := "(I)I" } : MethodName) ∈ GW := gw_6 (List.mem_of_getElem? (i := 27) rfl) rfl
theorem wk_6_28 : Cond.code ({ cls := "WaterExchange", name := "bestReach", desc := "(I)I" } : MethodName) prog_1_method_42_code (6 : Nat) (Option.some Jvm.ClassFile.FieldType.int) ∈ GW := gw_6 (List.mem_of_getElem? (i := 28) rfl) rfl
theorem wk_6_42 : Cond.methodLink "WaterExchangeLaw" (88 : Nat) ({ cls := "WaterExchange", name := "injured", desc := "(III)I" } : MethodName) ∈ GW := gw_6 (List.mem_of_getElem? (i := 42) rfl) rfl
theorem wk_6_43 : Cond.instanceMethod ({ cls := "WaterExchange", name := "injured", desc := "(III)I" } : MethodName) ∈ GW := gw_6 (List.mem_of_getElem? (i := 43) rfl) rfl
theorem wk_6_44 : Cond.selects "WaterExchange" ({ cls := "WaterExchange", name := "injured", desc := "(III)I" } : MethodName) ({ cls := "WaterExchange", name := "injured", desc := "(III)I" } : MethodName) ∈ GW := gw_6 (List.mem_of_getElem? (i := 44) rfl) rfl
theorem wk_6_45 : Cond.code ({ cls := "WaterExchange", name := "injured", desc := "(III)I" } : MethodName) prog_1_method_44_code (4 : Nat) (Option.some Jvm.ClassFile.FieldType.int) ∈ GW := gw_6 (List.mem_of_getElem? (i := 45) rfl) rfl
theorem wk_6_57 : Cond.methodLink "WaterExchangeLaw" (92 : Nat) ({ cls := "WaterExchange", name := "blocked", desc := "(I)I" } : MethodName) ∈ GW := gw_6 (List.mem_of_getElem? (i := 57) rfl) rfl
theorem wk_6_58 : Cond.instanceMethod ({ cls := "WaterExchange", name := "blocked", desc := "(I)I" } : MethodName) ∈ GW := gw_6 (List.mem_of_getElem? (i := 58) rfl) rfl
theorem wk_6_59 : Cond.selects "WaterExchange" ({ cls := "WaterExchange", name := "blocked", desc := "(I)I" } : MethodName) ({ cls := "WaterExchange", name := "blocked", desc := "(I)I" } : MethodName) ∈ GW := gw_6 (List.mem_of_getElem? (i := 59) rfl) rfl
theorem wk_6_60 : Cond.code ({ cls := "WaterExchange", name := "blocked", desc := "(I)I" } : MethodName) prog_1_method_45_code (2 : Nat) (Option.some Jvm.ClassFile.FieldType.int) ∈ GW := gw_6 (List.mem_of_getElem? (i := 60) rfl) rfl
theorem wk_6_64 : Cond.methodLink "WaterExchangeLaw" (95 : Nat) ({ cls := "WaterExchange", name := "run", desc := "(I)I" } : MethodName) ∈ GW := gw_6 (List.mem_of_getElem? (i := 64) rfl) rfl
theorem wk_6_65 : Cond.instanceMethod ({ cls := "WaterExchange", name := "run", desc := "(I)I" } : MethodName) ∈ GW := gw_6 (List.mem_of_getElem? (i := 65) rfl) rfl
theorem wk_6_66 : Cond.selects "WaterExchange" ({ cls := "WaterExchange", name := "run", desc := "(I)I" } : MethodName) ({ cls := "WaterExchange", name := "run", desc := "(I)I" } : MethodName) ∈ GW := gw_6 (List.mem_of_getElem? (i := 66) rfl) rfl
theorem wk_6_67 : Cond.code ({ cls := "WaterExchange", name := "run", desc := "(I)I" } : MethodName) prog_1_method_48_code (4 : Nat) (Option.some Jvm.ClassFile.FieldType.int) ∈ GW := gw_6 (List.mem_of_getElem? (i := 67) rfl) rfl
theorem wk_6_75 : Cond.methodLink "WaterExchangeLaw" (98 : Nat) ({ cls := "WaterExchange", name := "lease", desc := "(IIIIII)I" } : MethodName) ∈ GW := gw_6 (List.mem_of_getElem? (i := 75) rfl) rfl
theorem wk_6_76 : Cond.instanceMethod ({ cls := "WaterExchange", name := "lease", desc := "(IIIIII)I" } : MethodName) ∈ GW := gw_6 (List.mem_of_getElem? (i := 76) rfl) rfl
theorem wk_6_77 : Cond.selects "WaterExchange" ({ cls := "WaterExchange", name := "lease", desc := "(IIIIII)I" } : MethodName) ({ cls := "WaterExchange", name := "lease", desc := "(IIIIII)I" } : MethodName) ∈ GW := gw_6 (List.mem_of_getElem? (i := 77) rfl) rfl
theorem wk_6_78 : Cond.code ({ cls := "WaterExchange", name := "lease", desc := "(IIIIII)I" } : MethodName) prog_1_method_49_code (7 : Nat) (Option.some Jvm.ClassFile.FieldType.int) ∈ GW := gw_6 (List.mem_of_getElem? (i := 78) rfl) rfl
theorem wk_6_83 : Cond.methodLink "WaterExchangeLaw" (102 : Nat) ({ cls := "WaterExchange", name := "endLease", desc := "(I)I" } : MethodName) ∈ GW := gw_6 (List.mem_of_getElem? (i := 83) rfl) rfl
theorem wk_6_84 : Cond.instanceMethod ({ cls := "WaterExchange", name := "endLease", desc := "(I)I" } : MethodName) ∈ GW := gw_6 (List.mem_of_getElem? (i := 84) rfl) rfl
theorem wk_6_85 : Cond.selects "WaterExchange" ({ cls := "WaterExchange", name := "endLease", desc := "(I)I" } : MethodName) ({ cls := "WaterExchange", name := "endLease", desc := "(I)I" } : MethodName) ∈ GW := gw_6 (List.mem_of_getElem? (i := 85) rfl) rfl
theorem wk_6_86 : Cond.code ({ cls := "WaterExchange", name := "endLease", desc := "(I)I" } : MethodName) prog_1_method_50_code (3 : Nat) (Option.some Jvm.ClassFile.FieldType.int) ∈ GW := gw_6 (List.mem_of_getElem? (i := 86) rfl) rfl
theorem wk_6_91 : Cond.methodLink "WaterExchangeLaw" (105 : Nat) ({ cls := "WaterExchange", name := "release", desc := "(III)I" } : MethodName) ∈ GW := gw_6 (List.mem_of_getElem? (i := 91) rfl) rfl
theorem wk_6_92 : Cond.instanceMethod ({ cls := "WaterExchange", name := "release", desc := "(III)I" } : MethodName) ∈ GW := gw_6 (List.mem_of_getElem? (i := 92) rfl) rfl
theorem wk_6_93 : Cond.selects "WaterExchange" ({ cls := "WaterExchange", name := "release", desc := "(III)I" } : MethodName) ({ cls := "WaterExchange", name := "release", desc := "(III)I" } : MethodName) ∈ GW := gw_6 (List.mem_of_getElem? (i := 93) rfl) rfl
theorem wk_6_94 : Cond.code ({ cls := "WaterExchange", name := "release", desc := "(III)I" } : MethodName) prog_1_method_51_code (4 : Nat) (Option.some Jvm.ClassFile.FieldType.int) ∈ GW := gw_6 (List.mem_of_getElem? (i := 94) rfl) rfl
abbrev rmL_count : Room := { frames := 7, cells := 1, slots := 6, locals := 135 }
set_option maxHeartbeats 4000000 in
set_option maxRecDepth 100000 in
theorem c_L_count {l : Launch} {E : Ev} (hN : 312 ≤ eN E) (hl9 : l.stackTraces = false) {p1 : Int32} {μ : Mm} {ec t : Nat} {r : Int32} (z0 : F_X3_count p1 μ = some (ec, r)) (hM : (ec, t) ∈ ([(0, 0), (2, 1)] : List (Nat × Nat))) : Met l yL_count (Cond.codeWith yL_count cL_count 4 (some .int) [(0, 9, 12, 19)] :: GW) rmL_count (va_Pc [.ref (eB E + 0), .int p1, .ref (eB E + 311)] (qP E μ)) (qQ E (some (.int (nI t))) (if ec = 0 then uL μ 311 0 r.toInt64 else μ)) rmL_count.cells rmL_count.slots (eA E) := by
  refine cth_of (rm := rmL_count) (by decide) (Nat.le_of_ble_eq_true rfl) (fun p e s m args below meth c C hr ht => ?_)
  have C : Cq E p s m args meth c cL_count 4 RL := C
  have hN2 : 295 ≤ eN E := by omega
  refine gq_lv (lv' := [(0, .ref (eB E + 0)), (1, .int p1), (2, .ref (eB E + 311))]) rfl ?_
  refine gq_aload_n (i := 2) C dL_count_0 rfl 2 rfl ?_
  refine gq_iconst (v := 0) C dL_count_1 (by decide) ?_
  refine gq_aload_n (i := 0) C dL_count_2 rfl 0 rfl ?_
  refine gq_iload_n (i := 1) C dL_count_3 rfl 1 rfl ?_
  rcases (show (ec = 0 ∧ t = 0) ∨ (ec = 2 ∧ t = 1) by simpa using hM) with ⟨rfl, rfl⟩ | ⟨rfl, rfl⟩
  · refine gh_call (name := "java/util/NoSuchElementException") (rest := [.int 0, .ref (eB E + 311)]) C rfl (runx_V (As := [.int p1]) (j := 0) C (c_X3_count hN2 hl9 z0) (qn_l 0 (by decide) hN2) (by decide) (by decide) rfl wk_4_188 wk_4_189 wk_4_190 wk_1_1 wk_4_191 hd_X3_count ⟨(Nat.le_of_ble_eq_true rfl), (Nat.le_of_ble_eq_true rfl)⟩ (Nat.le_of_ble_eq_true rfl) ⟨(Nat.le_of_ble_eq_true rfl), (Nat.le_of_ble_eq_true rfl)⟩ dL_count_4 rfl) (fun h0 => ?_) [] ⟨0, 9, 12, 19⟩ [] (fun h0 => ?_) (fun h0 q => ?_)
    · rw [if_pos rfl]
      refine gq_i2l C dL_count_7 ?_
      refine gq_lastore (μ' := uL μ 311 0 r.toInt64) C (show 311 < eN E by omega) (by decide +kernel) (sL_ok (k := 0) rfl (by rw [ln311]; decide)) dL_count_8 ?_
      refine gq_goto (tgt := 15) C dL_count_9 (by decide) ?_
      refine gq_iconst (v := nI 0) C dL_count_15 (by decide) ?_
      exact gq_iret C hr dL_count_16 (Nat.le_of_ble_eq_true rfl) (Nat.le_of_ble_eq_true rfl)
    · exact absurd rfl h0
    · exact absurd rfl h0
  · refine gh_call (name := "java/util/NoSuchElementException") (rest := [.int 0, .ref (eB E + 311)]) C rfl (runx_V (As := [.int p1]) (j := 0) C (c_X3_count hN2 hl9 z0) (qn_l 0 (by decide) hN2) (by decide) (by decide) rfl wk_4_188 wk_4_189 wk_4_190 wk_1_1 wk_4_191 hd_X3_count ⟨(Nat.le_of_ble_eq_true rfl), (Nat.le_of_ble_eq_true rfl)⟩ (Nat.le_of_ble_eq_true rfl) ⟨(Nat.le_of_ble_eq_true rfl), (Nat.le_of_ble_eq_true rfl)⟩ dL_count_4 rfl) (fun h0 => ?_) [] ⟨0, 9, 12, 19⟩ [] (fun h0 => ?_) (fun h0 q => ?_)
    · exact absurd h0 (by decide)
    · exact ⟨ht, fun z hz => absurd hz List.not_mem_nil, by decide, by decide, wk_4_187, wk_4_194⟩
    · rw [if_neg (by decide)]
      refine gq_astore_n (i := 3) C dL_count_12 rfl (by decide) rfl ?_
      refine gq_iconst (v := nI 1) C dL_count_13 (by decide) ?_
      exact gq_iret C hr dL_count_14 (Nat.le_of_ble_eq_true rfl) (Nat.le_of_ble_eq_true rfl)
abbrev rmL_season : Room := { frames := 8, cells := 1, slots := 6, locals := 156 }
set_option maxHeartbeats 4000000 in
set_option maxRecDepth 100000 in
theorem c_L_season {l : Launch} {E : Ev} (hN : 312 ≤ eN E) (hl9 : l.stackTraces = false) {p1 : Int32} {μ : Mm} {ec t : Nat} {r : Int32} (z0 : F_X3_season p1 μ = some (ec, r)) (hM : (ec, t) ∈ ([(0, 0), (2, 1)] : List (Nat × Nat))) : Met l yL_season (Cond.codeWith yL_season cL_season 4 (some .int) [(0, 9, 12, 19)] :: GW) rmL_season (va_Pc [.ref (eB E + 0), .int p1, .ref (eB E + 311)] (qP E μ)) (qQ E (some (.int (nI t))) (if ec = 0 then uL μ 311 0 r.toInt64 else μ)) rmL_season.cells rmL_season.slots (eA E) := by
  refine cth_of (rm := rmL_season) (by decide) (Nat.le_of_ble_eq_true rfl) (fun p e s m args below meth c C hr ht => ?_)
  have C : Cq E p s m args meth c cL_season 4 RL := C
  have hN2 : 295 ≤ eN E := by omega
  refine gq_lv (lv' := [(0, .ref (eB E + 0)), (1, .int p1), (2, .ref (eB E + 311))]) rfl ?_
  refine gq_aload_n (i := 2) C dL_season_0 rfl 2 rfl ?_
  refine gq_iconst (v := 0) C dL_season_1 (by decide) ?_
  refine gq_aload_n (i := 0) C dL_season_2 rfl 0 rfl ?_
  refine gq_iload_n (i := 1) C dL_season_3 rfl 1 rfl ?_
  rcases (show (ec = 0 ∧ t = 0) ∨ (ec = 2 ∧ t = 1) by simpa using hM) with ⟨rfl, rfl⟩ | ⟨rfl, rfl⟩
  · refine gh_call (name := "java/util/NoSuchElementException") (rest := [.int 0, .ref (eB E + 311)]) C rfl (runx_V (As := [.int p1]) (j := 0) C (c_X3_season hN2 hl9 z0) (qn_l 0 (by decide) hN2) (by decide) (by decide) rfl wk_4_211 wk_4_212 wk_4_213 wk_1_1 wk_4_214 hd_X3_season ⟨(Nat.le_of_ble_eq_true rfl), (Nat.le_of_ble_eq_true rfl)⟩ (Nat.le_of_ble_eq_true rfl) ⟨(Nat.le_of_ble_eq_true rfl), (Nat.le_of_ble_eq_true rfl)⟩ dL_season_4 rfl) (fun h0 => ?_) [] ⟨0, 9, 12, 19⟩ [] (fun h0 => ?_) (fun h0 q => ?_)
    · rw [if_pos rfl]
      refine gq_i2l C dL_season_7 ?_
      refine gq_lastore (μ' := uL μ 311 0 r.toInt64) C (show 311 < eN E by omega) (by decide +kernel) (sL_ok (k := 0) rfl (by rw [ln311]; decide)) dL_season_8 ?_
      refine gq_goto (tgt := 15) C dL_season_9 (by decide) ?_
      refine gq_iconst (v := nI 0) C dL_season_15 (by decide) ?_
      exact gq_iret C hr dL_season_16 (Nat.le_of_ble_eq_true rfl) (Nat.le_of_ble_eq_true rfl)
    · exact absurd rfl h0
    · exact absurd rfl h0
  · refine gh_call (name := "java/util/NoSuchElementException") (rest := [.int 0, .ref (eB E + 311)]) C rfl (runx_V (As := [.int p1]) (j := 0) C (c_X3_season hN2 hl9 z0) (qn_l 0 (by decide) hN2) (by decide) (by decide) rfl wk_4_211 wk_4_212 wk_4_213 wk_1_1 wk_4_214 hd_X3_season ⟨(Nat.le_of_ble_eq_true rfl), (Nat.le_of_ble_eq_true rfl)⟩ (Nat.le_of_ble_eq_true rfl) ⟨(Nat.le_of_ble_eq_true rfl), (Nat.le_of_ble_eq_true rfl)⟩ dL_season_4 rfl) (fun h0 => ?_) [] ⟨0, 9, 12, 19⟩ [] (fun h0 => ?_) (fun h0 q => ?_)
    · exact absurd h0 (by decide)
    · exact ⟨ht, fun z hz => absurd hz List.not_mem_nil, by decide, by decide, wk_4_187, wk_4_194⟩
    · rw [if_neg (by decide)]
      refine gq_astore_n (i := 3) C dL_season_12 rfl (by decide) rfl ?_
      refine gq_iconst (v := nI 1) C dL_season_13 (by decide) ?_
      exact gq_iret C hr dL_season_14 (Nat.le_of_ble_eq_true rfl) (Nat.le_of_ble_eq_true rfl)
abbrev rmL_yearPercent : Room := { frames := 7, cells := 1, slots := 6, locals := 135 }
set_option maxHeartbeats 4000000 in
set_option maxRecDepth 100000 in
theorem c_L_yearPercent {l : Launch} {E : Ev} (hN : 312 ≤ eN E) (hl9 : l.stackTraces = false) {p1 : Int32} {μ : Mm} {ec t : Nat} {r : Int32} (z0 : F_X3_yearPercent p1 μ = some (ec, r)) (hM : (ec, t) ∈ ([(0, 0), (2, 1)] : List (Nat × Nat))) : Met l yL_yearPercent (Cond.codeWith yL_yearPercent cL_yearPercent 4 (some .int) [(0, 9, 12, 19)] :: GW) rmL_yearPercent (va_Pc [.ref (eB E + 0), .int p1, .ref (eB E + 311)] (qP E μ)) (qQ E (some (.int (nI t))) (if ec = 0 then uL μ 311 0 r.toInt64 else μ)) rmL_yearPercent.cells rmL_yearPercent.slots (eA E) := by
  refine cth_of (rm := rmL_yearPercent) (by decide) (Nat.le_of_ble_eq_true rfl) (fun p e s m args below meth c C hr ht => ?_)
  have C : Cq E p s m args meth c cL_yearPercent 4 RL := C
  have hN2 : 295 ≤ eN E := by omega
  refine gq_lv (lv' := [(0, .ref (eB E + 0)), (1, .int p1), (2, .ref (eB E + 311))]) rfl ?_
  refine gq_aload_n (i := 2) C dL_yearPercent_0 rfl 2 rfl ?_
  refine gq_iconst (v := 0) C dL_yearPercent_1 (by decide) ?_
  refine gq_aload_n (i := 0) C dL_yearPercent_2 rfl 0 rfl ?_
  refine gq_iload_n (i := 1) C dL_yearPercent_3 rfl 1 rfl ?_
  rcases (show (ec = 0 ∧ t = 0) ∨ (ec = 2 ∧ t = 1) by simpa using hM) with ⟨rfl, rfl⟩ | ⟨rfl, rfl⟩
  · refine gh_call (name := "java/util/NoSuchElementException") (rest := [.int 0, .ref (eB E + 311)]) C rfl (runx_V (As := [.int p1]) (j := 0) C (c_X3_yearPercent hN2 hl9 z0) (qn_l 0 (by decide) hN2) (by decide) (by decide) rfl wk_4_226 wk_4_227 wk_4_228 wk_1_1 wk_4_229 hd_X3_yearPercent ⟨(Nat.le_of_ble_eq_true rfl), (Nat.le_of_ble_eq_true rfl)⟩ (Nat.le_of_ble_eq_true rfl) ⟨(Nat.le_of_ble_eq_true rfl), (Nat.le_of_ble_eq_true rfl)⟩ dL_yearPercent_4 rfl) (fun h0 => ?_) [] ⟨0, 9, 12, 19⟩ [] (fun h0 => ?_) (fun h0 q => ?_)
    · rw [if_pos rfl]
      refine gq_i2l C dL_yearPercent_7 ?_
      refine gq_lastore (μ' := uL μ 311 0 r.toInt64) C (show 311 < eN E by omega) (by decide +kernel) (sL_ok (k := 0) rfl (by rw [ln311]; decide)) dL_yearPercent_8 ?_
      refine gq_goto (tgt := 15) C dL_yearPercent_9 (by decide) ?_
      refine gq_iconst (v := nI 0) C dL_yearPercent_15 (by decide) ?_
      exact gq_iret C hr dL_yearPercent_16 (Nat.le_of_ble_eq_true rfl) (Nat.le_of_ble_eq_true rfl)
    · exact absurd rfl h0
    · exact absurd rfl h0
  · refine gh_call (name := "java/util/NoSuchElementException") (rest := [.int 0, .ref (eB E + 311)]) C rfl (runx_V (As := [.int p1]) (j := 0) C (c_X3_yearPercent hN2 hl9 z0) (qn_l 0 (by decide) hN2) (by decide) (by decide) rfl wk_4_226 wk_4_227 wk_4_228 wk_1_1 wk_4_229 hd_X3_yearPercent ⟨(Nat.le_of_ble_eq_true rfl), (Nat.le_of_ble_eq_true rfl)⟩ (Nat.le_of_ble_eq_true rfl) ⟨(Nat.le_of_ble_eq_true rfl), (Nat.le_of_ble_eq_true rfl)⟩ dL_yearPercent_4 rfl) (fun h0 => ?_) [] ⟨0, 9, 12, 19⟩ [] (fun h0 => ?_) (fun h0 q => ?_)
    · exact absurd h0 (by decide)
    · exact ⟨ht, fun z hz => absurd hz List.not_mem_nil, by decide, by decide, wk_4_187, wk_4_194⟩
    · rw [if_neg (by decide)]
      refine gq_astore_n (i := 3) C dL_yearPercent_12 rfl (by decide) rfl ?_
      refine gq_iconst (v := nI 1) C dL_yearPercent_13 (by decide) ?_
      exact gq_iret C hr dL_yearPercent_14 (Nat.le_of_ble_eq_true rfl) (Nat.le_of_ble_eq_true rfl)
abbrev rmL_reach : Room := { frames := 8, cells := 2, slots := 12, locals := 156 }
set_option maxHeartbeats 4000000 in
set_option maxRecDepth 100000 in
theorem c_L_reach {l : Launch} {E : Ev} (hN : 312 ≤ eN E) (hl9 : l.stackTraces = false) {p1 : Int32} {p2 : Int32} {μ : Mm} {ec t : Nat} {r : Int32} (z0 : F_X3_reach p1 p2 μ = some (ec, r)) (hM : (ec, t) ∈ ([(0, 0), (1, 1), (2, 2)] : List (Nat × Nat))) : Met l yL_reach (Cond.codeWith yL_reach cL_reach 5 (some .int) [(0, 10, 13, 31), (0, 10, 17, 19)] :: GW) rmL_reach (va_Pc [.ref (eB E + 0), .int p1, .int p2, .ref (eB E + 311)] (qP E μ)) (qQ E (some (.int (nI t))) (if ec = 0 then uL μ 311 0 r.toInt64 else μ)) rmL_reach.cells rmL_reach.slots (eA E) := by
  refine cth_of (rm := rmL_reach) (by decide) (Nat.le_of_ble_eq_true rfl) (fun p e s m args below meth c C hr ht => ?_)
  have C : Cq E p s m args meth c cL_reach 5 RL := C
  have hN2 : 295 ≤ eN E := by omega
  refine gq_lv (lv' := [(0, .ref (eB E + 0)), (1, .int p1), (2, .int p2), (3, .ref (eB E + 311))]) rfl ?_
  refine gq_aload_n (i := 3) C dL_reach_0 rfl 3 rfl ?_
  refine gq_iconst (v := 0) C dL_reach_1 (by decide) ?_
  refine gq_aload_n (i := 0) C dL_reach_2 rfl 0 rfl ?_
  refine gq_iload_n (i := 1) C dL_reach_3 rfl 1 rfl ?_
  refine gq_iload_n (i := 2) C dL_reach_4 rfl 2 rfl ?_
  rcases (show (ec = 0 ∧ t = 0) ∨ (ec = 1 ∧ t = 1) ∨ (ec = 2 ∧ t = 2) by simpa using hM) with ⟨rfl, rfl⟩ | ⟨rfl, rfl⟩ | ⟨rfl, rfl⟩
  · refine gh_call (name := "java/lang/IndexOutOfBoundsException") (rest := [.int 0, .ref (eB E + 311)]) C rfl (runx_V (As := [.int p1, .int p2]) (j := 0) C (c_X3_reach hN2 hl9 z0) (qn_l 0 (by decide) hN2) (by decide) (by decide) rfl wk_4_236 wk_4_237 wk_4_238 wk_1_1 wk_4_239 hd_X3_reach ⟨(Nat.le_of_ble_eq_true rfl), (Nat.le_of_ble_eq_true rfl)⟩ (Nat.le_of_ble_eq_true rfl) ⟨(Nat.le_of_ble_eq_true rfl), (Nat.le_of_ble_eq_true rfl)⟩ dL_reach_5 rfl) (fun h0 => ?_) [] ⟨0, 10, 13, 31⟩ [⟨0, 10, 17, 19⟩] (fun h0 => ?_) (fun h0 q => ?_)
    · rw [if_pos rfl]
      refine gq_i2l C dL_reach_8 ?_
      refine gq_lastore (μ' := uL μ 311 0 r.toInt64) C (show 311 < eN E by omega) (by decide +kernel) (sL_ok (k := 0) rfl (by rw [ln311]; decide)) dL_reach_9 ?_
      refine gq_goto (tgt := 21) C dL_reach_10 (by decide) ?_
      refine gq_iconst (v := nI 0) C dL_reach_21 (by decide) ?_
      exact gq_iret C hr dL_reach_22 (Nat.le_of_ble_eq_true rfl) (Nat.le_of_ble_eq_true rfl)
    · exact absurd rfl h0
    · exact absurd rfl h0
  · refine gh_call (name := "java/lang/IndexOutOfBoundsException") (rest := [.int 0, .ref (eB E + 311)]) C rfl (runx_V (As := [.int p1, .int p2]) (j := 0) C (c_X3_reach hN2 hl9 z0) (qn_l 0 (by decide) hN2) (by decide) (by decide) rfl wk_4_236 wk_4_237 wk_4_238 wk_1_1 wk_4_239 hd_X3_reach ⟨(Nat.le_of_ble_eq_true rfl), (Nat.le_of_ble_eq_true rfl)⟩ (Nat.le_of_ble_eq_true rfl) ⟨(Nat.le_of_ble_eq_true rfl), (Nat.le_of_ble_eq_true rfl)⟩ dL_reach_5 rfl) (fun h0 => ?_) [] ⟨0, 10, 13, 31⟩ [⟨0, 10, 17, 19⟩] (fun h0 => ?_) (fun h0 q => ?_)
    · exact absurd h0 (by decide)
    · exact ⟨ht, fun z hz => absurd hz List.not_mem_nil, by decide, by decide, wk_4_235, wk_5_6⟩
    · rw [if_neg (by decide)]
      refine gq_astore (i := 4) C dL_reach_13 (by decide) rfl ?_
      refine gq_iconst (v := nI 1) C dL_reach_15 (by decide) ?_
      exact gq_iret C hr dL_reach_16 (Nat.le_of_ble_eq_true rfl) (Nat.le_of_ble_eq_true rfl)
  · refine gh_call (name := "java/util/NoSuchElementException") (rest := [.int 0, .ref (eB E + 311)]) C rfl (runx_V (As := [.int p1, .int p2]) (j := 0) C (c_X3_reach hN2 hl9 z0) (qn_l 0 (by decide) hN2) (by decide) (by decide) rfl wk_4_236 wk_4_237 wk_4_238 wk_1_1 wk_4_239 hd_X3_reach ⟨(Nat.le_of_ble_eq_true rfl), (Nat.le_of_ble_eq_true rfl)⟩ (Nat.le_of_ble_eq_true rfl) ⟨(Nat.le_of_ble_eq_true rfl), (Nat.le_of_ble_eq_true rfl)⟩ dL_reach_5 rfl) (fun h0 => ?_) [⟨0, 10, 13, 31⟩] ⟨0, 10, 17, 19⟩ [] (fun h0 => ?_) (fun h0 q => ?_)
    · exact absurd h0 (by decide)
    · exact ⟨ht, fun z hz => by obtain rfl := List.mem_singleton.mp hz; exact Or.inr ⟨by decide, "java/lang/IndexOutOfBoundsException", wk_4_235, by decide +kernel⟩, by decide, by decide, wk_4_187, wk_4_194⟩
    · rw [if_neg (by decide)]
      refine gq_astore (i := 4) C dL_reach_17 (by decide) rfl ?_
      refine gq_iconst (v := nI 2) C dL_reach_19 (by decide) ?_
      exact gq_iret C hr dL_reach_20 (Nat.le_of_ble_eq_true rfl) (Nat.le_of_ble_eq_true rfl)
abbrev rmL_coming : Room := { frames := 8, cells := 1, slots := 6, locals := 156 }
set_option maxHeartbeats 4000000 in
set_option maxRecDepth 100000 in
theorem c_L_coming {l : Launch} {E : Ev} (hN : 312 ≤ eN E) (hl9 : l.stackTraces = false) {p1 : Int32} {μ : Mm} {ec t : Nat} {r : Int32} (z0 : F_X3_coming p1 μ = some (ec, r)) (hM : (ec, t) ∈ ([(0, 0), (1, 1)] : List (Nat × Nat))) : Met l yL_coming (Cond.codeWith yL_coming cL_coming 4 (some .int) [(0, 9, 12, 31)] :: GW) rmL_coming (va_Pc [.ref (eB E + 0), .int p1, .ref (eB E + 311)] (qP E μ)) (qQ E (some (.int (nI t))) (if ec = 0 then uL μ 311 0 r.toInt64 else μ)) rmL_coming.cells rmL_coming.slots (eA E) := by
  refine cth_of (rm := rmL_coming) (by decide) (Nat.le_of_ble_eq_true rfl) (fun p e s m args below meth c C hr ht => ?_)
  have C : Cq E p s m args meth c cL_coming 4 RL := C
  have hN2 : 295 ≤ eN E := by omega
  refine gq_lv (lv' := [(0, .ref (eB E + 0)), (1, .int p1), (2, .ref (eB E + 311))]) rfl ?_
  refine gq_aload_n (i := 2) C dL_coming_0 rfl 2 rfl ?_
  refine gq_iconst (v := 0) C dL_coming_1 (by decide) ?_
  refine gq_aload_n (i := 0) C dL_coming_2 rfl 0 rfl ?_
  refine gq_iload_n (i := 1) C dL_coming_3 rfl 1 rfl ?_
  rcases (show (ec = 0 ∧ t = 0) ∨ (ec = 1 ∧ t = 1) by simpa using hM) with ⟨rfl, rfl⟩ | ⟨rfl, rfl⟩
  · refine gh_call (name := "java/lang/IndexOutOfBoundsException") (rest := [.int 0, .ref (eB E + 311)]) C rfl (runx_V (As := [.int p1]) (j := 0) C (c_X3_coming hN2 hl9 z0) (qn_l 0 (by decide) hN2) (by decide) (by decide) rfl wk_5_20 wk_5_21 wk_5_22 wk_1_1 wk_5_23 hd_X3_coming ⟨(Nat.le_of_ble_eq_true rfl), (Nat.le_of_ble_eq_true rfl)⟩ (Nat.le_of_ble_eq_true rfl) ⟨(Nat.le_of_ble_eq_true rfl), (Nat.le_of_ble_eq_true rfl)⟩ dL_coming_4 rfl) (fun h0 => ?_) [] ⟨0, 9, 12, 31⟩ [] (fun h0 => ?_) (fun h0 q => ?_)
    · rw [if_pos rfl]
      refine gq_i2l C dL_coming_7 ?_
      refine gq_lastore (μ' := uL μ 311 0 r.toInt64) C (show 311 < eN E by omega) (by decide +kernel) (sL_ok (k := 0) rfl (by rw [ln311]; decide)) dL_coming_8 ?_
      refine gq_goto (tgt := 15) C dL_coming_9 (by decide) ?_
      refine gq_iconst (v := nI 0) C dL_coming_15 (by decide) ?_
      exact gq_iret C hr dL_coming_16 (Nat.le_of_ble_eq_true rfl) (Nat.le_of_ble_eq_true rfl)
    · exact absurd rfl h0
    · exact absurd rfl h0
  · refine gh_call (name := "java/lang/IndexOutOfBoundsException") (rest := [.int 0, .ref (eB E + 311)]) C rfl (runx_V (As := [.int p1]) (j := 0) C (c_X3_coming hN2 hl9 z0) (qn_l 0 (by decide) hN2) (by decide) (by decide) rfl wk_5_20 wk_5_21 wk_5_22 wk_1_1 wk_5_23 hd_X3_coming ⟨(Nat.le_of_ble_eq_true rfl), (Nat.le_of_ble_eq_true rfl)⟩ (Nat.le_of_ble_eq_true rfl) ⟨(Nat.le_of_ble_eq_true rfl), (Nat.le_of_ble_eq_true rfl)⟩ dL_coming_4 rfl) (fun h0 => ?_) [] ⟨0, 9, 12, 31⟩ [] (fun h0 => ?_) (fun h0 q => ?_)
    · exact absurd h0 (by decide)
    · exact ⟨ht, fun z hz => absurd hz List.not_mem_nil, by decide, by decide, wk_4_235, wk_5_6⟩
    · rw [if_neg (by decide)]
      refine gq_astore_n (i := 3) C dL_coming_12 rfl (by decide) rfl ?_
      refine gq_iconst (v := nI 1) C dL_coming_13 (by decide) ?_
      exact gq_iret C hr dL_coming_14 (Nat.le_of_ble_eq_true rfl) (Nat.le_of_ble_eq_true rfl)
abbrev rmL_balance : Room := { frames := 8, cells := 1, slots := 6, locals := 156 }
set_option maxHeartbeats 4000000 in
set_option maxRecDepth 100000 in
theorem c_L_balance {l : Launch} {E : Ev} (hN : 312 ≤ eN E) (hl9 : l.stackTraces = false) {p1 : Int32} {μ : Mm} {ec t : Nat} {r : Int64} (z0 : F_X3_balance p1 μ = some (ec, r)) (hM : (ec, t) ∈ ([(0, 0), (1, 1)] : List (Nat × Nat))) : Met l yL_balance (Cond.codeWith yL_balance cL_balance 4 (some .int) [(0, 8, 11, 31)] :: GW) rmL_balance (va_Pc [.ref (eB E + 0), .int p1, .ref (eB E + 311)] (qP E μ)) (qQ E (some (.int (nI t))) (if ec = 0 then uL μ 311 0 r else μ)) rmL_balance.cells rmL_balance.slots (eA E) := by
  refine cth_of (rm := rmL_balance) (by decide) (Nat.le_of_ble_eq_true rfl) (fun p e s m args below meth c C hr ht => ?_)
  have C : Cq E p s m args meth c cL_balance 4 RL := C
  have hN2 : 295 ≤ eN E := by omega
  refine gq_lv (lv' := [(0, .ref (eB E + 0)), (1, .int p1), (2, .ref (eB E + 311))]) rfl ?_
  refine gq_aload_n (i := 2) C dL_balance_0 rfl 2 rfl ?_
  refine gq_iconst (v := 0) C dL_balance_1 (by decide) ?_
  refine gq_aload_n (i := 0) C dL_balance_2 rfl 0 rfl ?_
  refine gq_iload_n (i := 1) C dL_balance_3 rfl 1 rfl ?_
  rcases (show (ec = 0 ∧ t = 0) ∨ (ec = 1 ∧ t = 1) by simpa using hM) with ⟨rfl, rfl⟩ | ⟨rfl, rfl⟩
  · refine gh_call (name := "java/lang/IndexOutOfBoundsException") (rest := [.int 0, .ref (eB E + 311)]) C rfl (runx_V (As := [.int p1]) (j := 0) C (c_X3_balance hN2 hl9 z0) (qn_l 0 (by decide) hN2) (by decide) (by decide) rfl wk_5_32 wk_5_33 wk_5_34 wk_1_1 wk_5_35 hd_X3_balance ⟨(Nat.le_of_ble_eq_true rfl), (Nat.le_of_ble_eq_true rfl)⟩ (Nat.le_of_ble_eq_true rfl) ⟨(Nat.le_of_ble_eq_true rfl), (Nat.le_of_ble_eq_true rfl)⟩ dL_balance_4 rfl) (fun h0 => ?_) [] ⟨0, 8, 11, 31⟩ [] (fun h0 => ?_) (fun h0 q => ?_)
    · rw [if_pos rfl]
      refine gq_lastore (μ' := uL μ 311 0 r) C (show 311 < eN E by omega) (by decide +kernel) (sL_ok (k := 0) rfl (by rw [ln311]; decide)) dL_balance_7 ?_
      refine gq_goto (tgt := 14) C dL_balance_8 (by decide) ?_
      refine gq_iconst (v := nI 0) C dL_balance_14 (by decide) ?_
      exact gq_iret C hr dL_balance_15 (Nat.le_of_ble_eq_true rfl) (Nat.le_of_ble_eq_true rfl)
    · exact absurd rfl h0
    · exact absurd rfl h0
  · refine gh_call (name := "java/lang/IndexOutOfBoundsException") (rest := [.int 0, .ref (eB E + 311)]) C rfl (runx_V (As := [.int p1]) (j := 0) C (c_X3_balance hN2 hl9 z0) (qn_l 0 (by decide) hN2) (by decide) (by decide) rfl wk_5_32 wk_5_33 wk_5_34 wk_1_1 wk_5_35 hd_X3_balance ⟨(Nat.le_of_ble_eq_true rfl), (Nat.le_of_ble_eq_true rfl)⟩ (Nat.le_of_ble_eq_true rfl) ⟨(Nat.le_of_ble_eq_true rfl), (Nat.le_of_ble_eq_true rfl)⟩ dL_balance_4 rfl) (fun h0 => ?_) [] ⟨0, 8, 11, 31⟩ [] (fun h0 => ?_) (fun h0 q => ?_)
    · exact absurd h0 (by decide)
    · exact ⟨ht, fun z hz => absurd hz List.not_mem_nil, by decide, by decide, wk_4_235, wk_5_6⟩
    · rw [if_neg (by decide)]
      refine gq_astore_n (i := 3) C dL_balance_11 rfl (by decide) rfl ?_
      refine gq_iconst (v := nI 1) C dL_balance_12 (by decide) ?_
      exact gq_iret C hr dL_balance_13 (Nat.le_of_ble_eq_true rfl) (Nat.le_of_ble_eq_true rfl)
abbrev rmL_bank : Room := { frames := 8, cells := 1, slots := 6, locals := 156 }
set_option maxHeartbeats 4000000 in
set_option maxRecDepth 100000 in
theorem c_L_bank {l : Launch} {E : Ev} (hN : 312 ≤ eN E) (hl9 : l.stackTraces = false) {p1 : Int32} {μ : Mm} {ec t : Nat} {r : Int32} (z0 : F_X3_bank p1 μ = some (ec, r)) (hM : (ec, t) ∈ ([(0, 0), (1, 1)] : List (Nat × Nat))) : Met l yL_bank (Cond.codeWith yL_bank cL_bank 4 (some .int) [(0, 9, 12, 31)] :: GW) rmL_bank (va_Pc [.ref (eB E + 0), .int p1, .ref (eB E + 311)] (qP E μ)) (qQ E (some (.int (nI t))) (if ec = 0 then uL μ 311 0 r.toInt64 else μ)) rmL_bank.cells rmL_bank.slots (eA E) := by
  refine cth_of (rm := rmL_bank) (by decide) (Nat.le_of_ble_eq_true rfl) (fun p e s m args below meth c C hr ht => ?_)
  have C : Cq E p s m args meth c cL_bank 4 RL := C
  have hN2 : 295 ≤ eN E := by omega
  refine gq_lv (lv' := [(0, .ref (eB E + 0)), (1, .int p1), (2, .ref (eB E + 311))]) rfl ?_
  refine gq_aload_n (i := 2) C dL_bank_0 rfl 2 rfl ?_
  refine gq_iconst (v := 0) C dL_bank_1 (by decide) ?_
  refine gq_aload_n (i := 0) C dL_bank_2 rfl 0 rfl ?_
  refine gq_iload_n (i := 1) C dL_bank_3 rfl 1 rfl ?_
  rcases (show (ec = 0 ∧ t = 0) ∨ (ec = 1 ∧ t = 1) by simpa using hM) with ⟨rfl, rfl⟩ | ⟨rfl, rfl⟩
  · refine gh_call (name := "java/lang/IndexOutOfBoundsException") (rest := [.int 0, .ref (eB E + 311)]) C rfl (runx_V (As := [.int p1]) (j := 0) C (c_X3_bank hN2 hl9 z0) (qn_l 0 (by decide) hN2) (by decide) (by decide) rfl wk_5_39 wk_5_40 wk_5_41 wk_1_1 wk_5_42 hd_X3_bank ⟨(Nat.le_of_ble_eq_true rfl), (Nat.le_of_ble_eq_true rfl)⟩ (Nat.le_of_ble_eq_true rfl) ⟨(Nat.le_of_ble_eq_true rfl), (Nat.le_of_ble_eq_true rfl)⟩ dL_bank_4 rfl) (fun h0 => ?_) [] ⟨0, 9, 12, 31⟩ [] (fun h0 => ?_) (fun h0 q => ?_)
    · rw [if_pos rfl]
      refine gq_i2l C dL_bank_7 ?_
      refine gq_lastore (μ' := uL μ 311 0 r.toInt64) C (show 311 < eN E by omega) (by decide +kernel) (sL_ok (k := 0) rfl (by rw [ln311]; decide)) dL_bank_8 ?_
      refine gq_goto (tgt := 15) C dL_bank_9 (by decide) ?_
      refine gq_iconst (v := nI 0) C dL_bank_15 (by decide) ?_
      exact gq_iret C hr dL_bank_16 (Nat.le_of_ble_eq_true rfl) (Nat.le_of_ble_eq_true rfl)
    · exact absurd rfl h0
    · exact absurd rfl h0
  · refine gh_call (name := "java/lang/IndexOutOfBoundsException") (rest := [.int 0, .ref (eB E + 311)]) C rfl (runx_V (As := [.int p1]) (j := 0) C (c_X3_bank hN2 hl9 z0) (qn_l 0 (by decide) hN2) (by decide) (by decide) rfl wk_5_39 wk_5_40 wk_5_41 wk_1_1 wk_5_42 hd_X3_bank ⟨(Nat.le_of_ble_eq_true rfl), (Nat.le_of_ble_eq_true rfl)⟩ (Nat.le_of_ble_eq_true rfl) ⟨(Nat.le_of_ble_eq_true rfl), (Nat.le_of_ble_eq_true rfl)⟩ dL_bank_4 rfl) (fun h0 => ?_) [] ⟨0, 9, 12, 31⟩ [] (fun h0 => ?_) (fun h0 q => ?_)
    · exact absurd h0 (by decide)
    · exact ⟨ht, fun z hz => absurd hz List.not_mem_nil, by decide, by decide, wk_4_235, wk_5_6⟩
    · rw [if_neg (by decide)]
      refine gq_astore_n (i := 3) C dL_bank_12 rfl (by decide) rfl ?_
      refine gq_iconst (v := nI 1) C dL_bank_13 (by decide) ?_
      exact gq_iret C hr dL_bank_14 (Nat.le_of_ble_eq_true rfl) (Nat.le_of_ble_eq_true rfl)
abbrev rmL_right : Room := { frames := 8, cells := 2, slots := 12, locals := 156 }
set_option maxHeartbeats 4000000 in
set_option maxRecDepth 100000 in
theorem c_L_right {l : Launch} {E : Ev} (hN : 312 ≤ eN E) (hl9 : l.stackTraces = false) {p1 : Int32} {p2 : Int32} {μ : Mm} {ec t : Nat} {r : Int32} (z0 : F_X3_right p1 p2 μ = some (ec, r)) (hM : (ec, t) ∈ ([(0, 0), (1, 1), (2, 2)] : List (Nat × Nat))) : Met l yL_right (Cond.codeWith yL_right cL_right 5 (some .int) [(0, 10, 13, 31), (0, 10, 17, 19)] :: GW) rmL_right (va_Pc [.ref (eB E + 0), .int p1, .int p2, .ref (eB E + 311)] (qP E μ)) (qQ E (some (.int (nI t))) (if ec = 0 then uL μ 311 0 r.toInt64 else μ)) rmL_right.cells rmL_right.slots (eA E) := by
  refine cth_of (rm := rmL_right) (by decide) (Nat.le_of_ble_eq_true rfl) (fun p e s m args below meth c C hr ht => ?_)
  have C : Cq E p s m args meth c cL_right 5 RL := C
  have hN2 : 295 ≤ eN E := by omega
  refine gq_lv (lv' := [(0, .ref (eB E + 0)), (1, .int p1), (2, .int p2), (3, .ref (eB E + 311))]) rfl ?_
  refine gq_aload_n (i := 3) C dL_right_0 rfl 3 rfl ?_
  refine gq_iconst (v := 0) C dL_right_1 (by decide) ?_
  refine gq_aload_n (i := 0) C dL_right_2 rfl 0 rfl ?_
  refine gq_iload_n (i := 1) C dL_right_3 rfl 1 rfl ?_
  refine gq_iload_n (i := 2) C dL_right_4 rfl 2 rfl ?_
  rcases (show (ec = 0 ∧ t = 0) ∨ (ec = 1 ∧ t = 1) ∨ (ec = 2 ∧ t = 2) by simpa using hM) with ⟨rfl, rfl⟩ | ⟨rfl, rfl⟩ | ⟨rfl, rfl⟩
  · refine gh_call (name := "java/lang/IndexOutOfBoundsException") (rest := [.int 0, .ref (eB E + 311)]) C rfl (runx_V (As := [.int p1, .int p2]) (j := 0) C (c_X3_right hN2 hl9 z0) (qn_l 0 (by decide) hN2) (by decide) (by decide) rfl wk_5_46 wk_5_47 wk_5_48 wk_1_1 wk_5_49 hd_X3_right ⟨(Nat.le_of_ble_eq_true rfl), (Nat.le_of_ble_eq_true rfl)⟩ (Nat.le_of_ble_eq_true rfl) ⟨(Nat.le_of_ble_eq_true rfl), (Nat.le_of_ble_eq_true rfl)⟩ dL_right_5 rfl) (fun h0 => ?_) [] ⟨0, 10, 13, 31⟩ [⟨0, 10, 17, 19⟩] (fun h0 => ?_) (fun h0 q => ?_)
    · rw [if_pos rfl]
      refine gq_i2l C dL_right_8 ?_
      refine gq_lastore (μ' := uL μ 311 0 r.toInt64) C (show 311 < eN E by omega) (by decide +kernel) (sL_ok (k := 0) rfl (by rw [ln311]; decide)) dL_right_9 ?_
      refine gq_goto (tgt := 21) C dL_right_10 (by decide) ?_
      refine gq_iconst (v := nI 0) C dL_right_21 (by decide) ?_
      exact gq_iret C hr dL_right_22 (Nat.le_of_ble_eq_true rfl) (Nat.le_of_ble_eq_true rfl)
    · exact absurd rfl h0
    · exact absurd rfl h0
  · refine gh_call (name := "java/lang/IndexOutOfBoundsException") (rest := [.int 0, .ref (eB E + 311)]) C rfl (runx_V (As := [.int p1, .int p2]) (j := 0) C (c_X3_right hN2 hl9 z0) (qn_l 0 (by decide) hN2) (by decide) (by decide) rfl wk_5_46 wk_5_47 wk_5_48 wk_1_1 wk_5_49 hd_X3_right ⟨(Nat.le_of_ble_eq_true rfl), (Nat.le_of_ble_eq_true rfl)⟩ (Nat.le_of_ble_eq_true rfl) ⟨(Nat.le_of_ble_eq_true rfl), (Nat.le_of_ble_eq_true rfl)⟩ dL_right_5 rfl) (fun h0 => ?_) [] ⟨0, 10, 13, 31⟩ [⟨0, 10, 17, 19⟩] (fun h0 => ?_) (fun h0 q => ?_)
    · exact absurd h0 (by decide)
    · exact ⟨ht, fun z hz => absurd hz List.not_mem_nil, by decide, by decide, wk_4_235, wk_5_6⟩
    · rw [if_neg (by decide)]
      refine gq_astore (i := 4) C dL_right_13 (by decide) rfl ?_
      refine gq_iconst (v := nI 1) C dL_right_15 (by decide) ?_
      exact gq_iret C hr dL_right_16 (Nat.le_of_ble_eq_true rfl) (Nat.le_of_ble_eq_true rfl)
  · refine gh_call (name := "java/util/NoSuchElementException") (rest := [.int 0, .ref (eB E + 311)]) C rfl (runx_V (As := [.int p1, .int p2]) (j := 0) C (c_X3_right hN2 hl9 z0) (qn_l 0 (by decide) hN2) (by decide) (by decide) rfl wk_5_46 wk_5_47 wk_5_48 wk_1_1 wk_5_49 hd_X3_right ⟨(Nat.le_of_ble_eq_true rfl), (Nat.le_of_ble_eq_true rfl)⟩ (Nat.le_of_ble_eq_true rfl) ⟨(Nat.le_of_ble_eq_true rfl), (Nat.le_of_ble_eq_true rfl)⟩ dL_right_5 rfl) (fun h0 => ?_) [⟨0, 10, 13, 31⟩] ⟨0, 10, 17, 19⟩ [] (fun h0 => ?_) (fun h0 q => ?_)
    · exact absurd h0 (by decide)
    · exact ⟨ht, fun z hz => by obtain rfl := List.mem_singleton.mp hz; exact Or.inr ⟨by decide, "java/lang/IndexOutOfBoundsException", wk_4_235, by decide +kernel⟩, by decide, by decide, wk_4_187, wk_4_194⟩
    · rw [if_neg (by decide)]
      refine gq_astore (i := 4) C dL_right_17 (by decide) rfl ?_
      refine gq_iconst (v := nI 2) C dL_right_19 (by decide) ?_
      exact gq_iret C hr dL_right_20 (Nat.le_of_ble_eq_true rfl) (Nat.le_of_ble_eq_true rfl)
abbrev rmL_leaseField : Room := { frames := 8, cells := 2, slots := 12, locals := 156 }
set_option maxHeartbeats 4000000 in
set_option maxRecDepth 100000 in
theorem c_L_leaseField {l : Launch} {E : Ev} (hN : 312 ≤ eN E) (hl9 : l.stackTraces = false) {p1 : Int32} {p2 : Int32} {μ : Mm} {ec t : Nat} {r : Int32} (z0 : F_X3_leaseField p1 p2 μ = some (ec, r)) (hM : (ec, t) ∈ ([(0, 0), (1, 1), (2, 2)] : List (Nat × Nat))) : Met l yL_leaseField (Cond.codeWith yL_leaseField cL_leaseField 5 (some .int) [(0, 10, 13, 31), (0, 10, 17, 19)] :: GW) rmL_leaseField (va_Pc [.ref (eB E + 0), .int p1, .int p2, .ref (eB E + 311)] (qP E μ)) (qQ E (some (.int (nI t))) (if ec = 0 then uL μ 311 0 r.toInt64 else μ)) rmL_leaseField.cells rmL_leaseField.slots (eA E) := by
  refine cth_of (rm := rmL_leaseField) (by decide) (Nat.le_of_ble_eq_true rfl) (fun p e s m args below meth c C hr ht => ?_)
  have C : Cq E p s m args meth c cL_leaseField 5 RL := C
  have hN2 : 295 ≤ eN E := by omega
  refine gq_lv (lv' := [(0, .ref (eB E + 0)), (1, .int p1), (2, .int p2), (3, .ref (eB E + 311))]) rfl ?_
  refine gq_aload_n (i := 3) C dL_leaseField_0 rfl 3 rfl ?_
  refine gq_iconst (v := 0) C dL_leaseField_1 (by decide) ?_
  refine gq_aload_n (i := 0) C dL_leaseField_2 rfl 0 rfl ?_
  refine gq_iload_n (i := 1) C dL_leaseField_3 rfl 1 rfl ?_
  refine gq_iload_n (i := 2) C dL_leaseField_4 rfl 2 rfl ?_
  rcases (show (ec = 0 ∧ t = 0) ∨ (ec = 1 ∧ t = 1) ∨ (ec = 2 ∧ t = 2) by simpa using hM) with ⟨rfl, rfl⟩ | ⟨rfl, rfl⟩ | ⟨rfl, rfl⟩
  · refine gh_call (name := "java/lang/IndexOutOfBoundsException") (rest := [.int 0, .ref (eB E + 311)]) C rfl (runx_V (As := [.int p1, .int p2]) (j := 0) C (c_X3_leaseField hN2 hl9 z0) (qn_l 0 (by decide) hN2) (by decide) (by decide) rfl wk_5_53 wk_5_54 wk_5_55 wk_1_1 wk_5_56 hd_X3_leaseField ⟨(Nat.le_of_ble_eq_true rfl), (Nat.le_of_ble_eq_true rfl)⟩ (Nat.le_of_ble_eq_true rfl) ⟨(Nat.le_of_ble_eq_true rfl), (Nat.le_of_ble_eq_true rfl)⟩ dL_leaseField_5 rfl) (fun h0 => ?_) [] ⟨0, 10, 13, 31⟩ [⟨0, 10, 17, 19⟩] (fun h0 => ?_) (fun h0 q => ?_)
    · rw [if_pos rfl]
      refine gq_i2l C dL_leaseField_8 ?_
      refine gq_lastore (μ' := uL μ 311 0 r.toInt64) C (show 311 < eN E by omega) (by decide +kernel) (sL_ok (k := 0) rfl (by rw [ln311]; decide)) dL_leaseField_9 ?_
      refine gq_goto (tgt := 21) C dL_leaseField_10 (by decide) ?_
      refine gq_iconst (v := nI 0) C dL_leaseField_21 (by decide) ?_
      exact gq_iret C hr dL_leaseField_22 (Nat.le_of_ble_eq_true rfl) (Nat.le_of_ble_eq_true rfl)
    · exact absurd rfl h0
    · exact absurd rfl h0
  · refine gh_call (name := "java/lang/IndexOutOfBoundsException") (rest := [.int 0, .ref (eB E + 311)]) C rfl (runx_V (As := [.int p1, .int p2]) (j := 0) C (c_X3_leaseField hN2 hl9 z0) (qn_l 0 (by decide) hN2) (by decide) (by decide) rfl wk_5_53 wk_5_54 wk_5_55 wk_1_1 wk_5_56 hd_X3_leaseField ⟨(Nat.le_of_ble_eq_true rfl), (Nat.le_of_ble_eq_true rfl)⟩ (Nat.le_of_ble_eq_true rfl) ⟨(Nat.le_of_ble_eq_true rfl), (Nat.le_of_ble_eq_true rfl)⟩ dL_leaseField_5 rfl) (fun h0 => ?_) [] ⟨0, 10, 13, 31⟩ [⟨0, 10, 17, 19⟩] (fun h0 => ?_) (fun h0 q => ?_)
    · exact absurd h0 (by decide)
    · exact ⟨ht, fun z hz => absurd hz List.not_mem_nil, by decide, by decide, wk_4_235, wk_5_6⟩
    · rw [if_neg (by decide)]
      refine gq_astore (i := 4) C dL_leaseField_13 (by decide) rfl ?_
      refine gq_iconst (v := nI 1) C dL_leaseField_15 (by decide) ?_
      exact gq_iret C hr dL_leaseField_16 (Nat.le_of_ble_eq_true rfl) (Nat.le_of_ble_eq_true rfl)
  · refine gh_call (name := "java/util/NoSuchElementException") (rest := [.int 0, .ref (eB E + 311)]) C rfl (runx_V (As := [.int p1, .int p2]) (j := 0) C (c_X3_leaseField hN2 hl9 z0) (qn_l 0 (by decide) hN2) (by decide) (by decide) rfl wk_5_53 wk_5_54 wk_5_55 wk_1_1 wk_5_56 hd_X3_leaseField ⟨(Nat.le_of_ble_eq_true rfl), (Nat.le_of_ble_eq_true rfl)⟩ (Nat.le_of_ble_eq_true rfl) ⟨(Nat.le_of_ble_eq_true rfl), (Nat.le_of_ble_eq_true rfl)⟩ dL_leaseField_5 rfl) (fun h0 => ?_) [⟨0, 10, 13, 31⟩] ⟨0, 10, 17, 19⟩ [] (fun h0 => ?_) (fun h0 q => ?_)
    · exact absurd h0 (by decide)
    · exact ⟨ht, fun z hz => by obtain rfl := List.mem_singleton.mp hz; exact Or.inr ⟨by decide, "java/lang/IndexOutOfBoundsException", wk_4_235, by decide +kernel⟩, by decide, by decide, wk_4_187, wk_4_194⟩
    · rw [if_neg (by decide)]
      refine gq_astore (i := 4) C dL_leaseField_17 (by decide) rfl ?_
      refine gq_iconst (v := nI 2) C dL_leaseField_19 (by decide) ?_
      exact gq_iret C hr dL_leaseField_20 (Nat.le_of_ble_eq_true rfl) (Nat.le_of_ble_eq_true rfl)
abbrev rmL_optionField : Room := { frames := 8, cells := 2, slots := 12, locals := 156 }
set_option maxHeartbeats 4000000 in
set_option maxRecDepth 100000 in
theorem c_L_optionField {l : Launch} {E : Ev} (hN : 312 ≤ eN E) (hl9 : l.stackTraces = false) {p1 : Int32} {p2 : Int32} {μ : Mm} {ec t : Nat} {r : Int32} (z0 : F_X3_optionField p1 p2 μ = some (ec, r)) (hM : (ec, t) ∈ ([(0, 0), (1, 1), (2, 2)] : List (Nat × Nat))) : Met l yL_optionField (Cond.codeWith yL_optionField cL_optionField 5 (some .int) [(0, 10, 13, 31), (0, 10, 17, 19)] :: GW) rmL_optionField (va_Pc [.ref (eB E + 0), .int p1, .int p2, .ref (eB E + 311)] (qP E μ)) (qQ E (some (.int (nI t))) (if ec = 0 then uL μ 311 0 r.toInt64 else μ)) rmL_optionField.cells rmL_optionField.slots (eA E) := by
  refine cth_of (rm := rmL_optionField) (by decide) (Nat.le_of_ble_eq_true rfl) (fun p e s m args below meth c C hr ht => ?_)
  have C : Cq E p s m args meth c cL_optionField 5 RL := C
  have hN2 : 295 ≤ eN E := by omega
  refine gq_lv (lv' := [(0, .ref (eB E + 0)), (1, .int p1), (2, .int p2), (3, .ref (eB E + 311))]) rfl ?_
  refine gq_aload_n (i := 3) C dL_optionField_0 rfl 3 rfl ?_
  refine gq_iconst (v := 0) C dL_optionField_1 (by decide) ?_
  refine gq_aload_n (i := 0) C dL_optionField_2 rfl 0 rfl ?_
  refine gq_iload_n (i := 1) C dL_optionField_3 rfl 1 rfl ?_
  refine gq_iload_n (i := 2) C dL_optionField_4 rfl 2 rfl ?_
  rcases (show (ec = 0 ∧ t = 0) ∨ (ec = 1 ∧ t = 1) ∨ (ec = 2 ∧ t = 2) by simpa using hM) with ⟨rfl, rfl⟩ | ⟨rfl, rfl⟩ | ⟨rfl, rfl⟩
  · refine gh_call (name := "java/lang/IndexOutOfBoundsException") (rest := [.int 0, .ref (eB E + 311)]) C rfl (runx_V (As := [.int p1, .int p2]) (j := 0) C (c_X3_optionField hN2 hl9 z0) (qn_l 0 (by decide) hN2) (by decide) (by decide) rfl wk_5_60 wk_5_61 wk_5_62 wk_1_1 wk_5_63 hd_X3_optionField ⟨(Nat.le_of_ble_eq_true rfl), (Nat.le_of_ble_eq_true rfl)⟩ (Nat.le_of_ble_eq_true rfl) ⟨(Nat.le_of_ble_eq_true rfl), (Nat.le_of_ble_eq_true rfl)⟩ dL_optionField_5 rfl) (fun h0 => ?_) [] ⟨0, 10, 13, 31⟩ [⟨0, 10, 17, 19⟩] (fun h0 => ?_) (fun h0 q => ?_)
    · rw [if_pos rfl]
      refine gq_i2l C dL_optionField_8 ?_
      refine gq_lastore (μ' := uL μ 311 0 r.toInt64) C (show 311 < eN E by omega) (by decide +kernel) (sL_ok (k := 0) rfl (by rw [ln311]; decide)) dL_optionField_9 ?_
      refine gq_goto (tgt := 21) C dL_optionField_10 (by decide) ?_
      refine gq_iconst (v := nI 0) C dL_optionField_21 (by decide) ?_
      exact gq_iret C hr dL_optionField_22 (Nat.le_of_ble_eq_true rfl) (Nat.le_of_ble_eq_true rfl)
    · exact absurd rfl h0
    · exact absurd rfl h0
  · refine gh_call (name := "java/lang/IndexOutOfBoundsException") (rest := [.int 0, .ref (eB E + 311)]) C rfl (runx_V (As := [.int p1, .int p2]) (j := 0) C (c_X3_optionField hN2 hl9 z0) (qn_l 0 (by decide) hN2) (by decide) (by decide) rfl wk_5_60 wk_5_61 wk_5_62 wk_1_1 wk_5_63 hd_X3_optionField ⟨(Nat.le_of_ble_eq_true rfl), (Nat.le_of_ble_eq_true rfl)⟩ (Nat.le_of_ble_eq_true rfl) ⟨(Nat.le_of_ble_eq_true rfl), (Nat.le_of_ble_eq_true rfl)⟩ dL_optionField_5 rfl) (fun h0 => ?_) [] ⟨0, 10, 13, 31⟩ [⟨0, 10, 17, 19⟩] (fun h0 => ?_) (fun h0 q => ?_)
    · exact absurd h0 (by decide)
    · exact ⟨ht, fun z hz => absurd hz List.not_mem_nil, by decide, by decide, wk_4_235, wk_5_6⟩
    · rw [if_neg (by decide)]
      refine gq_astore (i := 4) C dL_optionField_13 (by decide) rfl ?_
      refine gq_iconst (v := nI 1) C dL_optionField_15 (by decide) ?_
      exact gq_iret C hr dL_optionField_16 (Nat.le_of_ble_eq_true rfl) (Nat.le_of_ble_eq_true rfl)
  · refine gh_call (name := "java/util/NoSuchElementException") (rest := [.int 0, .ref (eB E + 311)]) C rfl (runx_V (As := [.int p1, .int p2]) (j := 0) C (c_X3_optionField hN2 hl9 z0) (qn_l 0 (by decide) hN2) (by decide) (by decide) rfl wk_5_60 wk_5_61 wk_5_62 wk_1_1 wk_5_63 hd_X3_optionField ⟨(Nat.le_of_ble_eq_true rfl), (Nat.le_of_ble_eq_true rfl)⟩ (Nat.le_of_ble_eq_true rfl) ⟨(Nat.le_of_ble_eq_true rfl), (Nat.le_of_ble_eq_true rfl)⟩ dL_optionField_5 rfl) (fun h0 => ?_) [⟨0, 10, 13, 31⟩] ⟨0, 10, 17, 19⟩ [] (fun h0 => ?_) (fun h0 q => ?_)
    · exact absurd h0 (by decide)
    · exact ⟨ht, fun z hz => by obtain rfl := List.mem_singleton.mp hz; exact Or.inr ⟨by decide, "java/lang/IndexOutOfBoundsException", wk_4_235, by decide +kernel⟩, by decide, by decide, wk_4_187, wk_4_194⟩
    · rw [if_neg (by decide)]
      refine gq_astore (i := 4) C dL_optionField_17 (by decide) rfl ?_
      refine gq_iconst (v := nI 2) C dL_optionField_19 (by decide) ?_
      exact gq_iret C hr dL_optionField_20 (Nat.le_of_ble_eq_true rfl) (Nat.le_of_ble_eq_true rfl)
abbrev rmL_claim : Room := { frames := 8, cells := 2, slots := 12, locals := 156 }
set_option maxHeartbeats 4000000 in
set_option maxRecDepth 100000 in
theorem c_L_claim {l : Launch} {E : Ev} (hN : 312 ≤ eN E) (hl9 : l.stackTraces = false) {p1 : Int32} {p2 : Int32} {μ : Mm} {ec t : Nat} {r : Int32} (z0 : F_X3_claim p1 p2 μ = some (ec, r)) (hM : (ec, t) ∈ ([(0, 0), (1, 1), (2, 2)] : List (Nat × Nat))) : Met l yL_claim (Cond.codeWith yL_claim cL_claim 5 (some .int) [(0, 10, 13, 31), (0, 10, 17, 19)] :: GW) rmL_claim (va_Pc [.ref (eB E + 0), .int p1, .int p2, .ref (eB E + 311)] (qP E μ)) (qQ E (some (.int (nI t))) (if ec = 0 then uL μ 311 0 r.toInt64 else μ)) rmL_claim.cells rmL_claim.slots (eA E) := by
  refine cth_of (rm := rmL_claim) (by decide) (Nat.le_of_ble_eq_true rfl) (fun p e s m args below meth c C hr ht => ?_)
  have C : Cq E p s m args meth c cL_claim 5 RL := C
  have hN2 : 295 ≤ eN E := by omega
  refine gq_lv (lv' := [(0, .ref (eB E + 0)), (1, .int p1), (2, .int p2), (3, .ref (eB E + 311))]) rfl ?_
  refine gq_aload_n (i := 3) C dL_claim_0 rfl 3 rfl ?_
  refine gq_iconst (v := 0) C dL_claim_1 (by decide) ?_
  refine gq_aload_n (i := 0) C dL_claim_2 rfl 0 rfl ?_
  refine gq_iload_n (i := 1) C dL_claim_3 rfl 1 rfl ?_
  refine gq_iload_n (i := 2) C dL_claim_4 rfl 2 rfl ?_
  rcases (show (ec = 0 ∧ t = 0) ∨ (ec = 1 ∧ t = 1) ∨ (ec = 2 ∧ t = 2) by simpa using hM) with ⟨rfl, rfl⟩ | ⟨rfl, rfl⟩ | ⟨rfl, rfl⟩
  · refine gh_call (name := "java/lang/IndexOutOfBoundsException") (rest := [.int 0, .ref (eB E + 311)]) C rfl (runx_V (As := [.int p1, .int p2]) (j := 0) C (c_X3_claim hN2 hl9 z0) (qn_l 0 (by decide) hN2) (by decide) (by decide) rfl wk_5_67 wk_5_68 wk_5_69 wk_1_1 wk_5_70 hd_X3_claim ⟨(Nat.le_of_ble_eq_true rfl), (Nat.le_of_ble_eq_true rfl)⟩ (Nat.le_of_ble_eq_true rfl) ⟨(Nat.le_of_ble_eq_true rfl), (Nat.le_of_ble_eq_true rfl)⟩ dL_claim_5 rfl) (fun h0 => ?_) [] ⟨0, 10, 13, 31⟩ [⟨0, 10, 17, 19⟩] (fun h0 => ?_) (fun h0 q => ?_)
    · rw [if_pos rfl]
      refine gq_i2l C dL_claim_8 ?_
      refine gq_lastore (μ' := uL μ 311 0 r.toInt64) C (show 311 < eN E by omega) (by decide +kernel) (sL_ok (k := 0) rfl (by rw [ln311]; decide)) dL_claim_9 ?_
      refine gq_goto (tgt := 21) C dL_claim_10 (by decide) ?_
      refine gq_iconst (v := nI 0) C dL_claim_21 (by decide) ?_
      exact gq_iret C hr dL_claim_22 (Nat.le_of_ble_eq_true rfl) (Nat.le_of_ble_eq_true rfl)
    · exact absurd rfl h0
    · exact absurd rfl h0
  · refine gh_call (name := "java/lang/IndexOutOfBoundsException") (rest := [.int 0, .ref (eB E + 311)]) C rfl (runx_V (As := [.int p1, .int p2]) (j := 0) C (c_X3_claim hN2 hl9 z0) (qn_l 0 (by decide) hN2) (by decide) (by decide) rfl wk_5_67 wk_5_68 wk_5_69 wk_1_1 wk_5_70 hd_X3_claim ⟨(Nat.le_of_ble_eq_true rfl), (Nat.le_of_ble_eq_true rfl)⟩ (Nat.le_of_ble_eq_true rfl) ⟨(Nat.le_of_ble_eq_true rfl), (Nat.le_of_ble_eq_true rfl)⟩ dL_claim_5 rfl) (fun h0 => ?_) [] ⟨0, 10, 13, 31⟩ [⟨0, 10, 17, 19⟩] (fun h0 => ?_) (fun h0 q => ?_)
    · exact absurd h0 (by decide)
    · exact ⟨ht, fun z hz => absurd hz List.not_mem_nil, by decide, by decide, wk_4_235, wk_5_6⟩
    · rw [if_neg (by decide)]
      refine gq_astore (i := 4) C dL_claim_13 (by decide) rfl ?_
      refine gq_iconst (v := nI 1) C dL_claim_15 (by decide) ?_
      exact gq_iret C hr dL_claim_16 (Nat.le_of_ble_eq_true rfl) (Nat.le_of_ble_eq_true rfl)
  · refine gh_call (name := "java/util/NoSuchElementException") (rest := [.int 0, .ref (eB E + 311)]) C rfl (runx_V (As := [.int p1, .int p2]) (j := 0) C (c_X3_claim hN2 hl9 z0) (qn_l 0 (by decide) hN2) (by decide) (by decide) rfl wk_5_67 wk_5_68 wk_5_69 wk_1_1 wk_5_70 hd_X3_claim ⟨(Nat.le_of_ble_eq_true rfl), (Nat.le_of_ble_eq_true rfl)⟩ (Nat.le_of_ble_eq_true rfl) ⟨(Nat.le_of_ble_eq_true rfl), (Nat.le_of_ble_eq_true rfl)⟩ dL_claim_5 rfl) (fun h0 => ?_) [⟨0, 10, 13, 31⟩] ⟨0, 10, 17, 19⟩ [] (fun h0 => ?_) (fun h0 q => ?_)
    · exact absurd h0 (by decide)
    · exact ⟨ht, fun z hz => by obtain rfl := List.mem_singleton.mp hz; exact Or.inr ⟨by decide, "java/lang/IndexOutOfBoundsException", wk_4_235, by decide +kernel⟩, by decide, by decide, wk_4_187, wk_4_194⟩
    · rw [if_neg (by decide)]
      refine gq_astore (i := 4) C dL_claim_17 (by decide) rfl ?_
      refine gq_iconst (v := nI 2) C dL_claim_19 (by decide) ?_
      exact gq_iret C hr dL_claim_20 (Nat.le_of_ble_eq_true rfl) (Nat.le_of_ble_eq_true rfl)
abbrev rmL_gauge : Room := { frames := 8, cells := 2, slots := 12, locals := 156 }
set_option maxHeartbeats 4000000 in
set_option maxRecDepth 100000 in
theorem c_L_gauge {l : Launch} {E : Ev} (hN : 312 ≤ eN E) (hl9 : l.stackTraces = false) {p1 : Int32} {p2 : Int32} {μ : Mm} {ec t : Nat} {r : Int32} (z0 : F_X3_gauge p1 p2 μ = some (ec, r)) (hM : (ec, t) ∈ ([(0, 0), (1, 1), (2, 2)] : List (Nat × Nat))) : Met l yL_gauge (Cond.codeWith yL_gauge cL_gauge 5 (some .int) [(0, 10, 13, 31), (0, 10, 17, 19)] :: GW) rmL_gauge (va_Pc [.ref (eB E + 0), .int p1, .int p2, .ref (eB E + 311)] (qP E μ)) (qQ E (some (.int (nI t))) (if ec = 0 then uL μ 311 0 r.toInt64 else μ)) rmL_gauge.cells rmL_gauge.slots (eA E) := by
  refine cth_of (rm := rmL_gauge) (by decide) (Nat.le_of_ble_eq_true rfl) (fun p e s m args below meth c C hr ht => ?_)
  have C : Cq E p s m args meth c cL_gauge 5 RL := C
  have hN2 : 295 ≤ eN E := by omega
  refine gq_lv (lv' := [(0, .ref (eB E + 0)), (1, .int p1), (2, .int p2), (3, .ref (eB E + 311))]) rfl ?_
  refine gq_aload_n (i := 3) C dL_gauge_0 rfl 3 rfl ?_
  refine gq_iconst (v := 0) C dL_gauge_1 (by decide) ?_
  refine gq_aload_n (i := 0) C dL_gauge_2 rfl 0 rfl ?_
  refine gq_iload_n (i := 1) C dL_gauge_3 rfl 1 rfl ?_
  refine gq_iload_n (i := 2) C dL_gauge_4 rfl 2 rfl ?_
  rcases (show (ec = 0 ∧ t = 0) ∨ (ec = 1 ∧ t = 1) ∨ (ec = 2 ∧ t = 2) by simpa using hM) with ⟨rfl, rfl⟩ | ⟨rfl, rfl⟩ | ⟨rfl, rfl⟩
  · refine gh_call (name := "java/lang/IndexOutOfBoundsException") (rest := [.int 0, .ref (eB E + 311)]) C rfl (runx_V (As := [.int p1, .int p2]) (j := 0) C (c_X3_gauge hN2 hl9 z0) (qn_l 0 (by decide) hN2) (by decide) (by decide) rfl wk_5_74 wk_5_75 wk_5_76 wk_1_1 wk_5_77 hd_X3_gauge ⟨(Nat.le_of_ble_eq_true rfl), (Nat.le_of_ble_eq_true rfl)⟩ (Nat.le_of_ble_eq_true rfl) ⟨(Nat.le_of_ble_eq_true rfl), (Nat.le_of_ble_eq_true rfl)⟩ dL_gauge_5 rfl) (fun h0 => ?_) [] ⟨0, 10, 13, 31⟩ [⟨0, 10, 17, 19⟩] (fun h0 => ?_) (fun h0 q => ?_)
    · rw [if_pos rfl]
      refine gq_i2l C dL_gauge_8 ?_
      refine gq_lastore (μ' := uL μ 311 0 r.toInt64) C (show 311 < eN E by omega) (by decide +kernel) (sL_ok (k := 0) rfl (by rw [ln311]; decide)) dL_gauge_9 ?_
      refine gq_goto (tgt := 21) C dL_gauge_10 (by decide) ?_
      refine gq_iconst (v := nI 0) C dL_gauge_21 (by decide) ?_
      exact gq_iret C hr dL_gauge_22 (Nat.le_of_ble_eq_true rfl) (Nat.le_of_ble_eq_true rfl)
    · exact absurd rfl h0
    · exact absurd rfl h0
  · refine gh_call (name := "java/lang/IndexOutOfBoundsException") (rest := [.int 0, .ref (eB E + 311)]) C rfl (runx_V (As := [.int p1, .int p2]) (j := 0) C (c_X3_gauge hN2 hl9 z0) (qn_l 0 (by decide) hN2) (by decide) (by decide) rfl wk_5_74 wk_5_75 wk_5_76 wk_1_1 wk_5_77 hd_X3_gauge ⟨(Nat.le_of_ble_eq_true rfl), (Nat.le_of_ble_eq_true rfl)⟩ (Nat.le_of_ble_eq_true rfl) ⟨(Nat.le_of_ble_eq_true rfl), (Nat.le_of_ble_eq_true rfl)⟩ dL_gauge_5 rfl) (fun h0 => ?_) [] ⟨0, 10, 13, 31⟩ [⟨0, 10, 17, 19⟩] (fun h0 => ?_) (fun h0 q => ?_)
    · exact absurd h0 (by decide)
    · exact ⟨ht, fun z hz => absurd hz List.not_mem_nil, by decide, by decide, wk_4_235, wk_5_6⟩
    · rw [if_neg (by decide)]
      refine gq_astore (i := 4) C dL_gauge_13 (by decide) rfl ?_
      refine gq_iconst (v := nI 1) C dL_gauge_15 (by decide) ?_
      exact gq_iret C hr dL_gauge_16 (Nat.le_of_ble_eq_true rfl) (Nat.le_of_ble_eq_true rfl)
  · refine gh_call (name := "java/util/NoSuchElementException") (rest := [.int 0, .ref (eB E + 311)]) C rfl (runx_V (As := [.int p1, .int p2]) (j := 0) C (c_X3_gauge hN2 hl9 z0) (qn_l 0 (by decide) hN2) (by decide) (by decide) rfl wk_5_74 wk_5_75 wk_5_76 wk_1_1 wk_5_77 hd_X3_gauge ⟨(Nat.le_of_ble_eq_true rfl), (Nat.le_of_ble_eq_true rfl)⟩ (Nat.le_of_ble_eq_true rfl) ⟨(Nat.le_of_ble_eq_true rfl), (Nat.le_of_ble_eq_true rfl)⟩ dL_gauge_5 rfl) (fun h0 => ?_) [⟨0, 10, 13, 31⟩] ⟨0, 10, 17, 19⟩ [] (fun h0 => ?_) (fun h0 q => ?_)
    · exact absurd h0 (by decide)
    · exact ⟨ht, fun z hz => by obtain rfl := List.mem_singleton.mp hz; exact Or.inr ⟨by decide, "java/lang/IndexOutOfBoundsException", wk_4_235, by decide +kernel⟩, by decide, by decide, wk_4_187, wk_4_194⟩
    · rw [if_neg (by decide)]
      refine gq_astore (i := 4) C dL_gauge_17 (by decide) rfl ?_
      refine gq_iconst (v := nI 2) C dL_gauge_19 (by decide) ?_
      exact gq_iret C hr dL_gauge_20 (Nat.le_of_ble_eq_true rfl) (Nat.le_of_ble_eq_true rfl)
abbrev rmL_history : Room := { frames := 8, cells := 1, slots := 6, locals := 156 }
set_option maxHeartbeats 4000000 in
set_option maxRecDepth 100000 in
theorem c_L_history {l : Launch} {E : Ev} (hN : 312 ≤ eN E) (hl9 : l.stackTraces = false) {p1 : Int32} {p2 : Int32} {μ : Mm} {ec t : Nat} {r : Int32} (z0 : F_X3_history p1 p2 μ = some (ec, r)) (hM : (ec, t) ∈ ([(0, 0), (2, 1)] : List (Nat × Nat))) : Met l yL_history (Cond.codeWith yL_history cL_history 5 (some .int) [(0, 10, 13, 19)] :: GW) rmL_history (va_Pc [.ref (eB E + 0), .int p1, .int p2, .ref (eB E + 311)] (qP E μ)) (qQ E (some (.int (nI t))) (if ec = 0 then uL μ 311 0 r.toInt64 else μ)) rmL_history.cells rmL_history.slots (eA E) := by
  refine cth_of (rm := rmL_history) (by decide) (Nat.le_of_ble_eq_true rfl) (fun p e s m args below meth c C hr ht => ?_)
  have C : Cq E p s m args meth c cL_history 5 RL := C
  have hN2 : 295 ≤ eN E := by omega
  refine gq_lv (lv' := [(0, .ref (eB E + 0)), (1, .int p1), (2, .int p2), (3, .ref (eB E + 311))]) rfl ?_
  refine gq_aload_n (i := 3) C dL_history_0 rfl 3 rfl ?_
  refine gq_iconst (v := 0) C dL_history_1 (by decide) ?_
  refine gq_aload_n (i := 0) C dL_history_2 rfl 0 rfl ?_
  refine gq_iload_n (i := 1) C dL_history_3 rfl 1 rfl ?_
  refine gq_iload_n (i := 2) C dL_history_4 rfl 2 rfl ?_
  rcases (show (ec = 0 ∧ t = 0) ∨ (ec = 2 ∧ t = 1) by simpa using hM) with ⟨rfl, rfl⟩ | ⟨rfl, rfl⟩
  · refine gh_call (name := "java/util/NoSuchElementException") (rest := [.int 0, .ref (eB E + 311)]) C rfl (runx_V (As := [.int p1, .int p2]) (j := 0) C (c_X3_history hN2 hl9 z0) (qn_l 0 (by decide) hN2) (by decide) (by decide) rfl wk_5_81 wk_5_82 wk_5_83 wk_1_1 wk_5_84 hd_X3_history ⟨(Nat.le_of_ble_eq_true rfl), (Nat.le_of_ble_eq_true rfl)⟩ (Nat.le_of_ble_eq_true rfl) ⟨(Nat.le_of_ble_eq_true rfl), (Nat.le_of_ble_eq_true rfl)⟩ dL_history_5 rfl) (fun h0 => ?_) [] ⟨0, 10, 13, 19⟩ [] (fun h0 => ?_) (fun h0 q => ?_)
    · rw [if_pos rfl]
      refine gq_i2l C dL_history_8 ?_
      refine gq_lastore (μ' := uL μ 311 0 r.toInt64) C (show 311 < eN E by omega) (by decide +kernel) (sL_ok (k := 0) rfl (by rw [ln311]; decide)) dL_history_9 ?_
      refine gq_goto (tgt := 17) C dL_history_10 (by decide) ?_
      refine gq_iconst (v := nI 0) C dL_history_17 (by decide) ?_
      exact gq_iret C hr dL_history_18 (Nat.le_of_ble_eq_true rfl) (Nat.le_of_ble_eq_true rfl)
    · exact absurd rfl h0
    · exact absurd rfl h0
  · refine gh_call (name := "java/util/NoSuchElementException") (rest := [.int 0, .ref (eB E + 311)]) C rfl (runx_V (As := [.int p1, .int p2]) (j := 0) C (c_X3_history hN2 hl9 z0) (qn_l 0 (by decide) hN2) (by decide) (by decide) rfl wk_5_81 wk_5_82 wk_5_83 wk_1_1 wk_5_84 hd_X3_history ⟨(Nat.le_of_ble_eq_true rfl), (Nat.le_of_ble_eq_true rfl)⟩ (Nat.le_of_ble_eq_true rfl) ⟨(Nat.le_of_ble_eq_true rfl), (Nat.le_of_ble_eq_true rfl)⟩ dL_history_5 rfl) (fun h0 => ?_) [] ⟨0, 10, 13, 19⟩ [] (fun h0 => ?_) (fun h0 q => ?_)
    · exact absurd h0 (by decide)
    · exact ⟨ht, fun z hz => absurd hz List.not_mem_nil, by decide, by decide, wk_4_187, wk_4_194⟩
    · rw [if_neg (by decide)]
      refine gq_astore (i := 4) C dL_history_13 (by decide) rfl ?_
      refine gq_iconst (v := nI 1) C dL_history_15 (by decide) ?_
      exact gq_iret C hr dL_history_16 (Nat.le_of_ble_eq_true rfl) (Nat.le_of_ble_eq_true rfl)
abbrev rmL_got : Room := { frames := 8, cells := 1, slots := 6, locals := 156 }
set_option maxHeartbeats 4000000 in
set_option maxRecDepth 100000 in
theorem c_L_got {l : Launch} {E : Ev} (hN : 312 ≤ eN E) (hl9 : l.stackTraces = false) {p1 : Int32} {μ : Mm} {ec t : Nat} {r : Int32} (z0 : F_X3_got p1 μ = some (ec, r)) (hM : (ec, t) ∈ ([(0, 0), (1, 1)] : List (Nat × Nat))) : Met l yL_got (Cond.codeWith yL_got cL_got 4 (some .int) [(0, 9, 12, 31)] :: GW) rmL_got (va_Pc [.ref (eB E + 0), .int p1, .ref (eB E + 311)] (qP E μ)) (qQ E (some (.int (nI t))) (if ec = 0 then uL μ 311 0 r.toInt64 else μ)) rmL_got.cells rmL_got.slots (eA E) := by
  refine cth_of (rm := rmL_got) (by decide) (Nat.le_of_ble_eq_true rfl) (fun p e s m args below meth c C hr ht => ?_)
  have C : Cq E p s m args meth c cL_got 4 RL := C
  have hN2 : 295 ≤ eN E := by omega
  refine gq_lv (lv' := [(0, .ref (eB E + 0)), (1, .int p1), (2, .ref (eB E + 311))]) rfl ?_
  refine gq_aload_n (i := 2) C dL_got_0 rfl 2 rfl ?_
  refine gq_iconst (v := 0) C dL_got_1 (by decide) ?_
  refine gq_aload_n (i := 0) C dL_got_2 rfl 0 rfl ?_
  refine gq_iload_n (i := 1) C dL_got_3 rfl 1 rfl ?_
  rcases (show (ec = 0 ∧ t = 0) ∨ (ec = 1 ∧ t = 1) by simpa using hM) with ⟨rfl, rfl⟩ | ⟨rfl, rfl⟩
  · refine gh_call (name := "java/lang/IndexOutOfBoundsException") (rest := [.int 0, .ref (eB E + 311)]) C rfl (runx_V (As := [.int p1]) (j := 0) C (c_X3_got hN2 hl9 z0) (qn_l 0 (by decide) hN2) (by decide) (by decide) rfl wk_5_88 wk_5_89 wk_5_90 wk_1_1 wk_5_91 hd_X3_got ⟨(Nat.le_of_ble_eq_true rfl), (Nat.le_of_ble_eq_true rfl)⟩ (Nat.le_of_ble_eq_true rfl) ⟨(Nat.le_of_ble_eq_true rfl), (Nat.le_of_ble_eq_true rfl)⟩ dL_got_4 rfl) (fun h0 => ?_) [] ⟨0, 9, 12, 31⟩ [] (fun h0 => ?_) (fun h0 q => ?_)
    · rw [if_pos rfl]
      refine gq_i2l C dL_got_7 ?_
      refine gq_lastore (μ' := uL μ 311 0 r.toInt64) C (show 311 < eN E by omega) (by decide +kernel) (sL_ok (k := 0) rfl (by rw [ln311]; decide)) dL_got_8 ?_
      refine gq_goto (tgt := 15) C dL_got_9 (by decide) ?_
      refine gq_iconst (v := nI 0) C dL_got_15 (by decide) ?_
      exact gq_iret C hr dL_got_16 (Nat.le_of_ble_eq_true rfl) (Nat.le_of_ble_eq_true rfl)
    · exact absurd rfl h0
    · exact absurd rfl h0
  · refine gh_call (name := "java/lang/IndexOutOfBoundsException") (rest := [.int 0, .ref (eB E + 311)]) C rfl (runx_V (As := [.int p1]) (j := 0) C (c_X3_got hN2 hl9 z0) (qn_l 0 (by decide) hN2) (by decide) (by decide) rfl wk_5_88 wk_5_89 wk_5_90 wk_1_1 wk_5_91 hd_X3_got ⟨(Nat.le_of_ble_eq_true rfl), (Nat.le_of_ble_eq_true rfl)⟩ (Nat.le_of_ble_eq_true rfl) ⟨(Nat.le_of_ble_eq_true rfl), (Nat.le_of_ble_eq_true rfl)⟩ dL_got_4 rfl) (fun h0 => ?_) [] ⟨0, 9, 12, 31⟩ [] (fun h0 => ?_) (fun h0 q => ?_)
    · exact absurd h0 (by decide)
    · exact ⟨ht, fun z hz => absurd hz List.not_mem_nil, by decide, by decide, wk_4_235, wk_5_6⟩
    · rw [if_neg (by decide)]
      refine gq_astore_n (i := 3) C dL_got_12 rfl (by decide) rfl ?_
      refine gq_iconst (v := nI 1) C dL_got_13 (by decide) ?_
      exact gq_iret C hr dL_got_14 (Nat.le_of_ble_eq_true rfl) (Nat.le_of_ble_eq_true rfl)
abbrev rmL_earned : Room := { frames := 8, cells := 1, slots := 6, locals := 156 }
set_option maxHeartbeats 4000000 in
set_option maxRecDepth 100000 in
theorem c_L_earned {l : Launch} {E : Ev} (hN : 312 ≤ eN E) (hl9 : l.stackTraces = false) {p1 : Int32} {μ : Mm} {ec t : Nat} {r : Int64} (z0 : F_X3_earned p1 μ = some (ec, r)) (hM : (ec, t) ∈ ([(0, 0), (1, 1)] : List (Nat × Nat))) : Met l yL_earned (Cond.codeWith yL_earned cL_earned 4 (some .int) [(0, 8, 11, 31)] :: GW) rmL_earned (va_Pc [.ref (eB E + 0), .int p1, .ref (eB E + 311)] (qP E μ)) (qQ E (some (.int (nI t))) (if ec = 0 then uL μ 311 0 r else μ)) rmL_earned.cells rmL_earned.slots (eA E) := by
  refine cth_of (rm := rmL_earned) (by decide) (Nat.le_of_ble_eq_true rfl) (fun p e s m args below meth c C hr ht => ?_)
  have C : Cq E p s m args meth c cL_earned 4 RL := C
  have hN2 : 295 ≤ eN E := by omega
  refine gq_lv (lv' := [(0, .ref (eB E + 0)), (1, .int p1), (2, .ref (eB E + 311))]) rfl ?_
  refine gq_aload_n (i := 2) C dL_earned_0 rfl 2 rfl ?_
  refine gq_iconst (v := 0) C dL_earned_1 (by decide) ?_
  refine gq_aload_n (i := 0) C dL_earned_2 rfl 0 rfl ?_
  refine gq_iload_n (i := 1) C dL_earned_3 rfl 1 rfl ?_
  rcases (show (ec = 0 ∧ t = 0) ∨ (ec = 1 ∧ t = 1) by simpa using hM) with ⟨rfl, rfl⟩ | ⟨rfl, rfl⟩
  · refine gh_call (name := "java/lang/IndexOutOfBoundsException") (rest := [.int 0, .ref (eB E + 311)]) C rfl (runx_V (As := [.int p1]) (j := 0) C (c_X3_earned hN2 hl9 z0) (qn_l 0 (by decide) hN2) (by decide) (by decide) rfl wk_5_95 wk_5_96 wk_5_97 wk_1_1 wk_5_98 hd_X3_earned ⟨(Nat.le_of_ble_eq_true rfl), (Nat.le_of_ble_eq_true rfl)⟩ (Nat.le_of_ble_eq_true rfl) ⟨(Nat.le_of_ble_eq_true rfl), (Nat.le_of_ble_eq_true rfl)⟩ dL_earned_4 rfl) (fun h0 => ?_) [] ⟨0, 8, 11, 31⟩ [] (fun h0 => ?_) (fun h0 q => ?_)
    · rw [if_pos rfl]
      refine gq_lastore (μ' := uL μ 311 0 r) C (show 311 < eN E by omega) (by decide +kernel) (sL_ok (k := 0) rfl (by rw [ln311]; decide)) dL_earned_7 ?_
      refine gq_goto (tgt := 14) C dL_earned_8 (by decide) ?_
      refine gq_iconst (v := nI 0) C dL_earned_14 (by decide) ?_
      exact gq_iret C hr dL_earned_15 (Nat.le_of_ble_eq_true rfl) (Nat.le_of_ble_eq_true rfl)
    · exact absurd rfl h0
    · exact absurd rfl h0
  · refine gh_call (name := "java/lang/IndexOutOfBoundsException") (rest := [.int 0, .ref (eB E + 311)]) C rfl (runx_V (As := [.int p1]) (j := 0) C (c_X3_earned hN2 hl9 z0) (qn_l 0 (by decide) hN2) (by decide) (by decide) rfl wk_5_95 wk_5_96 wk_5_97 wk_1_1 wk_5_98 hd_X3_earned ⟨(Nat.le_of_ble_eq_true rfl), (Nat.le_of_ble_eq_true rfl)⟩ (Nat.le_of_ble_eq_true rfl) ⟨(Nat.le_of_ble_eq_true rfl), (Nat.le_of_ble_eq_true rfl)⟩ dL_earned_4 rfl) (fun h0 => ?_) [] ⟨0, 8, 11, 31⟩ [] (fun h0 => ?_) (fun h0 q => ?_)
    · exact absurd h0 (by decide)
    · exact ⟨ht, fun z hz => absurd hz List.not_mem_nil, by decide, by decide, wk_4_235, wk_5_6⟩
    · rw [if_neg (by decide)]
      refine gq_astore_n (i := 3) C dL_earned_11 rfl (by decide) rfl ?_
      refine gq_iconst (v := nI 1) C dL_earned_12 (by decide) ?_
      exact gq_iret C hr dL_earned_13 (Nat.le_of_ble_eq_true rfl) (Nat.le_of_ble_eq_true rfl)
abbrev rmL_expected : Room := { frames := 8, cells := 2, slots := 12, locals := 216 }
set_option maxHeartbeats 4000000 in
set_option maxRecDepth 100000 in
theorem c_L_expected {l : Launch} {E : Ev} (hN : 312 ≤ eN E) (hl9 : l.stackTraces = false) {p1 : Int32} {p2 : Int32} {μ : Mm} {ec t : Nat} {r : Int32} {μ' : Mm} (z0 : F_X3_expected p1 p2 μ = some (ec, r, μ')) (hM : (ec, t) ∈ ([(0, 0), (1, 1), (3, 2)] : List (Nat × Nat))) : Met l yL_expected (Cond.codeWith yL_expected cL_expected 5 (some .int) [(0, 10, 13, 31), (0, 10, 17, 13)] :: GW) rmL_expected (va_Pc [.ref (eB E + 0), .int p1, .int p2, .ref (eB E + 311)] (qP E μ)) (qQ E (some (.int (nI t))) (if ec = 0 then uL μ' 311 0 r.toInt64 else μ')) rmL_expected.cells rmL_expected.slots (eA E) := by
  refine cth_of (rm := rmL_expected) (by decide) (Nat.le_of_ble_eq_true rfl) (fun p e s m args below meth c C hr ht => ?_)
  have C : Cq E p s m args meth c cL_expected 5 RL := C
  have hN2 : 295 ≤ eN E := by omega
  refine gq_lv (lv' := [(0, .ref (eB E + 0)), (1, .int p1), (2, .int p2), (3, .ref (eB E + 311))]) rfl ?_
  refine gq_aload_n (i := 3) C dL_expected_0 rfl 3 rfl ?_
  refine gq_iconst (v := 0) C dL_expected_1 (by decide) ?_
  refine gq_aload_n (i := 0) C dL_expected_2 rfl 0 rfl ?_
  refine gq_iload_n (i := 1) C dL_expected_3 rfl 1 rfl ?_
  refine gq_iload_n (i := 2) C dL_expected_4 rfl 2 rfl ?_
  rcases (show (ec = 0 ∧ t = 0) ∨ (ec = 1 ∧ t = 1) ∨ (ec = 3 ∧ t = 2) by simpa using hM) with ⟨rfl, rfl⟩ | ⟨rfl, rfl⟩ | ⟨rfl, rfl⟩
  · refine gh_call (name := "java/lang/IndexOutOfBoundsException") (rest := [.int 0, .ref (eB E + 311)]) C rfl (runx_V (As := [.int p1, .int p2]) (j := 0) C (c_X3_expected hN2 hl9 z0) (qn_l 0 (by decide) hN2) (by decide) (by decide) rfl wk_5_106 wk_5_107 wk_5_108 wk_1_1 wk_5_109 hd_X3_expected ⟨(Nat.le_of_ble_eq_true rfl), (Nat.le_of_ble_eq_true rfl)⟩ (Nat.le_of_ble_eq_true rfl) ⟨(Nat.le_of_ble_eq_true rfl), (Nat.le_of_ble_eq_true rfl)⟩ dL_expected_5 rfl) (fun h0 => ?_) [] ⟨0, 10, 13, 31⟩ [⟨0, 10, 17, 13⟩] (fun h0 => ?_) (fun h0 q => ?_)
    · rw [if_pos rfl]
      refine gq_i2l C dL_expected_8 ?_
      refine gq_lastore (μ' := uL μ' 311 0 r.toInt64) C (show 311 < eN E by omega) (by decide +kernel) (sL_ok (k := 0) rfl (by rw [ln311]; decide)) dL_expected_9 ?_
      refine gq_goto (tgt := 21) C dL_expected_10 (by decide) ?_
      refine gq_iconst (v := nI 0) C dL_expected_21 (by decide) ?_
      exact gq_iret C hr dL_expected_22 (Nat.le_of_ble_eq_true rfl) (Nat.le_of_ble_eq_true rfl)
    · exact absurd rfl h0
    · exact absurd rfl h0
  · refine gh_call (name := "java/lang/IndexOutOfBoundsException") (rest := [.int 0, .ref (eB E + 311)]) C rfl (runx_V (As := [.int p1, .int p2]) (j := 0) C (c_X3_expected hN2 hl9 z0) (qn_l 0 (by decide) hN2) (by decide) (by decide) rfl wk_5_106 wk_5_107 wk_5_108 wk_1_1 wk_5_109 hd_X3_expected ⟨(Nat.le_of_ble_eq_true rfl), (Nat.le_of_ble_eq_true rfl)⟩ (Nat.le_of_ble_eq_true rfl) ⟨(Nat.le_of_ble_eq_true rfl), (Nat.le_of_ble_eq_true rfl)⟩ dL_expected_5 rfl) (fun h0 => ?_) [] ⟨0, 10, 13, 31⟩ [⟨0, 10, 17, 13⟩] (fun h0 => ?_) (fun h0 q => ?_)
    · exact absurd h0 (by decide)
    · exact ⟨ht, fun z hz => absurd hz List.not_mem_nil, by decide, by decide, wk_4_235, wk_5_6⟩
    · rw [if_neg (by decide)]
      refine gq_astore (i := 4) C dL_expected_13 (by decide) rfl ?_
      refine gq_iconst (v := nI 1) C dL_expected_15 (by decide) ?_
      exact gq_iret C hr dL_expected_16 (Nat.le_of_ble_eq_true rfl) (Nat.le_of_ble_eq_true rfl)
  · refine gh_call (name := "java/lang/IllegalArgumentException") (rest := [.int 0, .ref (eB E + 311)]) C rfl (runx_V (As := [.int p1, .int p2]) (j := 0) C (c_X3_expected hN2 hl9 z0) (qn_l 0 (by decide) hN2) (by decide) (by decide) rfl wk_5_106 wk_5_107 wk_5_108 wk_1_1 wk_5_109 hd_X3_expected ⟨(Nat.le_of_ble_eq_true rfl), (Nat.le_of_ble_eq_true rfl)⟩ (Nat.le_of_ble_eq_true rfl) ⟨(Nat.le_of_ble_eq_true rfl), (Nat.le_of_ble_eq_true rfl)⟩ dL_expected_5 rfl) (fun h0 => ?_) [⟨0, 10, 13, 31⟩] ⟨0, 10, 17, 13⟩ [] (fun h0 => ?_) (fun h0 q => ?_)
    · exact absurd h0 (by decide)
    · exact ⟨ht, fun z hz => by obtain rfl := List.mem_singleton.mp hz; exact Or.inr ⟨by decide, "java/lang/IndexOutOfBoundsException", wk_4_235, by decide +kernel⟩, by decide, by decide, wk_4_64, wk_3_109⟩
    · rw [if_neg (by decide)]
      refine gq_astore (i := 4) C dL_expected_17 (by decide) rfl ?_
      refine gq_iconst (v := nI 2) C dL_expected_19 (by decide) ?_
      exact gq_iret C hr dL_expected_20 (Nat.le_of_ble_eq_true rfl) (Nat.le_of_ble_eq_true rfl)
abbrev rmL_cutMonths : Room := { frames := 8, cells := 2, slots := 12, locals := 216 }
set_option maxHeartbeats 4000000 in
set_option maxRecDepth 100000 in
theorem c_L_cutMonths {l : Launch} {E : Ev} (hN : 312 ≤ eN E) (hl9 : l.stackTraces = false) {p1 : Int32} {p2 : Int32} {μ : Mm} {ec t : Nat} {r : Int32} {μ' : Mm} (z0 : F_X3_cutMonths p1 p2 μ = some (ec, r, μ')) (hM : (ec, t) ∈ ([(0, 0), (1, 1), (3, 2)] : List (Nat × Nat))) : Met l yL_cutMonths (Cond.codeWith yL_cutMonths cL_cutMonths 5 (some .int) [(0, 10, 13, 31), (0, 10, 17, 13)] :: GW) rmL_cutMonths (va_Pc [.ref (eB E + 0), .int p1, .int p2, .ref (eB E + 311)] (qP E μ)) (qQ E (some (.int (nI t))) (if ec = 0 then uL μ' 311 0 r.toInt64 else μ')) rmL_cutMonths.cells rmL_cutMonths.slots (eA E) := by
  refine cth_of (rm := rmL_cutMonths) (by decide) (Nat.le_of_ble_eq_true rfl) (fun p e s m args below meth c C hr ht => ?_)
  have C : Cq E p s m args meth c cL_cutMonths 5 RL := C
  have hN2 : 295 ≤ eN E := by omega
  refine gq_lv (lv' := [(0, .ref (eB E + 0)), (1, .int p1), (2, .int p2), (3, .ref (eB E + 311))]) rfl ?_
  refine gq_aload_n (i := 3) C dL_cutMonths_0 rfl 3 rfl ?_
  refine gq_iconst (v := 0) C dL_cutMonths_1 (by decide) ?_
  refine gq_aload_n (i := 0) C dL_cutMonths_2 rfl 0 rfl ?_
  refine gq_iload_n (i := 1) C dL_cutMonths_3 rfl 1 rfl ?_
  refine gq_iload_n (i := 2) C dL_cutMonths_4 rfl 2 rfl ?_
  rcases (show (ec = 0 ∧ t = 0) ∨ (ec = 1 ∧ t = 1) ∨ (ec = 3 ∧ t = 2) by simpa using hM) with ⟨rfl, rfl⟩ | ⟨rfl, rfl⟩ | ⟨rfl, rfl⟩
  · refine gh_call (name := "java/lang/IndexOutOfBoundsException") (rest := [.int 0, .ref (eB E + 311)]) C rfl (runx_V (As := [.int p1, .int p2]) (j := 0) C (c_X3_cutMonths hN2 hl9 z0) (qn_l 0 (by decide) hN2) (by decide) (by decide) rfl wk_5_214 wk_5_215 wk_5_216 wk_1_1 wk_5_217 hd_X3_cutMonths ⟨(Nat.le_of_ble_eq_true rfl), (Nat.le_of_ble_eq_true rfl)⟩ (Nat.le_of_ble_eq_true rfl) ⟨(Nat.le_of_ble_eq_true rfl), (Nat.le_of_ble_eq_true rfl)⟩ dL_cutMonths_5 rfl) (fun h0 => ?_) [] ⟨0, 10, 13, 31⟩ [⟨0, 10, 17, 13⟩] (fun h0 => ?_) (fun h0 q => ?_)
    · rw [if_pos rfl]
      refine gq_i2l C dL_cutMonths_8 ?_
      refine gq_lastore (μ' := uL μ' 311 0 r.toInt64) C (show 311 < eN E by omega) (by decide +kernel) (sL_ok (k := 0) rfl (by rw [ln311]; decide)) dL_cutMonths_9 ?_
      refine gq_goto (tgt := 21) C dL_cutMonths_10 (by decide) ?_
      refine gq_iconst (v := nI 0) C dL_cutMonths_21 (by decide) ?_
      exact gq_iret C hr dL_cutMonths_22 (Nat.le_of_ble_eq_true rfl) (Nat.le_of_ble_eq_true rfl)
    · exact absurd rfl h0
    · exact absurd rfl h0
  · refine gh_call (name := "java/lang/IndexOutOfBoundsException") (rest := [.int 0, .ref (eB E + 311)]) C rfl (runx_V (As := [.int p1, .int p2]) (j := 0) C (c_X3_cutMonths hN2 hl9 z0) (qn_l 0 (by decide) hN2) (by decide) (by decide) rfl wk_5_214 wk_5_215 wk_5_216 wk_1_1 wk_5_217 hd_X3_cutMonths ⟨(Nat.le_of_ble_eq_true rfl), (Nat.le_of_ble_eq_true rfl)⟩ (Nat.le_of_ble_eq_true rfl) ⟨(Nat.le_of_ble_eq_true rfl), (Nat.le_of_ble_eq_true rfl)⟩ dL_cutMonths_5 rfl) (fun h0 => ?_) [] ⟨0, 10, 13, 31⟩ [⟨0, 10, 17, 13⟩] (fun h0 => ?_) (fun h0 q => ?_)
    · exact absurd h0 (by decide)
    · exact ⟨ht, fun z hz => absurd hz List.not_mem_nil, by decide, by decide, wk_4_235, wk_5_6⟩
    · rw [if_neg (by decide)]
      refine gq_astore (i := 4) C dL_cutMonths_13 (by decide) rfl ?_
      refine gq_iconst (v := nI 1) C dL_cutMonths_15 (by decide) ?_
      exact gq_iret C hr dL_cutMonths_16 (Nat.le_of_ble_eq_true rfl) (Nat.le_of_ble_eq_true rfl)
  · refine gh_call (name := "java/lang/IllegalArgumentException") (rest := [.int 0, .ref (eB E + 311)]) C rfl (runx_V (As := [.int p1, .int p2]) (j := 0) C (c_X3_cutMonths hN2 hl9 z0) (qn_l 0 (by decide) hN2) (by decide) (by decide) rfl wk_5_214 wk_5_215 wk_5_216 wk_1_1 wk_5_217 hd_X3_cutMonths ⟨(Nat.le_of_ble_eq_true rfl), (Nat.le_of_ble_eq_true rfl)⟩ (Nat.le_of_ble_eq_true rfl) ⟨(Nat.le_of_ble_eq_true rfl), (Nat.le_of_ble_eq_true rfl)⟩ dL_cutMonths_5 rfl) (fun h0 => ?_) [⟨0, 10, 13, 31⟩] ⟨0, 10, 17, 13⟩ [] (fun h0 => ?_) (fun h0 q => ?_)
    · exact absurd h0 (by decide)
    · exact ⟨ht, fun z hz => by obtain rfl := List.mem_singleton.mp hz; exact Or.inr ⟨by decide, "java/lang/IndexOutOfBoundsException", wk_4_235, by decide +kernel⟩, by decide, by decide, wk_4_64, wk_3_109⟩
    · rw [if_neg (by decide)]
      refine gq_astore (i := 4) C dL_cutMonths_17 (by decide) rfl ?_
      refine gq_iconst (v := nI 2) C dL_cutMonths_19 (by decide) ?_
      exact gq_iret C hr dL_cutMonths_20 (Nat.le_of_ble_eq_true rfl) (Nat.le_of_ble_eq_true rfl)
abbrev rmL_balanceAfter : Room := { frames := 8, cells := 2, slots := 12, locals := 216 }
set_option maxHeartbeats 4000000 in
set_option maxRecDepth 100000 in
theorem c_L_balanceAfter {l : Launch} {E : Ev} (hN : 312 ≤ eN E) (hl9 : l.stackTraces = false) {p1 : Int32} {p2 : Int32} {μ : Mm} {ec t : Nat} {r : Int64} {μ' : Mm} (z0 : F_X3_balanceAfter p1 p2 μ = some (ec, r, μ')) (hM : (ec, t) ∈ ([(0, 0), (1, 1), (3, 2)] : List (Nat × Nat))) : Met l yL_balanceAfter (Cond.codeWith yL_balanceAfter cL_balanceAfter 5 (some .int) [(0, 9, 12, 31), (0, 9, 16, 13)] :: GW) rmL_balanceAfter (va_Pc [.ref (eB E + 0), .int p1, .int p2, .ref (eB E + 311)] (qP E μ)) (qQ E (some (.int (nI t))) (if ec = 0 then uL μ' 311 0 r else μ')) rmL_balanceAfter.cells rmL_balanceAfter.slots (eA E) := by
  refine cth_of (rm := rmL_balanceAfter) (by decide) (Nat.le_of_ble_eq_true rfl) (fun p e s m args below meth c C hr ht => ?_)
  have C : Cq E p s m args meth c cL_balanceAfter 5 RL := C
  have hN2 : 295 ≤ eN E := by omega
  refine gq_lv (lv' := [(0, .ref (eB E + 0)), (1, .int p1), (2, .int p2), (3, .ref (eB E + 311))]) rfl ?_
  refine gq_aload_n (i := 3) C dL_balanceAfter_0 rfl 3 rfl ?_
  refine gq_iconst (v := 0) C dL_balanceAfter_1 (by decide) ?_
  refine gq_aload_n (i := 0) C dL_balanceAfter_2 rfl 0 rfl ?_
  refine gq_iload_n (i := 1) C dL_balanceAfter_3 rfl 1 rfl ?_
  refine gq_iload_n (i := 2) C dL_balanceAfter_4 rfl 2 rfl ?_
  rcases (show (ec = 0 ∧ t = 0) ∨ (ec = 1 ∧ t = 1) ∨ (ec = 3 ∧ t = 2) by simpa using hM) with ⟨rfl, rfl⟩ | ⟨rfl, rfl⟩ | ⟨rfl, rfl⟩
  · refine gh_call (name := "java/lang/IndexOutOfBoundsException") (rest := [.int 0, .ref (eB E + 311)]) C rfl (runx_V (As := [.int p1, .int p2]) (j := 0) C (c_X3_balanceAfter hN2 hl9 z0) (qn_l 0 (by decide) hN2) (by decide) (by decide) rfl wk_5_221 wk_5_222 wk_5_223 wk_1_1 wk_5_224 hd_X3_balanceAfter ⟨(Nat.le_of_ble_eq_true rfl), (Nat.le_of_ble_eq_true rfl)⟩ (Nat.le_of_ble_eq_true rfl) ⟨(Nat.le_of_ble_eq_true rfl), (Nat.le_of_ble_eq_true rfl)⟩ dL_balanceAfter_5 rfl) (fun h0 => ?_) [] ⟨0, 9, 12, 31⟩ [⟨0, 9, 16, 13⟩] (fun h0 => ?_) (fun h0 q => ?_)
    · rw [if_pos rfl]
      refine gq_lastore (μ' := uL μ' 311 0 r) C (show 311 < eN E by omega) (by decide +kernel) (sL_ok (k := 0) rfl (by rw [ln311]; decide)) dL_balanceAfter_8 ?_
      refine gq_goto (tgt := 20) C dL_balanceAfter_9 (by decide) ?_
      refine gq_iconst (v := nI 0) C dL_balanceAfter_20 (by decide) ?_
      exact gq_iret C hr dL_balanceAfter_21 (Nat.le_of_ble_eq_true rfl) (Nat.le_of_ble_eq_true rfl)
    · exact absurd rfl h0
    · exact absurd rfl h0
  · refine gh_call (name := "java/lang/IndexOutOfBoundsException") (rest := [.int 0, .ref (eB E + 311)]) C rfl (runx_V (As := [.int p1, .int p2]) (j := 0) C (c_X3_balanceAfter hN2 hl9 z0) (qn_l 0 (by decide) hN2) (by decide) (by decide) rfl wk_5_221 wk_5_222 wk_5_223 wk_1_1 wk_5_224 hd_X3_balanceAfter ⟨(Nat.le_of_ble_eq_true rfl), (Nat.le_of_ble_eq_true rfl)⟩ (Nat.le_of_ble_eq_true rfl) ⟨(Nat.le_of_ble_eq_true rfl), (Nat.le_of_ble_eq_true rfl)⟩ dL_balanceAfter_5 rfl) (fun h0 => ?_) [] ⟨0, 9, 12, 31⟩ [⟨0, 9, 16, 13⟩] (fun h0 => ?_) (fun h0 q => ?_)
    · exact absurd h0 (by decide)
    · exact ⟨ht, fun z hz => absurd hz List.not_mem_nil, by decide, by decide, wk_4_235, wk_5_6⟩
    · rw [if_neg (by decide)]
      refine gq_astore (i := 4) C dL_balanceAfter_12 (by decide) rfl ?_
      refine gq_iconst (v := nI 1) C dL_balanceAfter_14 (by decide) ?_
      exact gq_iret C hr dL_balanceAfter_15 (Nat.le_of_ble_eq_true rfl) (Nat.le_of_ble_eq_true rfl)
  · refine gh_call (name := "java/lang/IllegalArgumentException") (rest := [.int 0, .ref (eB E + 311)]) C rfl (runx_V (As := [.int p1, .int p2]) (j := 0) C (c_X3_balanceAfter hN2 hl9 z0) (qn_l 0 (by decide) hN2) (by decide) (by decide) rfl wk_5_221 wk_5_222 wk_5_223 wk_1_1 wk_5_224 hd_X3_balanceAfter ⟨(Nat.le_of_ble_eq_true rfl), (Nat.le_of_ble_eq_true rfl)⟩ (Nat.le_of_ble_eq_true rfl) ⟨(Nat.le_of_ble_eq_true rfl), (Nat.le_of_ble_eq_true rfl)⟩ dL_balanceAfter_5 rfl) (fun h0 => ?_) [⟨0, 9, 12, 31⟩] ⟨0, 9, 16, 13⟩ [] (fun h0 => ?_) (fun h0 q => ?_)
    · exact absurd h0 (by decide)
    · exact ⟨ht, fun z hz => by obtain rfl := List.mem_singleton.mp hz; exact Or.inr ⟨by decide, "java/lang/IndexOutOfBoundsException", wk_4_235, by decide +kernel⟩, by decide, by decide, wk_4_64, wk_3_109⟩
    · rw [if_neg (by decide)]
      refine gq_astore (i := 4) C dL_balanceAfter_16 (by decide) rfl ?_
      refine gq_iconst (v := nI 2) C dL_balanceAfter_18 (by decide) ?_
      exact gq_iret C hr dL_balanceAfter_19 (Nat.le_of_ble_eq_true rfl) (Nat.le_of_ble_eq_true rfl)
abbrev rmL_driestMonth : Room := { frames := 8, cells := 2, slots := 12, locals := 216 }
set_option maxHeartbeats 4000000 in
set_option maxRecDepth 100000 in
theorem c_L_driestMonth {l : Launch} {E : Ev} (hN : 312 ≤ eN E) (hl9 : l.stackTraces = false) {p1 : Int32} {μ : Mm} {ec t : Nat} {r : Int32} {μ' : Mm} (z0 : F_X3_driestMonth p1 μ = some (ec, r, μ')) (hM : (ec, t) ∈ ([(0, 0), (3, 1), (4, 2)] : List (Nat × Nat))) : Met l yL_driestMonth (Cond.codeWith yL_driestMonth cL_driestMonth 4 (some .int) [(0, 9, 12, 13), (0, 9, 15, 80)] :: GW) rmL_driestMonth (va_Pc [.ref (eB E + 0), .int p1, .ref (eB E + 311)] (qP E μ)) (qQ E (some (.int (nI t))) (if ec = 0 then uL μ' 311 0 r.toInt64 else μ')) rmL_driestMonth.cells rmL_driestMonth.slots (eA E) := by
  refine cth_of (rm := rmL_driestMonth) (by decide) (Nat.le_of_ble_eq_true rfl) (fun p e s m args below meth c C hr ht => ?_)
  have C : Cq E p s m args meth c cL_driestMonth 4 RL := C
  have hN2 : 295 ≤ eN E := by omega
  refine gq_lv (lv' := [(0, .ref (eB E + 0)), (1, .int p1), (2, .ref (eB E + 311))]) rfl ?_
  refine gq_aload_n (i := 2) C dL_driestMonth_0 rfl 2 rfl ?_
  refine gq_iconst (v := 0) C dL_driestMonth_1 (by decide) ?_
  refine gq_aload_n (i := 0) C dL_driestMonth_2 rfl 0 rfl ?_
  refine gq_iload_n (i := 1) C dL_driestMonth_3 rfl 1 rfl ?_
  rcases (show (ec = 0 ∧ t = 0) ∨ (ec = 3 ∧ t = 1) ∨ (ec = 4 ∧ t = 2) by simpa using hM) with ⟨rfl, rfl⟩ | ⟨rfl, rfl⟩ | ⟨rfl, rfl⟩
  · refine gh_call (name := "java/lang/IllegalArgumentException") (rest := [.int 0, .ref (eB E + 311)]) C rfl (runx_V (As := [.int p1]) (j := 0) C (c_X3_driestMonth hN2 hl9 z0) (qn_l 0 (by decide) hN2) (by decide) (by decide) rfl wk_5_229 wk_5_230 wk_5_231 wk_1_1 wk_5_232 hd_X3_driestMonth ⟨(Nat.le_of_ble_eq_true rfl), (Nat.le_of_ble_eq_true rfl)⟩ (Nat.le_of_ble_eq_true rfl) ⟨(Nat.le_of_ble_eq_true rfl), (Nat.le_of_ble_eq_true rfl)⟩ dL_driestMonth_4 rfl) (fun h0 => ?_) [] ⟨0, 9, 12, 13⟩ [⟨0, 9, 15, 80⟩] (fun h0 => ?_) (fun h0 q => ?_)
    · rw [if_pos rfl]
      refine gq_i2l C dL_driestMonth_7 ?_
      refine gq_lastore (μ' := uL μ' 311 0 r.toInt64) C (show 311 < eN E by omega) (by decide +kernel) (sL_ok (k := 0) rfl (by rw [ln311]; decide)) dL_driestMonth_8 ?_
      refine gq_goto (tgt := 18) C dL_driestMonth_9 (by decide) ?_
      refine gq_iconst (v := nI 0) C dL_driestMonth_18 (by decide) ?_
      exact gq_iret C hr dL_driestMonth_19 (Nat.le_of_ble_eq_true rfl) (Nat.le_of_ble_eq_true rfl)
    · exact absurd rfl h0
    · exact absurd rfl h0
  · refine gh_call (name := "java/lang/IllegalArgumentException") (rest := [.int 0, .ref (eB E + 311)]) C rfl (runx_V (As := [.int p1]) (j := 0) C (c_X3_driestMonth hN2 hl9 z0) (qn_l 0 (by decide) hN2) (by decide) (by decide) rfl wk_5_229 wk_5_230 wk_5_231 wk_1_1 wk_5_232 hd_X3_driestMonth ⟨(Nat.le_of_ble_eq_true rfl), (Nat.le_of_ble_eq_true rfl)⟩ (Nat.le_of_ble_eq_true rfl) ⟨(Nat.le_of_ble_eq_true rfl), (Nat.le_of_ble_eq_true rfl)⟩ dL_driestMonth_4 rfl) (fun h0 => ?_) [] ⟨0, 9, 12, 13⟩ [⟨0, 9, 15, 80⟩] (fun h0 => ?_) (fun h0 q => ?_)
    · exact absurd h0 (by decide)
    · exact ⟨ht, fun z hz => absurd hz List.not_mem_nil, by decide, by decide, wk_4_64, wk_3_109⟩
    · rw [if_neg (by decide)]
      refine gq_astore_n (i := 3) C dL_driestMonth_12 rfl (by decide) rfl ?_
      refine gq_iconst (v := nI 1) C dL_driestMonth_13 (by decide) ?_
      exact gq_iret C hr dL_driestMonth_14 (Nat.le_of_ble_eq_true rfl) (Nat.le_of_ble_eq_true rfl)
  · refine gh_call (name := "java/lang/IllegalStateException") (rest := [.int 0, .ref (eB E + 311)]) C rfl (runx_V (As := [.int p1]) (j := 0) C (c_X3_driestMonth hN2 hl9 z0) (qn_l 0 (by decide) hN2) (by decide) (by decide) rfl wk_5_229 wk_5_230 wk_5_231 wk_1_1 wk_5_232 hd_X3_driestMonth ⟨(Nat.le_of_ble_eq_true rfl), (Nat.le_of_ble_eq_true rfl)⟩ (Nat.le_of_ble_eq_true rfl) ⟨(Nat.le_of_ble_eq_true rfl), (Nat.le_of_ble_eq_true rfl)⟩ dL_driestMonth_4 rfl) (fun h0 => ?_) [⟨0, 9, 12, 13⟩] ⟨0, 9, 15, 80⟩ [] (fun h0 => ?_) (fun h0 q => ?_)
    · exact absurd h0 (by decide)
    · exact ⟨ht, fun z hz => by obtain rfl := List.mem_singleton.mp hz; exact Or.inr ⟨by decide, "java/lang/IllegalArgumentException", wk_4_64, by decide +kernel⟩, by decide, by decide, wk_5_228, wk_5_239⟩
    · rw [if_neg (by decide)]
      refine gq_astore_n (i := 3) C dL_driestMonth_15 rfl (by decide) rfl ?_
      refine gq_iconst (v := nI 2) C dL_driestMonth_16 (by decide) ?_
      exact gq_iret C hr dL_driestMonth_17 (Nat.le_of_ble_eq_true rfl) (Nat.le_of_ble_eq_true rfl)
abbrev rmL_free : Room := { frames := 8, cells := 1, slots := 6, locals := 156 }
set_option maxHeartbeats 4000000 in
set_option maxRecDepth 100000 in
theorem c_L_free {l : Launch} {E : Ev} (hN : 312 ≤ eN E) (hl9 : l.stackTraces = false) {p1 : Int32} {μ : Mm} {ec t : Nat} {r : Int32} {μ' : Mm} (z0 : F_X3_free p1 μ = some (ec, r, μ')) (hM : (ec, t) ∈ ([(0, 0), (1, 1)] : List (Nat × Nat))) : Met l yL_free (Cond.codeWith yL_free cL_free 4 (some .int) [(0, 9, 12, 31)] :: GW) rmL_free (va_Pc [.ref (eB E + 0), .int p1, .ref (eB E + 311)] (qP E μ)) (qQ E (some (.int (nI t))) (if ec = 0 then uL μ' 311 0 r.toInt64 else μ')) rmL_free.cells rmL_free.slots (eA E) := by
  refine cth_of (rm := rmL_free) (by decide) (Nat.le_of_ble_eq_true rfl) (fun p e s m args below meth c C hr ht => ?_)
  have C : Cq E p s m args meth c cL_free 4 RL := C
  have hN2 : 295 ≤ eN E := by omega
  refine gq_lv (lv' := [(0, .ref (eB E + 0)), (1, .int p1), (2, .ref (eB E + 311))]) rfl ?_
  refine gq_aload_n (i := 2) C dL_free_0 rfl 2 rfl ?_
  refine gq_iconst (v := 0) C dL_free_1 (by decide) ?_
  refine gq_aload_n (i := 0) C dL_free_2 rfl 0 rfl ?_
  refine gq_iload_n (i := 1) C dL_free_3 rfl 1 rfl ?_
  rcases (show (ec = 0 ∧ t = 0) ∨ (ec = 1 ∧ t = 1) by simpa using hM) with ⟨rfl, rfl⟩ | ⟨rfl, rfl⟩
  · refine gh_call (name := "java/lang/IndexOutOfBoundsException") (rest := [.int 0, .ref (eB E + 311)]) C rfl (runx_V (As := [.int p1]) (j := 0) C (c_X3_free hN2 hl9 z0) (qn_l 0 (by decide) hN2) (by decide) (by decide) rfl wk_6_16 wk_6_17 wk_6_18 wk_1_1 wk_6_19 hd_X3_free ⟨(Nat.le_of_ble_eq_true rfl), (Nat.le_of_ble_eq_true rfl)⟩ (Nat.le_of_ble_eq_true rfl) ⟨(Nat.le_of_ble_eq_true rfl), (Nat.le_of_ble_eq_true rfl)⟩ dL_free_4 rfl) (fun h0 => ?_) [] ⟨0, 9, 12, 31⟩ [] (fun h0 => ?_) (fun h0 q => ?_)
    · rw [if_pos rfl]
      refine gq_i2l C dL_free_7 ?_
      refine gq_lastore (μ' := uL μ' 311 0 r.toInt64) C (show 311 < eN E by omega) (by decide +kernel) (sL_ok (k := 0) rfl (by rw [ln311]; decide)) dL_free_8 ?_
      refine gq_goto (tgt := 15) C dL_free_9 (by decide) ?_
      refine gq_iconst (v := nI 0) C dL_free_15 (by decide) ?_
      exact gq_iret C hr dL_free_16 (Nat.le_of_ble_eq_true rfl) (Nat.le_of_ble_eq_true rfl)
    · exact absurd rfl h0
    · exact absurd rfl h0
  · refine gh_call (name := "java/lang/IndexOutOfBoundsException") (rest := [.int 0, .ref (eB E + 311)]) C rfl (runx_V (As := [.int p1]) (j := 0) C (c_X3_free hN2 hl9 z0) (qn_l 0 (by decide) hN2) (by decide) (by decide) rfl wk_6_16 wk_6_17 wk_6_18 wk_1_1 wk_6_19 hd_X3_free ⟨(Nat.le_of_ble_eq_true rfl), (Nat.le_of_ble_eq_true rfl)⟩ (Nat.le_of_ble_eq_true rfl) ⟨(Nat.le_of_ble_eq_true rfl), (Nat.le_of_ble_eq_true rfl)⟩ dL_free_4 rfl) (fun h0 => ?_) [] ⟨0, 9, 12, 31⟩ [] (fun h0 => ?_) (fun h0 q => ?_)
    · exact absurd h0 (by decide)
    · exact ⟨ht, fun z hz => absurd hz List.not_mem_nil, by decide, by decide, wk_4_235, wk_5_6⟩
    · rw [if_neg (by decide)]
      refine gq_astore_n (i := 3) C dL_free_12 rfl (by decide) rfl ?_
      refine gq_iconst (v := nI 1) C dL_free_13 (by decide) ?_
      exact gq_iret C hr dL_free_14 (Nat.le_of_ble_eq_true rfl) (Nat.le_of_ble_eq_true rfl)
abbrev rmL_bestReach : Room := { frames := 8, cells := 1, slots := 6, locals := 216 }
set_option maxHeartbeats 4000000 in
set_option maxRecDepth 100000 in
theorem c_L_bestReach {l : Launch} {E : Ev} (hN : 312 ≤ eN E) (hl9 : l.stackTraces = false) {p1 : Int32} {μ : Mm} {ec t : Nat} {r : Int32} {μ' : Mm} (z0 : F_X3_bestReach p1 μ = some (ec, r, μ')) (hM : (ec, t) ∈ ([(0, 0), (1, 1)] : List (Nat × Nat))) : Met l yL_bestReach (Cond.codeWith yL_bestReach cL_bestReach 4 (some .int) [(0, 9, 12, 31)] :: GW) rmL_bestReach (va_Pc [.ref (eB E + 0), .int p1, .ref (eB E + 311)] (qP E μ)) (qQ E (some (.int (nI t))) (if ec = 0 then uL μ' 311 0 r.toInt64 else μ')) rmL_bestReach.cells rmL_bestReach.slots (eA E) := by
  refine cth_of (rm := rmL_bestReach) (by decide) (Nat.le_of_ble_eq_true rfl) (fun p e s m args below meth c C hr ht => ?_)
  have C : Cq E p s m args meth c cL_bestReach 4 RL := C
  have hN2 : 295 ≤ eN E := by omega
  refine gq_lv (lv' := [(0, .ref (eB E + 0)), (1, .int p1), (2, .ref (eB E + 311))]) rfl ?_
  refine gq_aload_n (i := 2) C dL_bestReach_0 rfl 2 rfl ?_
  refine gq_iconst (v := 0) C dL_bestReach_1 (by decide) ?_
  refine gq_aload_n (i := 0) C dL_bestReach_2 rfl 0 rfl ?_
  refine gq_iload_n (i := 1) C dL_bestReach_3 rfl 1 rfl ?_
  rcases (show (ec = 0 ∧ t = 0) ∨ (ec = 1 ∧ t = 1) by simpa using hM) with ⟨rfl, rfl⟩ | ⟨rfl, rfl⟩
  · refine gh_call (name := "java/lang/IndexOutOfBoundsException") (rest := [.int 0, .ref (eB E + 311)]) C rfl (runx_V (As := [.int p1]) (j := 0) C (c_X3_bestReach hN2 hl9 z0) (qn_l 0 (by decide) hN2) (by decide) (by decide) rfl wk_6_25 wk_6_26 wk_6_27 wk_1_1 wk_6_28 hd_X3_bestReach ⟨(Nat.le_of_ble_eq_true rfl), (Nat.le_of_ble_eq_true rfl)⟩ (Nat.le_of_ble_eq_true rfl) ⟨(Nat.le_of_ble_eq_true rfl), (Nat.le_of_ble_eq_true rfl)⟩ dL_bestReach_4 rfl) (fun h0 => ?_) [] ⟨0, 9, 12, 31⟩ [] (fun h0 => ?_) (fun h0 q => ?_)
    · rw [if_pos rfl]
      refine gq_i2l C dL_bestReach_7 ?_
      refine gq_lastore (μ' := uL μ' 311 0 r.toInt64) C (show 311 < eN E by omega) (by decide +kernel) (sL_ok (k := 0) rfl (by rw [ln311]; decide)) dL_bestReach_8 ?_
      refine gq_goto (tgt := 15) C dL_bestReach_9 (by decide) ?_
      refine gq_iconst (v := nI 0) C dL_bestReach_15 (by decide) ?_
      exact gq_iret C hr dL_bestReach_16 (Nat.le_of_ble_eq_true rfl) (Nat.le_of_ble_eq_true rfl)
    · exact absurd rfl h0
    · exact absurd rfl h0
  · refine gh_call (name := "java/lang/IndexOutOfBoundsException") (rest := [.int 0, .ref (eB E + 311)]) C rfl (runx_V (As := [.int p1]) (j := 0) C (c_X3_bestReach hN2 hl9 z0) (qn_l 0 (by decide) hN2) (by decide) (by decide) rfl wk_6_25 wk_6_26 wk_6_27 wk_1_1 wk_6_28 hd_X3_bestReach ⟨(Nat.le_of_ble_eq_true rfl), (Nat.le_of_ble_eq_true rfl)⟩ (Nat.le_of_ble_eq_true rfl) ⟨(Nat.le_of_ble_eq_true rfl), (Nat.le_of_ble_eq_true rfl)⟩ dL_bestReach_4 rfl) (fun h0 => ?_) [] ⟨0, 9, 12, 31⟩ [] (fun h0 => ?_) (fun h0 q => ?_)
    · exact absurd h0 (by decide)
    · exact ⟨ht, fun z hz => absurd hz List.not_mem_nil, by decide, by decide, wk_4_235, wk_5_6⟩
    · rw [if_neg (by decide)]
      refine gq_astore_n (i := 3) C dL_bestReach_12 rfl (by decide) rfl ?_
      refine gq_iconst (v := nI 1) C dL_bestReach_13 (by decide) ?_
      exact gq_iret C hr dL_bestReach_14 (Nat.le_of_ble_eq_true rfl) (Nat.le_of_ble_eq_true rfl)
abbrev rmL_injured : Room := { frames := 8, cells := 3, slots := 18, locals := 216 }
set_option maxHeartbeats 4000000 in
set_option maxRecDepth 100000 in
theorem c_L_injured {l : Launch} {E : Ev} (hN : 312 ≤ eN E) (hl9 : l.stackTraces = false) {p1 : Int32} {p2 : Int32} {p3 : Int32} {μ : Mm} {ec t : Nat} {r : Int32} {μ' : Mm} (z0 : F_X3_injured p1 p2 p3 μ = some (ec, r, μ')) (hM : (ec, t) ∈ ([(0, 0), (1, 1), (3, 2)] : List (Nat × Nat))) : Met l yL_injured (Cond.codeWith yL_injured cL_injured 6 (some .int) [(0, 12, 15, 31), (0, 12, 19, 13)] :: GW) rmL_injured (va_Pc [.ref (eB E + 0), .int p1, .int p2, .int p3, .ref (eB E + 311)] (qP E μ)) (qQ E (some (.int (nI t))) (if ec = 0 then uL μ' 311 0 r.toInt64 else μ')) rmL_injured.cells rmL_injured.slots (eA E) := by
  refine cth_of (rm := rmL_injured) (by decide) (Nat.le_of_ble_eq_true rfl) (fun p e s m args below meth c C hr ht => ?_)
  have C : Cq E p s m args meth c cL_injured 6 RL := C
  have hN2 : 295 ≤ eN E := by omega
  refine gq_lv (lv' := [(0, .ref (eB E + 0)), (1, .int p1), (2, .int p2), (3, .int p3), (4, .ref (eB E + 311))]) rfl ?_
  refine gq_aload (i := 4) C dL_injured_0 4 rfl ?_
  refine gq_iconst (v := 0) C dL_injured_2 (by decide) ?_
  refine gq_aload_n (i := 0) C dL_injured_3 rfl 0 rfl ?_
  refine gq_iload_n (i := 1) C dL_injured_4 rfl 1 rfl ?_
  refine gq_iload_n (i := 2) C dL_injured_5 rfl 2 rfl ?_
  refine gq_iload_n (i := 3) C dL_injured_6 rfl 3 rfl ?_
  rcases (show (ec = 0 ∧ t = 0) ∨ (ec = 1 ∧ t = 1) ∨ (ec = 3 ∧ t = 2) by simpa using hM) with ⟨rfl, rfl⟩ | ⟨rfl, rfl⟩ | ⟨rfl, rfl⟩
  · refine gh_call (name := "java/lang/IndexOutOfBoundsException") (rest := [.int 0, .ref (eB E + 311)]) C rfl (runx_V (As := [.int p1, .int p2, .int p3]) (j := 0) C (c_X3_injured hN2 hl9 z0) (qn_l 0 (by decide) hN2) (by decide) (by decide) rfl wk_6_42 wk_6_43 wk_6_44 wk_1_1 wk_6_45 hd_X3_injured ⟨(Nat.le_of_ble_eq_true rfl), (Nat.le_of_ble_eq_true rfl)⟩ (Nat.le_of_ble_eq_true rfl) ⟨(Nat.le_of_ble_eq_true rfl), (Nat.le_of_ble_eq_true rfl)⟩ dL_injured_7 rfl) (fun h0 => ?_) [] ⟨0, 12, 15, 31⟩ [⟨0, 12, 19, 13⟩] (fun h0 => ?_) (fun h0 q => ?_)
    · rw [if_pos rfl]
      refine gq_i2l C dL_injured_10 ?_
      refine gq_lastore (μ' := uL μ' 311 0 r.toInt64) C (show 311 < eN E by omega) (by decide +kernel) (sL_ok (k := 0) rfl (by rw [ln311]; decide)) dL_injured_11 ?_
      refine gq_goto (tgt := 23) C dL_injured_12 (by decide) ?_
      refine gq_iconst (v := nI 0) C dL_injured_23 (by decide) ?_
      exact gq_iret C hr dL_injured_24 (Nat.le_of_ble_eq_true rfl) (Nat.le_of_ble_eq_true rfl)
    · exact absurd rfl h0
    · exact absurd rfl h0
  · refine gh_call (name := "java/lang/IndexOutOfBoundsException") (rest := [.int 0, .ref (eB E + 311)]) C rfl (runx_V (As := [.int p1, .int p2, .int p3]) (j := 0) C (c_X3_injured hN2 hl9 z0) (qn_l 0 (by decide) hN2) (by decide) (by decide) rfl wk_6_42 wk_6_43 wk_6_44 wk_1_1 wk_6_45 hd_X3_injured ⟨(Nat.le_of_ble_eq_true rfl), (Nat.le_of_ble_eq_true rfl)⟩ (Nat.le_of_ble_eq_true rfl) ⟨(Nat.le_of_ble_eq_true rfl), (Nat.le_of_ble_eq_true rfl)⟩ dL_injured_7 rfl) (fun h0 => ?_) [] ⟨0, 12, 15, 31⟩ [⟨0, 12, 19, 13⟩] (fun h0 => ?_) (fun h0 q => ?_)
    · exact absurd h0 (by decide)
    · exact ⟨ht, fun z hz => absurd hz List.not_mem_nil, by decide, by decide, wk_4_235, wk_5_6⟩
    · rw [if_neg (by decide)]
      refine gq_astore (i := 5) C dL_injured_15 (by decide) rfl ?_
      refine gq_iconst (v := nI 1) C dL_injured_17 (by decide) ?_
      exact gq_iret C hr dL_injured_18 (Nat.le_of_ble_eq_true rfl) (Nat.le_of_ble_eq_true rfl)
  · refine gh_call (name := "java/lang/IllegalArgumentException") (rest := [.int 0, .ref (eB E + 311)]) C rfl (runx_V (As := [.int p1, .int p2, .int p3]) (j := 0) C (c_X3_injured hN2 hl9 z0) (qn_l 0 (by decide) hN2) (by decide) (by decide) rfl wk_6_42 wk_6_43 wk_6_44 wk_1_1 wk_6_45 hd_X3_injured ⟨(Nat.le_of_ble_eq_true rfl), (Nat.le_of_ble_eq_true rfl)⟩ (Nat.le_of_ble_eq_true rfl) ⟨(Nat.le_of_ble_eq_true rfl), (Nat.le_of_ble_eq_true rfl)⟩ dL_injured_7 rfl) (fun h0 => ?_) [⟨0, 12, 15, 31⟩] ⟨0, 12, 19, 13⟩ [] (fun h0 => ?_) (fun h0 q => ?_)
    · exact absurd h0 (by decide)
    · exact ⟨ht, fun z hz => by obtain rfl := List.mem_singleton.mp hz; exact Or.inr ⟨by decide, "java/lang/IndexOutOfBoundsException", wk_4_235, by decide +kernel⟩, by decide, by decide, wk_4_64, wk_3_109⟩
    · rw [if_neg (by decide)]
      refine gq_astore (i := 5) C dL_injured_19 (by decide) rfl ?_
      refine gq_iconst (v := nI 2) C dL_injured_21 (by decide) ?_
      exact gq_iret C hr dL_injured_22 (Nat.le_of_ble_eq_true rfl) (Nat.le_of_ble_eq_true rfl)
abbrev rmL_blocked : Room := { frames := 8, cells := 1, slots := 6, locals := 216 }
set_option maxHeartbeats 4000000 in
set_option maxRecDepth 100000 in
theorem c_L_blocked {l : Launch} {E : Ev} (hN : 312 ≤ eN E) (hl9 : l.stackTraces = false) {p1 : Int32} {μ : Mm} {ec t : Nat} {r : Int32} {μ' : Mm} (z0 : F_X3_blocked p1 μ = some (ec, r, μ')) (hM : (ec, t) ∈ ([(0, 0), (1, 1)] : List (Nat × Nat))) : Met l yL_blocked (Cond.codeWith yL_blocked cL_blocked 4 (some .int) [(0, 9, 12, 31)] :: GW) rmL_blocked (va_Pc [.ref (eB E + 0), .int p1, .ref (eB E + 311)] (qP E μ)) (qQ E (some (.int (nI t))) (if ec = 0 then uL μ' 311 0 r.toInt64 else μ')) rmL_blocked.cells rmL_blocked.slots (eA E) := by
  refine cth_of (rm := rmL_blocked) (by decide) (Nat.le_of_ble_eq_true rfl) (fun p e s m args below meth c C hr ht => ?_)
  have C : Cq E p s m args meth c cL_blocked 4 RL := C
  have hN2 : 295 ≤ eN E := by omega
  refine gq_lv (lv' := [(0, .ref (eB E + 0)), (1, .int p1), (2, .ref (eB E + 311))]) rfl ?_
  refine gq_aload_n (i := 2) C dL_blocked_0 rfl 2 rfl ?_
  refine gq_iconst (v := 0) C dL_blocked_1 (by decide) ?_
  refine gq_aload_n (i := 0) C dL_blocked_2 rfl 0 rfl ?_
  refine gq_iload_n (i := 1) C dL_blocked_3 rfl 1 rfl ?_
  rcases (show (ec = 0 ∧ t = 0) ∨ (ec = 1 ∧ t = 1) by simpa using hM) with ⟨rfl, rfl⟩ | ⟨rfl, rfl⟩
  · refine gh_call (name := "java/lang/IndexOutOfBoundsException") (rest := [.int 0, .ref (eB E + 311)]) C rfl (runx_V (As := [.int p1]) (j := 0) C (c_X3_blocked hN2 hl9 z0) (qn_l 0 (by decide) hN2) (by decide) (by decide) rfl wk_6_57 wk_6_58 wk_6_59 wk_1_1 wk_6_60 hd_X3_blocked ⟨(Nat.le_of_ble_eq_true rfl), (Nat.le_of_ble_eq_true rfl)⟩ (Nat.le_of_ble_eq_true rfl) ⟨(Nat.le_of_ble_eq_true rfl), (Nat.le_of_ble_eq_true rfl)⟩ dL_blocked_4 rfl) (fun h0 => ?_) [] ⟨0, 9, 12, 31⟩ [] (fun h0 => ?_) (fun h0 q => ?_)
    · rw [if_pos rfl]
      refine gq_i2l C dL_blocked_7 ?_
      refine gq_lastore (μ' := uL μ' 311 0 r.toInt64) C (show 311 < eN E by omega) (by decide +kernel) (sL_ok (k := 0) rfl (by rw [ln311]; decide)) dL_blocked_8 ?_
      refine gq_goto (tgt := 15) C dL_blocked_9 (by decide) ?_
      refine gq_iconst (v := nI 0) C dL_blocked_15 (by decide) ?_
      exact gq_iret C hr dL_blocked_16 (Nat.le_of_ble_eq_true rfl) (Nat.le_of_ble_eq_true rfl)
    · exact absurd rfl h0
    · exact absurd rfl h0
  · refine gh_call (name := "java/lang/IndexOutOfBoundsException") (rest := [.int 0, .ref (eB E + 311)]) C rfl (runx_V (As := [.int p1]) (j := 0) C (c_X3_blocked hN2 hl9 z0) (qn_l 0 (by decide) hN2) (by decide) (by decide) rfl wk_6_57 wk_6_58 wk_6_59 wk_1_1 wk_6_60 hd_X3_blocked ⟨(Nat.le_of_ble_eq_true rfl), (Nat.le_of_ble_eq_true rfl)⟩ (Nat.le_of_ble_eq_true rfl) ⟨(Nat.le_of_ble_eq_true rfl), (Nat.le_of_ble_eq_true rfl)⟩ dL_blocked_4 rfl) (fun h0 => ?_) [] ⟨0, 9, 12, 31⟩ [] (fun h0 => ?_) (fun h0 q => ?_)
    · exact absurd h0 (by decide)
    · exact ⟨ht, fun z hz => absurd hz List.not_mem_nil, by decide, by decide, wk_4_235, wk_5_6⟩
    · rw [if_neg (by decide)]
      refine gq_astore_n (i := 3) C dL_blocked_12 rfl (by decide) rfl ?_
      refine gq_iconst (v := nI 1) C dL_blocked_13 (by decide) ?_
      exact gq_iret C hr dL_blocked_14 (Nat.le_of_ble_eq_true rfl) (Nat.le_of_ble_eq_true rfl)
abbrev rmL_run : Room := { frames := 8, cells := 2, slots := 12, locals := 194 }
set_option maxHeartbeats 4000000 in
set_option maxRecDepth 100000 in
theorem c_L_run {l : Launch} {E : Ev} (hN : 312 ≤ eN E) (hl9 : l.stackTraces = false) {p1 : Int32} {μ : Mm} {ec t : Nat} {r : Int32} {μ' : Mm} (z0 : F_X3_run p1 μ = some (ec, r, μ')) (hM : (ec, t) ∈ ([(0, 0), (3, 1), (4, 2)] : List (Nat × Nat))) : Met l yL_run (Cond.codeWith yL_run cL_run 4 (some .int) [(0, 9, 12, 13), (0, 9, 15, 80)] :: GW) rmL_run (va_Pc [.ref (eB E + 0), .int p1, .ref (eB E + 311)] (qP E μ)) (qQ E (some (.int (nI t))) (if ec = 0 then uL μ' 311 0 r.toInt64 else μ')) rmL_run.cells rmL_run.slots (eA E) := by
  refine cth_of (rm := rmL_run) (by decide) (Nat.le_of_ble_eq_true rfl) (fun p e s m args below meth c C hr ht => ?_)
  have C : Cq E p s m args meth c cL_run 4 RL := C
  have hN2 : 295 ≤ eN E := by omega
  refine gq_lv (lv' := [(0, .ref (eB E + 0)), (1, .int p1), (2, .ref (eB E + 311))]) rfl ?_
  refine gq_aload_n (i := 2) C dL_run_0 rfl 2 rfl ?_
  refine gq_iconst (v := 0) C dL_run_1 (by decide) ?_
  refine gq_aload_n (i := 0) C dL_run_2 rfl 0 rfl ?_
  refine gq_iload_n (i := 1) C dL_run_3 rfl 1 rfl ?_
  rcases (show (ec = 0 ∧ t = 0) ∨ (ec = 3 ∧ t = 1) ∨ (ec = 4 ∧ t = 2) by simpa using hM) with ⟨rfl, rfl⟩ | ⟨rfl, rfl⟩ | ⟨rfl, rfl⟩
  · refine gh_call (name := "java/lang/IllegalArgumentException") (rest := [.int 0, .ref (eB E + 311)]) C rfl (runx_V (As := [.int p1]) (j := 0) C (c_X3_run hN2 hl9 z0) (qn_l 0 (by decide) hN2) (by decide) (by decide) rfl wk_6_64 wk_6_65 wk_6_66 wk_1_1 wk_6_67 hd_X3_run ⟨(Nat.le_of_ble_eq_true rfl), (Nat.le_of_ble_eq_true rfl)⟩ (Nat.le_of_ble_eq_true rfl) ⟨(Nat.le_of_ble_eq_true rfl), (Nat.le_of_ble_eq_true rfl)⟩ dL_run_4 rfl) (fun h0 => ?_) [] ⟨0, 9, 12, 13⟩ [⟨0, 9, 15, 80⟩] (fun h0 => ?_) (fun h0 q => ?_)
    · rw [if_pos rfl]
      refine gq_i2l C dL_run_7 ?_
      refine gq_lastore (μ' := uL μ' 311 0 r.toInt64) C (show 311 < eN E by omega) (by decide +kernel) (sL_ok (k := 0) rfl (by rw [ln311]; decide)) dL_run_8 ?_
      refine gq_goto (tgt := 18) C dL_run_9 (by decide) ?_
      refine gq_iconst (v := nI 0) C dL_run_18 (by decide) ?_
      exact gq_iret C hr dL_run_19 (Nat.le_of_ble_eq_true rfl) (Nat.le_of_ble_eq_true rfl)
    · exact absurd rfl h0
    · exact absurd rfl h0
  · refine gh_call (name := "java/lang/IllegalArgumentException") (rest := [.int 0, .ref (eB E + 311)]) C rfl (runx_V (As := [.int p1]) (j := 0) C (c_X3_run hN2 hl9 z0) (qn_l 0 (by decide) hN2) (by decide) (by decide) rfl wk_6_64 wk_6_65 wk_6_66 wk_1_1 wk_6_67 hd_X3_run ⟨(Nat.le_of_ble_eq_true rfl), (Nat.le_of_ble_eq_true rfl)⟩ (Nat.le_of_ble_eq_true rfl) ⟨(Nat.le_of_ble_eq_true rfl), (Nat.le_of_ble_eq_true rfl)⟩ dL_run_4 rfl) (fun h0 => ?_) [] ⟨0, 9, 12, 13⟩ [⟨0, 9, 15, 80⟩] (fun h0 => ?_) (fun h0 q => ?_)
    · exact absurd h0 (by decide)
    · exact ⟨ht, fun z hz => absurd hz List.not_mem_nil, by decide, by decide, wk_4_64, wk_3_109⟩
    · rw [if_neg (by decide)]
      refine gq_astore_n (i := 3) C dL_run_12 rfl (by decide) rfl ?_
      refine gq_iconst (v := nI 1) C dL_run_13 (by decide) ?_
      exact gq_iret C hr dL_run_14 (Nat.le_of_ble_eq_true rfl) (Nat.le_of_ble_eq_true rfl)
  · refine gh_call (name := "java/lang/IllegalStateException") (rest := [.int 0, .ref (eB E + 311)]) C rfl (runx_V (As := [.int p1]) (j := 0) C (c_X3_run hN2 hl9 z0) (qn_l 0 (by decide) hN2) (by decide) (by decide) rfl wk_6_64 wk_6_65 wk_6_66 wk_1_1 wk_6_67 hd_X3_run ⟨(Nat.le_of_ble_eq_true rfl), (Nat.le_of_ble_eq_true rfl)⟩ (Nat.le_of_ble_eq_true rfl) ⟨(Nat.le_of_ble_eq_true rfl), (Nat.le_of_ble_eq_true rfl)⟩ dL_run_4 rfl) (fun h0 => ?_) [⟨0, 9, 12, 13⟩] ⟨0, 9, 15, 80⟩ [] (fun h0 => ?_) (fun h0 q => ?_)
    · exact absurd h0 (by decide)
    · exact ⟨ht, fun z hz => by obtain rfl := List.mem_singleton.mp hz; exact Or.inr ⟨by decide, "java/lang/IllegalArgumentException", wk_4_64, by decide +kernel⟩, by decide, by decide, wk_5_228, wk_5_239⟩
    · rw [if_neg (by decide)]
      refine gq_astore_n (i := 3) C dL_run_15 rfl (by decide) rfl ?_
      refine gq_iconst (v := nI 2) C dL_run_16 (by decide) ?_
      exact gq_iret C hr dL_run_17 (Nat.le_of_ble_eq_true rfl) (Nat.le_of_ble_eq_true rfl)
abbrev rmL_lease : Room := { frames := 8, cells := 7, slots := 42, locals := 177 }
set_option maxHeartbeats 4000000 in
set_option maxRecDepth 100000 in
theorem c_L_lease {l : Launch} {E : Ev} (hN : 312 ≤ eN E) (hl9 : l.stackTraces = false) {p1 : Int32} {p2 : Int32} {p3 : Int32} {p4 : Int32} {p5 : Int32} {p6 : Int32} {μ : Mm} {ec t : Nat} {r : Int32} {μ' : Mm} (z0 : F_X3_lease p1 p2 p3 p4 p5 p6 μ = some (ec, r, μ')) (hM : (ec, t) ∈ ([(0, 0), (1, 1), (3, 2), (4, 3)] : List (Nat × Nat))) : Met l yL_lease (Cond.codeWith yL_lease cL_lease 9 (some .int) [(0, 18, 21, 31), (0, 18, 25, 13), (0, 18, 29, 80)] :: GW) rmL_lease (va_Pc [.ref (eB E + 0), .int p1, .int p2, .int p3, .int p4, .int p5, .int p6, .ref (eB E + 311)] (qP E μ)) (qQ E (some (.int (nI t))) (if ec = 0 then uL μ' 311 0 r.toInt64 else μ')) rmL_lease.cells rmL_lease.slots (eA E) := by
  refine cth_of (rm := rmL_lease) (by decide) (Nat.le_of_ble_eq_true rfl) (fun p e s m args below meth c C hr ht => ?_)
  have C : Cq E p s m args meth c cL_lease 9 RL := C
  have hN2 : 295 ≤ eN E := by omega
  refine gq_lv (lv' := [(0, .ref (eB E + 0)), (1, .int p1), (2, .int p2), (3, .int p3), (4, .int p4), (5, .int p5), (6, .int p6), (7, .ref (eB E + 311))]) rfl ?_
  refine gq_aload (i := 7) C dL_lease_0 7 rfl ?_
  refine gq_iconst (v := 0) C dL_lease_2 (by decide) ?_
  refine gq_aload_n (i := 0) C dL_lease_3 rfl 0 rfl ?_
  refine gq_iload_n (i := 1) C dL_lease_4 rfl 1 rfl ?_
  refine gq_iload_n (i := 2) C dL_lease_5 rfl 2 rfl ?_
  refine gq_iload_n (i := 3) C dL_lease_6 rfl 3 rfl ?_
  refine gq_iload (i := 4) C dL_lease_7 4 rfl ?_
  refine gq_iload (i := 5) C dL_lease_9 5 rfl ?_
  refine gq_iload (i := 6) C dL_lease_11 6 rfl ?_
  rcases (show (ec = 0 ∧ t = 0) ∨ (ec = 1 ∧ t = 1) ∨ (ec = 3 ∧ t = 2) ∨ (ec = 4 ∧ t = 3) by simpa using hM) with ⟨rfl, rfl⟩ | ⟨rfl, rfl⟩ | ⟨rfl, rfl⟩ | ⟨rfl, rfl⟩
  · refine gh_call (name := "java/lang/IndexOutOfBoundsException") (rest := [.int 0, .ref (eB E + 311)]) C rfl (runx_V (As := [.int p1, .int p2, .int p3, .int p4, .int p5, .int p6]) (j := 0) C (c_X3_lease hN2 hl9 z0) (qn_l 0 (by decide) hN2) (by decide) (by decide) rfl wk_6_75 wk_6_76 wk_6_77 wk_1_1 wk_6_78 hd_X3_lease ⟨(Nat.le_of_ble_eq_true rfl), (Nat.le_of_ble_eq_true rfl)⟩ (Nat.le_of_ble_eq_true rfl) ⟨(Nat.le_of_ble_eq_true rfl), (Nat.le_of_ble_eq_true rfl)⟩ dL_lease_13 rfl) (fun h0 => ?_) [] ⟨0, 18, 21, 31⟩ [⟨0, 18, 25, 13⟩, ⟨0, 18, 29, 80⟩] (fun h0 => ?_) (fun h0 q => ?_)
    · rw [if_pos rfl]
      refine gq_i2l C dL_lease_16 ?_
      refine gq_lastore (μ' := uL μ' 311 0 r.toInt64) C (show 311 < eN E by omega) (by decide +kernel) (sL_ok (k := 0) rfl (by rw [ln311]; decide)) dL_lease_17 ?_
      refine gq_goto (tgt := 33) C dL_lease_18 (by decide) ?_
      refine gq_iconst (v := nI 0) C dL_lease_33 (by decide) ?_
      exact gq_iret C hr dL_lease_34 (Nat.le_of_ble_eq_true rfl) (Nat.le_of_ble_eq_true rfl)
    · exact absurd rfl h0
    · exact absurd rfl h0
  · refine gh_call (name := "java/lang/IndexOutOfBoundsException") (rest := [.int 0, .ref (eB E + 311)]) C rfl (runx_V (As := [.int p1, .int p2, .int p3, .int p4, .int p5, .int p6]) (j := 0) C (c_X3_lease hN2 hl9 z0) (qn_l 0 (by decide) hN2) (by decide) (by decide) rfl wk_6_75 wk_6_76 wk_6_77 wk_1_1 wk_6_78 hd_X3_lease ⟨(Nat.le_of_ble_eq_true rfl), (Nat.le_of_ble_eq_true rfl)⟩ (Nat.le_of_ble_eq_true rfl) ⟨(Nat.le_of_ble_eq_true rfl), (Nat.le_of_ble_eq_true rfl)⟩ dL_lease_13 rfl) (fun h0 => ?_) [] ⟨0, 18, 21, 31⟩ [⟨0, 18, 25, 13⟩, ⟨0, 18, 29, 80⟩] (fun h0 => ?_) (fun h0 q => ?_)
    · exact absurd h0 (by decide)
    · exact ⟨ht, fun z hz => absurd hz List.not_mem_nil, by decide, by decide, wk_4_235, wk_5_6⟩
    · rw [if_neg (by decide)]
      refine gq_astore (i := 8) C dL_lease_21 (by decide) rfl ?_
      refine gq_iconst (v := nI 1) C dL_lease_23 (by decide) ?_
      exact gq_iret C hr dL_lease_24 (Nat.le_of_ble_eq_true rfl) (Nat.le_of_ble_eq_true rfl)
  · refine gh_call (name := "java/lang/IllegalArgumentException") (rest := [.int 0, .ref (eB E + 311)]) C rfl (runx_V (As := [.int p1, .int p2, .int p3, .int p4, .int p5, .int p6]) (j := 0) C (c_X3_lease hN2 hl9 z0) (qn_l 0 (by decide) hN2) (by decide) (by decide) rfl wk_6_75 wk_6_76 wk_6_77 wk_1_1 wk_6_78 hd_X3_lease ⟨(Nat.le_of_ble_eq_true rfl), (Nat.le_of_ble_eq_true rfl)⟩ (Nat.le_of_ble_eq_true rfl) ⟨(Nat.le_of_ble_eq_true rfl), (Nat.le_of_ble_eq_true rfl)⟩ dL_lease_13 rfl) (fun h0 => ?_) [⟨0, 18, 21, 31⟩] ⟨0, 18, 25, 13⟩ [⟨0, 18, 29, 80⟩] (fun h0 => ?_) (fun h0 q => ?_)
    · exact absurd h0 (by decide)
    · exact ⟨ht, fun z hz => by obtain rfl := List.mem_singleton.mp hz; exact Or.inr ⟨by decide, "java/lang/IndexOutOfBoundsException", wk_4_235, by decide +kernel⟩, by decide, by decide, wk_4_64, wk_3_109⟩
    · rw [if_neg (by decide)]
      refine gq_astore (i := 8) C dL_lease_25 (by decide) rfl ?_
      refine gq_iconst (v := nI 2) C dL_lease_27 (by decide) ?_
      exact gq_iret C hr dL_lease_28 (Nat.le_of_ble_eq_true rfl) (Nat.le_of_ble_eq_true rfl)
  · refine gh_call (name := "java/lang/IllegalStateException") (rest := [.int 0, .ref (eB E + 311)]) C rfl (runx_V (As := [.int p1, .int p2, .int p3, .int p4, .int p5, .int p6]) (j := 0) C (c_X3_lease hN2 hl9 z0) (qn_l 0 (by decide) hN2) (by decide) (by decide) rfl wk_6_75 wk_6_76 wk_6_77 wk_1_1 wk_6_78 hd_X3_lease ⟨(Nat.le_of_ble_eq_true rfl), (Nat.le_of_ble_eq_true rfl)⟩ (Nat.le_of_ble_eq_true rfl) ⟨(Nat.le_of_ble_eq_true rfl), (Nat.le_of_ble_eq_true rfl)⟩ dL_lease_13 rfl) (fun h0 => ?_) [⟨0, 18, 21, 31⟩, ⟨0, 18, 25, 13⟩] ⟨0, 18, 29, 80⟩ [] (fun h0 => ?_) (fun h0 q => ?_)
    · exact absurd h0 (by decide)
    · exact ⟨ht, fun z hz => by rcases List.mem_cons.mp hz with rfl | hz2; exact Or.inr ⟨by decide, "java/lang/IndexOutOfBoundsException", wk_4_235, by decide +kernel⟩; obtain rfl := List.mem_singleton.mp hz2; exact Or.inr ⟨by decide, "java/lang/IllegalArgumentException", wk_4_64, by decide +kernel⟩, by decide, by decide, wk_5_228, wk_5_239⟩
    · rw [if_neg (by decide)]
      refine gq_astore (i := 8) C dL_lease_29 (by decide) rfl ?_
      refine gq_iconst (v := nI 3) C dL_lease_31 (by decide) ?_
      exact gq_iret C hr dL_lease_32 (Nat.le_of_ble_eq_true rfl) (Nat.le_of_ble_eq_true rfl)
abbrev rmL_endLease : Room := { frames := 8, cells := 1, slots := 6, locals := 177 }
set_option maxHeartbeats 4000000 in
set_option maxRecDepth 100000 in
theorem c_L_endLease {l : Launch} {E : Ev} (hN : 312 ≤ eN E) (hl9 : l.stackTraces = false) {p1 : Int32} {μ : Mm} {ec t : Nat} {r : Int32} {μ' : Mm} (z0 : F_X3_endLease p1 μ = some (ec, r, μ')) (hM : (ec, t) ∈ ([(0, 0), (1, 1)] : List (Nat × Nat))) : Met l yL_endLease (Cond.codeWith yL_endLease cL_endLease 4 (some .int) [(0, 9, 12, 31)] :: GW) rmL_endLease (va_Pc [.ref (eB E + 0), .int p1, .ref (eB E + 311)] (qP E μ)) (qQ E (some (.int (nI t))) (if ec = 0 then uL μ' 311 0 r.toInt64 else μ')) rmL_endLease.cells rmL_endLease.slots (eA E) := by
  refine cth_of (rm := rmL_endLease) (by decide) (Nat.le_of_ble_eq_true rfl) (fun p e s m args below meth c C hr ht => ?_)
  have C : Cq E p s m args meth c cL_endLease 4 RL := C
  have hN2 : 295 ≤ eN E := by omega
  refine gq_lv (lv' := [(0, .ref (eB E + 0)), (1, .int p1), (2, .ref (eB E + 311))]) rfl ?_
  refine gq_aload_n (i := 2) C dL_endLease_0 rfl 2 rfl ?_
  refine gq_iconst (v := 0) C dL_endLease_1 (by decide) ?_
  refine gq_aload_n (i := 0) C dL_endLease_2 rfl 0 rfl ?_
  refine gq_iload_n (i := 1) C dL_endLease_3 rfl 1 rfl ?_
  rcases (show (ec = 0 ∧ t = 0) ∨ (ec = 1 ∧ t = 1) by simpa using hM) with ⟨rfl, rfl⟩ | ⟨rfl, rfl⟩
  · refine gh_call (name := "java/lang/IndexOutOfBoundsException") (rest := [.int 0, .ref (eB E + 311)]) C rfl (runx_V (As := [.int p1]) (j := 0) C (c_X3_endLease hN2 hl9 z0) (qn_l 0 (by decide) hN2) (by decide) (by decide) rfl wk_6_83 wk_6_84 wk_6_85 wk_1_1 wk_6_86 hd_X3_endLease ⟨(Nat.le_of_ble_eq_true rfl), (Nat.le_of_ble_eq_true rfl)⟩ (Nat.le_of_ble_eq_true rfl) ⟨(Nat.le_of_ble_eq_true rfl), (Nat.le_of_ble_eq_true rfl)⟩ dL_endLease_4 rfl) (fun h0 => ?_) [] ⟨0, 9, 12, 31⟩ [] (fun h0 => ?_) (fun h0 q => ?_)
    · rw [if_pos rfl]
      refine gq_i2l C dL_endLease_7 ?_
      refine gq_lastore (μ' := uL μ' 311 0 r.toInt64) C (show 311 < eN E by omega) (by decide +kernel) (sL_ok (k := 0) rfl (by rw [ln311]; decide)) dL_endLease_8 ?_
      refine gq_goto (tgt := 15) C dL_endLease_9 (by decide) ?_
      refine gq_iconst (v := nI 0) C dL_endLease_15 (by decide) ?_
      exact gq_iret C hr dL_endLease_16 (Nat.le_of_ble_eq_true rfl) (Nat.le_of_ble_eq_true rfl)
    · exact absurd rfl h0
    · exact absurd rfl h0
  · refine gh_call (name := "java/lang/IndexOutOfBoundsException") (rest := [.int 0, .ref (eB E + 311)]) C rfl (runx_V (As := [.int p1]) (j := 0) C (c_X3_endLease hN2 hl9 z0) (qn_l 0 (by decide) hN2) (by decide) (by decide) rfl wk_6_83 wk_6_84 wk_6_85 wk_1_1 wk_6_86 hd_X3_endLease ⟨(Nat.le_of_ble_eq_true rfl), (Nat.le_of_ble_eq_true rfl)⟩ (Nat.le_of_ble_eq_true rfl) ⟨(Nat.le_of_ble_eq_true rfl), (Nat.le_of_ble_eq_true rfl)⟩ dL_endLease_4 rfl) (fun h0 => ?_) [] ⟨0, 9, 12, 31⟩ [] (fun h0 => ?_) (fun h0 q => ?_)
    · exact absurd h0 (by decide)
    · exact ⟨ht, fun z hz => absurd hz List.not_mem_nil, by decide, by decide, wk_4_235, wk_5_6⟩
    · rw [if_neg (by decide)]
      refine gq_astore_n (i := 3) C dL_endLease_12 rfl (by decide) rfl ?_
      refine gq_iconst (v := nI 1) C dL_endLease_13 (by decide) ?_
      exact gq_iret C hr dL_endLease_14 (Nat.le_of_ble_eq_true rfl) (Nat.le_of_ble_eq_true rfl)
abbrev rmL_release : Room := { frames := 8, cells := 3, slots := 18, locals := 177 }
set_option maxHeartbeats 4000000 in
set_option maxRecDepth 100000 in
theorem c_L_release {l : Launch} {E : Ev} (hN : 312 ≤ eN E) (hl9 : l.stackTraces = false) {p1 : Int32} {p2 : Int32} {p3 : Int32} {μ : Mm} {ec t : Nat} {r : Int32} {μ' : Mm} (z0 : F_X3_release p1 p2 p3 μ = some (ec, r, μ')) (hM : (ec, t) ∈ ([(0, 0), (1, 1), (3, 2), (4, 3)] : List (Nat × Nat))) : Met l yL_release (Cond.codeWith yL_release cL_release 6 (some .int) [(0, 12, 15, 31), (0, 12, 19, 13), (0, 12, 23, 80)] :: GW) rmL_release (va_Pc [.ref (eB E + 0), .int p1, .int p2, .int p3, .ref (eB E + 311)] (qP E μ)) (qQ E (some (.int (nI t))) (if ec = 0 then uL μ' 311 0 r.toInt64 else μ')) rmL_release.cells rmL_release.slots (eA E) := by
  refine cth_of (rm := rmL_release) (by decide) (Nat.le_of_ble_eq_true rfl) (fun p e s m args below meth c C hr ht => ?_)
  have C : Cq E p s m args meth c cL_release 6 RL := C
  have hN2 : 295 ≤ eN E := by omega
  refine gq_lv (lv' := [(0, .ref (eB E + 0)), (1, .int p1), (2, .int p2), (3, .int p3), (4, .ref (eB E + 311))]) rfl ?_
  refine gq_aload (i := 4) C dL_release_0 4 rfl ?_
  refine gq_iconst (v := 0) C dL_release_2 (by decide) ?_
  refine gq_aload_n (i := 0) C dL_release_3 rfl 0 rfl ?_
  refine gq_iload_n (i := 1) C dL_release_4 rfl 1 rfl ?_
  refine gq_iload_n (i := 2) C dL_release_5 rfl 2 rfl ?_
  refine gq_iload_n (i := 3) C dL_release_6 rfl 3 rfl ?_
  rcases (show (ec = 0 ∧ t = 0) ∨ (ec = 1 ∧ t = 1) ∨ (ec = 3 ∧ t = 2) ∨ (ec = 4 ∧ t = 3) by simpa using hM) with ⟨rfl, rfl⟩ | ⟨rfl, rfl⟩ | ⟨rfl, rfl⟩ | ⟨rfl, rfl⟩
  · refine gh_call (name := "java/lang/IndexOutOfBoundsException") (rest := [.int 0, .ref (eB E + 311)]) C rfl (runx_V (As := [.int p1, .int p2, .int p3]) (j := 0) C (c_X3_release hN2 hl9 z0) (qn_l 0 (by decide) hN2) (by decide) (by decide) rfl wk_6_91 wk_6_92 wk_6_93 wk_1_1 wk_6_94 hd_X3_release ⟨(Nat.le_of_ble_eq_true rfl), (Nat.le_of_ble_eq_true rfl)⟩ (Nat.le_of_ble_eq_true rfl) ⟨(Nat.le_of_ble_eq_true rfl), (Nat.le_of_ble_eq_true rfl)⟩ dL_release_7 rfl) (fun h0 => ?_) [] ⟨0, 12, 15, 31⟩ [⟨0, 12, 19, 13⟩, ⟨0, 12, 23, 80⟩] (fun h0 => ?_) (fun h0 q => ?_)
    · rw [if_pos rfl]
      refine gq_i2l C dL_release_10 ?_
      refine gq_lastore (μ' := uL μ' 311 0 r.toInt64) C (show 311 < eN E by omega) (by decide +kernel) (sL_ok (k := 0) rfl (by rw [ln311]; decide)) dL_release_11 ?_
      refine gq_goto (tgt := 27) C dL_release_12 (by decide) ?_
      refine gq_iconst (v := nI 0) C dL_release_27 (by decide) ?_
      exact gq_iret C hr dL_release_28 (Nat.le_of_ble_eq_true rfl) (Nat.le_of_ble_eq_true rfl)
    · exact absurd rfl h0
    · exact absurd rfl h0
  · refine gh_call (name := "java/lang/IndexOutOfBoundsException") (rest := [.int 0, .ref (eB E + 311)]) C rfl (runx_V (As := [.int p1, .int p2, .int p3]) (j := 0) C (c_X3_release hN2 hl9 z0) (qn_l 0 (by decide) hN2) (by decide) (by decide) rfl wk_6_91 wk_6_92 wk_6_93 wk_1_1 wk_6_94 hd_X3_release ⟨(Nat.le_of_ble_eq_true rfl), (Nat.le_of_ble_eq_true rfl)⟩ (Nat.le_of_ble_eq_true rfl) ⟨(Nat.le_of_ble_eq_true rfl), (Nat.le_of_ble_eq_true rfl)⟩ dL_release_7 rfl) (fun h0 => ?_) [] ⟨0, 12, 15, 31⟩ [⟨0, 12, 19, 13⟩, ⟨0, 12, 23, 80⟩] (fun h0 => ?_) (fun h0 q => ?_)
    · exact absurd h0 (by decide)
    · exact ⟨ht, fun z hz => absurd hz List.not_mem_nil, by decide, by decide, wk_4_235, wk_5_6⟩
    · rw [if_neg (by decide)]
      refine gq_astore (i := 5) C dL_release_15 (by decide) rfl ?_
      refine gq_iconst (v := nI 1) C dL_release_17 (by decide) ?_
      exact gq_iret C hr dL_release_18 (Nat.le_of_ble_eq_true rfl) (Nat.le_of_ble_eq_true rfl)
  · refine gh_call (name := "java/lang/IllegalArgumentException") (rest := [.int 0, .ref (eB E + 311)]) C rfl (runx_V (As := [.int p1, .int p2, .int p3]) (j := 0) C (c_X3_release hN2 hl9 z0) (qn_l 0 (by decide) hN2) (by decide) (by decide) rfl wk_6_91 wk_6_92 wk_6_93 wk_1_1 wk_6_94 hd_X3_release ⟨(Nat.le_of_ble_eq_true rfl), (Nat.le_of_ble_eq_true rfl)⟩ (Nat.le_of_ble_eq_true rfl) ⟨(Nat.le_of_ble_eq_true rfl), (Nat.le_of_ble_eq_true rfl)⟩ dL_release_7 rfl) (fun h0 => ?_) [⟨0, 12, 15, 31⟩] ⟨0, 12, 19, 13⟩ [⟨0, 12, 23, 80⟩] (fun h0 => ?_) (fun h0 q => ?_)
    · exact absurd h0 (by decide)
    · exact ⟨ht, fun z hz => by obtain rfl := List.mem_singleton.mp hz; exact Or.inr ⟨by decide, "java/lang/IndexOutOfBoundsException", wk_4_235, by decide +kernel⟩, by decide, by decide, wk_4_64, wk_3_109⟩
    · rw [if_neg (by decide)]
      refine gq_astore (i := 5) C dL_release_19 (by decide) rfl ?_
      refine gq_iconst (v := nI 2) C dL_release_21 (by decide) ?_
      exact gq_iret C hr dL_release_22 (Nat.le_of_ble_eq_true rfl) (Nat.le_of_ble_eq_true rfl)
  · refine gh_call (name := "java/lang/IllegalStateException") (rest := [.int 0, .ref (eB E + 311)]) C rfl (runx_V (As := [.int p1, .int p2, .int p3]) (j := 0) C (c_X3_release hN2 hl9 z0) (qn_l 0 (by decide) hN2) (by decide) (by decide) rfl wk_6_91 wk_6_92 wk_6_93 wk_1_1 wk_6_94 hd_X3_release ⟨(Nat.le_of_ble_eq_true rfl), (Nat.le_of_ble_eq_true rfl)⟩ (Nat.le_of_ble_eq_true rfl) ⟨(Nat.le_of_ble_eq_true rfl), (Nat.le_of_ble_eq_true rfl)⟩ dL_release_7 rfl) (fun h0 => ?_) [⟨0, 12, 15, 31⟩, ⟨0, 12, 19, 13⟩] ⟨0, 12, 23, 80⟩ [] (fun h0 => ?_) (fun h0 q => ?_)
    · exact absurd h0 (by decide)
    · exact ⟨ht, fun z hz => by rcases List.mem_cons.mp hz with rfl | hz2; exact Or.inr ⟨by decide, "java/lang/IndexOutOfBoundsException", wk_4_235, by decide +kernel⟩; obtain rfl := List.mem_singleton.mp hz2; exact Or.inr ⟨by decide, "java/lang/IllegalArgumentException", wk_4_64, by decide +kernel⟩, by decide, by decide, wk_5_228, wk_5_239⟩
    · rw [if_neg (by decide)]
      refine gq_astore (i := 5) C dL_release_23 (by decide) rfl ?_
      refine gq_iconst (v := nI 3) C dL_release_25 (by decide) ?_
      exact gq_iret C hr dL_release_26 (Nat.le_of_ble_eq_true rfl) (Nat.le_of_ble_eq_true rfl)
abbrev rmL_setKeep : Room := { frames := 8, cells := 2, slots := 12, locals := 177 }
set_option maxHeartbeats 4000000 in
set_option maxRecDepth 100000 in
theorem c_L_setKeep {l : Launch} {E : Ev} (hN : 312 ≤ eN E) (hl9 : l.stackTraces = false) {p1 : Int32} {p2 : Int32} {μ : Mm} {ec t : Nat} {r : Int32} {μ' : Mm} (z0 : F_X3_setKeep p1 p2 μ = some (ec, r, μ')) (hM : (ec, t) ∈ ([(0, 0), (1, 1), (3, 2)] : List (Nat × Nat))) : Met l yL_setKeep (Cond.codeWith yL_setKeep cL_setKeep 5 (some .int) [(0, 10, 13, 31), (0, 10, 17, 13)] :: GW) rmL_setKeep (va_Pc [.ref (eB E + 0), .int p1, .int p2, .ref (eB E + 311)] (qP E μ)) (qQ E (some (.int (nI t))) (if ec = 0 then uL μ' 311 0 r.toInt64 else μ')) rmL_setKeep.cells rmL_setKeep.slots (eA E) := by
  refine cth_of (rm := rmL_setKeep) (by decide) (Nat.le_of_ble_eq_true rfl) (fun p e s m args below meth c C hr ht => ?_)
  have C : Cq E p s m args meth c cL_setKeep 5 RL := C
  have hN2 : 295 ≤ eN E := by omega
  refine gq_lv (lv' := [(0, .ref (eB E + 0)), (1, .int p1), (2, .int p2), (3, .ref (eB E + 311))]) rfl ?_
  refine gq_aload_n (i := 3) C dL_setKeep_0 rfl 3 rfl ?_
  refine gq_iconst (v := 0) C dL_setKeep_1 (by decide) ?_
  refine gq_aload_n (i := 0) C dL_setKeep_2 rfl 0 rfl ?_
  refine gq_iload_n (i := 1) C dL_setKeep_3 rfl 1 rfl ?_
  refine gq_iload_n (i := 2) C dL_setKeep_4 rfl 2 rfl ?_
  rcases (show (ec = 0 ∧ t = 0) ∨ (ec = 1 ∧ t = 1) ∨ (ec = 3 ∧ t = 2) by simpa using hM) with ⟨rfl, rfl⟩ | ⟨rfl, rfl⟩ | ⟨rfl, rfl⟩
  · refine gh_call (name := "java/lang/IndexOutOfBoundsException") (rest := [.int 0, .ref (eB E + 311)]) C rfl (runx_V (As := [.int p1, .int p2]) (j := 0) C (c_X3_setKeep hN2 hl9 z0) (qn_l 0 (by decide) hN2) (by decide) (by decide) rfl wk_6_100 wk_6_101 wk_6_102 wk_1_1 wk_6_103 hd_X3_setKeep ⟨(Nat.le_of_ble_eq_true rfl), (Nat.le_of_ble_eq_true rfl)⟩ (Nat.le_of_ble_eq_true rfl) ⟨(Nat.le_of_ble_eq_true rfl), (Nat.le_of_ble_eq_true rfl)⟩ dL_setKeep_5 rfl) (fun h0 => ?_) [] ⟨0, 10, 13, 31⟩ [⟨0, 10, 17, 13⟩] (fun h0 => ?_) (fun h0 q => ?_)
    · rw [if_pos rfl]
      refine gq_i2l C dL_setKeep_8 ?_
      refine gq_lastore (μ' := uL μ' 311 0 r.toInt64) C (show 311 < eN E by omega) (by decide +kernel) (sL_ok (k := 0) rfl (by rw [ln311]; decide)) dL_setKeep_9 ?_
      refine gq_goto (tgt := 21) C dL_setKeep_10 (by decide) ?_
      refine gq_iconst (v := nI 0) C dL_setKeep_21 (by decide) ?_
      exact gq_iret C hr dL_setKeep_22 (Nat.le_of_ble_eq_true rfl) (Nat.le_of_ble_eq_true rfl)
    · exact absurd rfl h0
    · exact absurd rfl h0
  · refine gh_call (name := "java/lang/IndexOutOfBoundsException") (rest := [.int 0, .ref (eB E + 311)]) C rfl (runx_V (As := [.int p1, .int p2]) (j := 0) C (c_X3_setKeep hN2 hl9 z0) (qn_l 0 (by decide) hN2) (by decide) (by decide) rfl wk_6_100 wk_6_101 wk_6_102 wk_1_1 wk_6_103 hd_X3_setKeep ⟨(Nat.le_of_ble_eq_true rfl), (Nat.le_of_ble_eq_true rfl)⟩ (Nat.le_of_ble_eq_true rfl) ⟨(Nat.le_of_ble_eq_true rfl), (Nat.le_of_ble_eq_true rfl)⟩ dL_setKeep_5 rfl) (fun h0 => ?_) [] ⟨0, 10, 13, 31⟩ [⟨0, 10, 17, 13⟩] (fun h0 => ?_) (fun h0 q => ?_)
    · exact absurd h0 (by decide)
    · exact ⟨ht, fun z hz => absurd hz List.not_mem_nil, by decide, by decide, wk_4_235, wk_5_6⟩
    · rw [if_neg (by decide)]
      refine gq_astore (i := 4) C dL_setKeep_13 (by decide) rfl ?_
      refine gq_iconst (v := nI 1) C dL_setKeep_15 (by decide) ?_
      exact gq_iret C hr dL_setKeep_16 (Nat.le_of_ble_eq_true rfl) (Nat.le_of_ble_eq_true rfl)
  · refine gh_call (name := "java/lang/IllegalArgumentException") (rest := [.int 0, .ref (eB E + 311)]) C rfl (runx_V (As := [.int p1, .int p2]) (j := 0) C (c_X3_setKeep hN2 hl9 z0) (qn_l 0 (by decide) hN2) (by decide) (by decide) rfl wk_6_100 wk_6_101 wk_6_102 wk_1_1 wk_6_103 hd_X3_setKeep ⟨(Nat.le_of_ble_eq_true rfl), (Nat.le_of_ble_eq_true rfl)⟩ (Nat.le_of_ble_eq_true rfl) ⟨(Nat.le_of_ble_eq_true rfl), (Nat.le_of_ble_eq_true rfl)⟩ dL_setKeep_5 rfl) (fun h0 => ?_) [⟨0, 10, 13, 31⟩] ⟨0, 10, 17, 13⟩ [] (fun h0 => ?_) (fun h0 q => ?_)
    · exact absurd h0 (by decide)
    · exact ⟨ht, fun z hz => by obtain rfl := List.mem_singleton.mp hz; exact Or.inr ⟨by decide, "java/lang/IndexOutOfBoundsException", wk_4_235, by decide +kernel⟩, by decide, by decide, wk_4_64, wk_3_109⟩
    · rw [if_neg (by decide)]
      refine gq_astore (i := 4) C dL_setKeep_17 (by decide) rfl ?_
      refine gq_iconst (v := nI 2) C dL_setKeep_19 (by decide) ?_
      exact gq_iret C hr dL_setKeep_20 (Nat.le_of_ble_eq_true rfl) (Nat.le_of_ble_eq_true rfl)
abbrev rmL_setMinimum : Room := { frames := 8, cells := 2, slots := 12, locals := 177 }
set_option maxHeartbeats 4000000 in
set_option maxRecDepth 100000 in
theorem c_L_setMinimum {l : Launch} {E : Ev} (hN : 312 ≤ eN E) (hl9 : l.stackTraces = false) {p1 : Int32} {p2 : Int32} {μ : Mm} {ec t : Nat} {r : Int32} {μ' : Mm} (z0 : F_X3_setMinimum p1 p2 μ = some (ec, r, μ')) (hM : (ec, t) ∈ ([(0, 0), (1, 1), (3, 2)] : List (Nat × Nat))) : Met l yL_setMinimum (Cond.codeWith yL_setMinimum cL_setMinimum 5 (some .int) [(0, 10, 13, 31), (0, 10, 17, 13)] :: GW) rmL_setMinimum (va_Pc [.ref (eB E + 0), .int p1, .int p2, .ref (eB E + 311)] (qP E μ)) (qQ E (some (.int (nI t))) (if ec = 0 then uL μ' 311 0 r.toInt64 else μ')) rmL_setMinimum.cells rmL_setMinimum.slots (eA E) := by
  refine cth_of (rm := rmL_setMinimum) (by decide) (Nat.le_of_ble_eq_true rfl) (fun p e s m args below meth c C hr ht => ?_)
  have C : Cq E p s m args meth c cL_setMinimum 5 RL := C
  have hN2 : 295 ≤ eN E := by omega
  refine gq_lv (lv' := [(0, .ref (eB E + 0)), (1, .int p1), (2, .int p2), (3, .ref (eB E + 311))]) rfl ?_
  refine gq_aload_n (i := 3) C dL_setMinimum_0 rfl 3 rfl ?_
  refine gq_iconst (v := 0) C dL_setMinimum_1 (by decide) ?_
  refine gq_aload_n (i := 0) C dL_setMinimum_2 rfl 0 rfl ?_
  refine gq_iload_n (i := 1) C dL_setMinimum_3 rfl 1 rfl ?_
  refine gq_iload_n (i := 2) C dL_setMinimum_4 rfl 2 rfl ?_
  rcases (show (ec = 0 ∧ t = 0) ∨ (ec = 1 ∧ t = 1) ∨ (ec = 3 ∧ t = 2) by simpa using hM) with ⟨rfl, rfl⟩ | ⟨rfl, rfl⟩ | ⟨rfl, rfl⟩
  · refine gh_call (name := "java/lang/IndexOutOfBoundsException") (rest := [.int 0, .ref (eB E + 311)]) C rfl (runx_V (As := [.int p1, .int p2]) (j := 0) C (c_X3_setMinimum hN2 hl9 z0) (qn_l 0 (by decide) hN2) (by decide) (by decide) rfl wk_6_108 wk_6_109 wk_6_110 wk_1_1 wk_6_111 hd_X3_setMinimum ⟨(Nat.le_of_ble_eq_true rfl), (Nat.le_of_ble_eq_true rfl)⟩ (Nat.le_of_ble_eq_true rfl) ⟨(Nat.le_of_ble_eq_true rfl), (Nat.le_of_ble_eq_true rfl)⟩ dL_setMinimum_5 rfl) (fun h0 => ?_) [] ⟨0, 10, 13, 31⟩ [⟨0, 10, 17, 13⟩] (fun h0 => ?_) (fun h0 q => ?_)
    · rw [if_pos rfl]
      refine gq_i2l C dL_setMinimum_8 ?_
      refine gq_lastore (μ' := uL μ' 311 0 r.toInt64) C (show 311 < eN E by omega) (by decide +kernel) (sL_ok (k := 0) rfl (by rw [ln311]; decide)) dL_setMinimum_9 ?_
      refine gq_goto (tgt := 21) C dL_setMinimum_10 (by decide) ?_
      refine gq_iconst (v := nI 0) C dL_setMinimum_21 (by decide) ?_
      exact gq_iret C hr dL_setMinimum_22 (Nat.le_of_ble_eq_true rfl) (Nat.le_of_ble_eq_true rfl)
    · exact absurd rfl h0
    · exact absurd rfl h0
  · refine gh_call (name := "java/lang/IndexOutOfBoundsException") (rest := [.int 0, .ref (eB E + 311)]) C rfl (runx_V (As := [.int p1, .int p2]) (j := 0) C (c_X3_setMinimum hN2 hl9 z0) (qn_l 0 (by decide) hN2) (by decide) (by decide) rfl wk_6_108 wk_6_109 wk_6_110 wk_1_1 wk_6_111 hd_X3_setMinimum ⟨(Nat.le_of_ble_eq_true rfl), (Nat.le_of_ble_eq_true rfl)⟩ (Nat.le_of_ble_eq_true rfl) ⟨(Nat.le_of_ble_eq_true rfl), (Nat.le_of_ble_eq_true rfl)⟩ dL_setMinimum_5 rfl) (fun h0 => ?_) [] ⟨0, 10, 13, 31⟩ [⟨0, 10, 17, 13⟩] (fun h0 => ?_) (fun h0 q => ?_)
    · exact absurd h0 (by decide)
    · exact ⟨ht, fun z hz => absurd hz List.not_mem_nil, by decide, by decide, wk_4_235, wk_5_6⟩
    · rw [if_neg (by decide)]
      refine gq_astore (i := 4) C dL_setMinimum_13 (by decide) rfl ?_
      refine gq_iconst (v := nI 1) C dL_setMinimum_15 (by decide) ?_
      exact gq_iret C hr dL_setMinimum_16 (Nat.le_of_ble_eq_true rfl) (Nat.le_of_ble_eq_true rfl)
  · refine gh_call (name := "java/lang/IllegalArgumentException") (rest := [.int 0, .ref (eB E + 311)]) C rfl (runx_V (As := [.int p1, .int p2]) (j := 0) C (c_X3_setMinimum hN2 hl9 z0) (qn_l 0 (by decide) hN2) (by decide) (by decide) rfl wk_6_108 wk_6_109 wk_6_110 wk_1_1 wk_6_111 hd_X3_setMinimum ⟨(Nat.le_of_ble_eq_true rfl), (Nat.le_of_ble_eq_true rfl)⟩ (Nat.le_of_ble_eq_true rfl) ⟨(Nat.le_of_ble_eq_true rfl), (Nat.le_of_ble_eq_true rfl)⟩ dL_setMinimum_5 rfl) (fun h0 => ?_) [⟨0, 10, 13, 31⟩] ⟨0, 10, 17, 13⟩ [] (fun h0 => ?_) (fun h0 q => ?_)
    · exact absurd h0 (by decide)
    · exact ⟨ht, fun z hz => by obtain rfl := List.mem_singleton.mp hz; exact Or.inr ⟨by decide, "java/lang/IndexOutOfBoundsException", wk_4_235, by decide +kernel⟩, by decide, by decide, wk_4_64, wk_3_109⟩
    · rw [if_neg (by decide)]
      refine gq_astore (i := 4) C dL_setMinimum_17 (by decide) rfl ?_
      refine gq_iconst (v := nI 2) C dL_setMinimum_19 (by decide) ?_
      exact gq_iret C hr dL_setMinimum_20 (Nat.le_of_ble_eq_true rfl) (Nat.le_of_ble_eq_true rfl)
abbrev rmL_transfer : Room := { frames := 8, cells := 3, slots := 18, locals := 177 }
set_option maxHeartbeats 4000000 in
set_option maxRecDepth 100000 in
theorem c_L_transfer {l : Launch} {E : Ev} (hN : 312 ≤ eN E) (hl9 : l.stackTraces = false) {p1 : Int32} {p2 : Int32} {p3 : Int32} {μ : Mm} {ec t : Nat} {r : Int32} {μ' : Mm} (z0 : F_X3_transfer p1 p2 p3 μ = some (ec, r, μ')) (hM : (ec, t) ∈ ([(0, 0), (1, 1), (3, 2)] : List (Nat × Nat))) : Met l yL_transfer (Cond.codeWith yL_transfer cL_transfer 6 (some .int) [(0, 12, 15, 31), (0, 12, 19, 13)] :: GW) rmL_transfer (va_Pc [.ref (eB E + 0), .int p1, .int p2, .int p3, .ref (eB E + 311)] (qP E μ)) (qQ E (some (.int (nI t))) (if ec = 0 then uL μ' 311 0 r.toInt64 else μ')) rmL_transfer.cells rmL_transfer.slots (eA E) := by
  refine cth_of (rm := rmL_transfer) (by decide) (Nat.le_of_ble_eq_true rfl) (fun p e s m args below meth c C hr ht => ?_)
  have C : Cq E p s m args meth c cL_transfer 6 RL := C
  have hN2 : 295 ≤ eN E := by omega
  refine gq_lv (lv' := [(0, .ref (eB E + 0)), (1, .int p1), (2, .int p2), (3, .int p3), (4, .ref (eB E + 311))]) rfl ?_
  refine gq_aload (i := 4) C dL_transfer_0 4 rfl ?_
  refine gq_iconst (v := 0) C dL_transfer_2 (by decide) ?_
  refine gq_aload_n (i := 0) C dL_transfer_3 rfl 0 rfl ?_
  refine gq_iload_n (i := 1) C dL_transfer_4 rfl 1 rfl ?_
  refine gq_iload_n (i := 2) C dL_transfer_5 rfl 2 rfl ?_
  refine gq_iload_n (i := 3) C dL_transfer_6 rfl 3 rfl ?_
  rcases (show (ec = 0 ∧ t = 0) ∨ (ec = 1 ∧ t = 1) ∨ (ec = 3 ∧ t = 2) by simpa using hM) with ⟨rfl, rfl⟩ | ⟨rfl, rfl⟩ | ⟨rfl, rfl⟩
  · refine gh_call (name := "java/lang/IndexOutOfBoundsException") (rest := [.int 0, .ref (eB E + 311)]) C rfl (runx_V (As := [.int p1, .int p2, .int p3]) (j := 0) C (c_X3_transfer hN2 hl9 z0) (qn_l 0 (by decide) hN2) (by decide) (by decide) rfl wk_6_115 wk_6_116 wk_6_117 wk_1_1 wk_6_118 hd_X3_transfer ⟨(Nat.le_of_ble_eq_true rfl), (Nat.le_of_ble_eq_true rfl)⟩ (Nat.le_of_ble_eq_true rfl) ⟨(Nat.le_of_ble_eq_true rfl), (Nat.le_of_ble_eq_true rfl)⟩ dL_transfer_7 rfl) (fun h0 => ?_) [] ⟨0, 12, 15, 31⟩ [⟨0, 12, 19, 13⟩] (fun h0 => ?_) (fun h0 q => ?_)
    · rw [if_pos rfl]
      refine gq_i2l C dL_transfer_10 ?_
      refine gq_lastore (μ' := uL μ' 311 0 r.toInt64) C (show 311 < eN E by omega) (by decide +kernel) (sL_ok (k := 0) rfl (by rw [ln311]; decide)) dL_transfer_11 ?_
      refine gq_goto (tgt := 23) C dL_transfer_12 (by decide) ?_
      refine gq_iconst (v := nI 0) C dL_transfer_23 (by decide) ?_
      exact gq_iret C hr dL_transfer_24 (Nat.le_of_ble_eq_true rfl) (Nat.le_of_ble_eq_true rfl)
    · exact absurd rfl h0
    · exact absurd rfl h0
  · refine gh_call (name := "java/lang/IndexOutOfBoundsException") (rest := [.int 0, .ref (eB E + 311)]) C rfl (runx_V (As := [.int p1, .int p2, .int p3]) (j := 0) C (c_X3_transfer hN2 hl9 z0) (qn_l 0 (by decide) hN2) (by decide) (by decide) rfl wk_6_115 wk_6_116 wk_6_117 wk_1_1 wk_6_118 hd_X3_transfer ⟨(Nat.le_of_ble_eq_true rfl), (Nat.le_of_ble_eq_true rfl)⟩ (Nat.le_of_ble_eq_true rfl) ⟨(Nat.le_of_ble_eq_true rfl), (Nat.le_of_ble_eq_true rfl)⟩ dL_transfer_7 rfl) (fun h0 => ?_) [] ⟨0, 12, 15, 31⟩ [⟨0, 12, 19, 13⟩] (fun h0 => ?_) (fun h0 q => ?_)
    · exact absurd h0 (by decide)
    · exact ⟨ht, fun z hz => absurd hz List.not_mem_nil, by decide, by decide, wk_4_235, wk_5_6⟩
    · rw [if_neg (by decide)]
      refine gq_astore (i := 5) C dL_transfer_15 (by decide) rfl ?_
      refine gq_iconst (v := nI 1) C dL_transfer_17 (by decide) ?_
      exact gq_iret C hr dL_transfer_18 (Nat.le_of_ble_eq_true rfl) (Nat.le_of_ble_eq_true rfl)
  · refine gh_call (name := "java/lang/IllegalArgumentException") (rest := [.int 0, .ref (eB E + 311)]) C rfl (runx_V (As := [.int p1, .int p2, .int p3]) (j := 0) C (c_X3_transfer hN2 hl9 z0) (qn_l 0 (by decide) hN2) (by decide) (by decide) rfl wk_6_115 wk_6_116 wk_6_117 wk_1_1 wk_6_118 hd_X3_transfer ⟨(Nat.le_of_ble_eq_true rfl), (Nat.le_of_ble_eq_true rfl)⟩ (Nat.le_of_ble_eq_true rfl) ⟨(Nat.le_of_ble_eq_true rfl), (Nat.le_of_ble_eq_true rfl)⟩ dL_transfer_7 rfl) (fun h0 => ?_) [⟨0, 12, 15, 31⟩] ⟨0, 12, 19, 13⟩ [] (fun h0 => ?_) (fun h0 q => ?_)
    · exact absurd h0 (by decide)
    · exact ⟨ht, fun z hz => by obtain rfl := List.mem_singleton.mp hz; exact Or.inr ⟨by decide, "java/lang/IndexOutOfBoundsException", wk_4_235, by decide +kernel⟩, by decide, by decide, wk_4_64, wk_3_109⟩
    · rw [if_neg (by decide)]
      refine gq_astore (i := 5) C dL_transfer_19 (by decide) rfl ?_
      refine gq_iconst (v := nI 2) C dL_transfer_21 (by decide) ?_
      exact gq_iret C hr dL_transfer_22 (Nat.le_of_ble_eq_true rfl) (Nat.le_of_ble_eq_true rfl)
abbrev rmL_swap : Room := { frames := 8, cells := 3, slots := 18, locals := 177 }
set_option maxHeartbeats 4000000 in
set_option maxRecDepth 100000 in
theorem c_L_swap {l : Launch} {E : Ev} (hN : 312 ≤ eN E) (hl9 : l.stackTraces = false) {p1 : Int32} {p2 : Int32} {μ : Mm} {ec t : Nat} {r : Int32} {μ' : Mm} (z0 : F_X3_swap p1 p2 μ = some (ec, r, μ')) (hM : (ec, t) ∈ ([(0, 0), (1, 1), (4, 2)] : List (Nat × Nat))) : Met l yL_swap (Cond.codeWith yL_swap cL_swap 5 (some .int) [(0, 10, 13, 31), (0, 10, 17, 80)] :: GW) rmL_swap (va_Pc [.ref (eB E + 0), .int p1, .int p2, .ref (eB E + 311)] (qP E μ)) (qQ E (some (.int (nI t))) (if ec = 0 then uL μ' 311 0 r.toInt64 else μ')) rmL_swap.cells rmL_swap.slots (eA E) := by
  refine cth_of (rm := rmL_swap) (by decide) (Nat.le_of_ble_eq_true rfl) (fun p e s m args below meth c C hr ht => ?_)
  have C : Cq E p s m args meth c cL_swap 5 RL := C
  have hN2 : 295 ≤ eN E := by omega
  refine gq_lv (lv' := [(0, .ref (eB E + 0)), (1, .int p1), (2, .int p2), (3, .ref (eB E + 311))]) rfl ?_
  refine gq_aload_n (i := 3) C dL_swap_0 rfl 3 rfl ?_
  refine gq_iconst (v := 0) C dL_swap_1 (by decide) ?_
  refine gq_aload_n (i := 0) C dL_swap_2 rfl 0 rfl ?_
  refine gq_iload_n (i := 1) C dL_swap_3 rfl 1 rfl ?_
  refine gq_iload_n (i := 2) C dL_swap_4 rfl 2 rfl ?_
  rcases (show (ec = 0 ∧ t = 0) ∨ (ec = 1 ∧ t = 1) ∨ (ec = 4 ∧ t = 2) by simpa using hM) with ⟨rfl, rfl⟩ | ⟨rfl, rfl⟩ | ⟨rfl, rfl⟩
  · refine gh_call (name := "java/lang/IndexOutOfBoundsException") (rest := [.int 0, .ref (eB E + 311)]) C rfl (runx_V (As := [.int p1, .int p2]) (j := 0) C (c_X3_swap hN2 hl9 z0) (qn_l 0 (by decide) hN2) (by decide) (by decide) rfl wk_6_123 wk_6_124 wk_6_125 wk_1_1 wk_6_126 hd_X3_swap ⟨(Nat.le_of_ble_eq_true rfl), (Nat.le_of_ble_eq_true rfl)⟩ (Nat.le_of_ble_eq_true rfl) ⟨(Nat.le_of_ble_eq_true rfl), (Nat.le_of_ble_eq_true rfl)⟩ dL_swap_5 rfl) (fun h0 => ?_) [] ⟨0, 10, 13, 31⟩ [⟨0, 10, 17, 80⟩] (fun h0 => ?_) (fun h0 q => ?_)
    · rw [if_pos rfl]
      refine gq_i2l C dL_swap_8 ?_
      refine gq_lastore (μ' := uL μ' 311 0 r.toInt64) C (show 311 < eN E by omega) (by decide +kernel) (sL_ok (k := 0) rfl (by rw [ln311]; decide)) dL_swap_9 ?_
      refine gq_goto (tgt := 21) C dL_swap_10 (by decide) ?_
      refine gq_iconst (v := nI 0) C dL_swap_21 (by decide) ?_
      exact gq_iret C hr dL_swap_22 (Nat.le_of_ble_eq_true rfl) (Nat.le_of_ble_eq_true rfl)
    · exact absurd rfl h0
    · exact absurd rfl h0
  · refine gh_call (name := "java/lang/IndexOutOfBoundsException") (rest := [.int 0, .ref (eB E + 311)]) C rfl (runx_V (As := [.int p1, .int p2]) (j := 0) C (c_X3_swap hN2 hl9 z0) (qn_l 0 (by decide) hN2) (by decide) (by decide) rfl wk_6_123 wk_6_124 wk_6_125 wk_1_1 wk_6_126 hd_X3_swap ⟨(Nat.le_of_ble_eq_true rfl), (Nat.le_of_ble_eq_true rfl)⟩ (Nat.le_of_ble_eq_true rfl) ⟨(Nat.le_of_ble_eq_true rfl), (Nat.le_of_ble_eq_true rfl)⟩ dL_swap_5 rfl) (fun h0 => ?_) [] ⟨0, 10, 13, 31⟩ [⟨0, 10, 17, 80⟩] (fun h0 => ?_) (fun h0 q => ?_)
    · exact absurd h0 (by decide)
    · exact ⟨ht, fun z hz => absurd hz List.not_mem_nil, by decide, by decide, wk_4_235, wk_5_6⟩
    · rw [if_neg (by decide)]
      refine gq_astore (i := 4) C dL_swap_13 (by decide) rfl ?_
      refine gq_iconst (v := nI 1) C dL_swap_15 (by decide) ?_
      exact gq_iret C hr dL_swap_16 (Nat.le_of_ble_eq_true rfl) (Nat.le_of_ble_eq_true rfl)
  · refine gh_call (name := "java/lang/IllegalStateException") (rest := [.int 0, .ref (eB E + 311)]) C rfl (runx_V (As := [.int p1, .int p2]) (j := 0) C (c_X3_swap hN2 hl9 z0) (qn_l 0 (by decide) hN2) (by decide) (by decide) rfl wk_6_123 wk_6_124 wk_6_125 wk_1_1 wk_6_126 hd_X3_swap ⟨(Nat.le_of_ble_eq_true rfl), (Nat.le_of_ble_eq_true rfl)⟩ (Nat.le_of_ble_eq_true rfl) ⟨(Nat.le_of_ble_eq_true rfl), (Nat.le_of_ble_eq_true rfl)⟩ dL_swap_5 rfl) (fun h0 => ?_) [⟨0, 10, 13, 31⟩] ⟨0, 10, 17, 80⟩ [] (fun h0 => ?_) (fun h0 q => ?_)
    · exact absurd h0 (by decide)
    · exact ⟨ht, fun z hz => by obtain rfl := List.mem_singleton.mp hz; exact Or.inr ⟨by decide, "java/lang/IndexOutOfBoundsException", wk_4_235, by decide +kernel⟩, by decide, by decide, wk_5_228, wk_5_239⟩
    · rw [if_neg (by decide)]
      refine gq_astore (i := 4) C dL_swap_17 (by decide) rfl ?_
      refine gq_iconst (v := nI 2) C dL_swap_19 (by decide) ?_
      exact gq_iret C hr dL_swap_20 (Nat.le_of_ble_eq_true rfl) (Nat.le_of_ble_eq_true rfl)
abbrev rmL_save : Room := { frames := 8, cells := 1, slots := 6, locals := 155 }
set_option maxHeartbeats 4000000 in
set_option maxRecDepth 100000 in
theorem c_L_save {l : Launch} {E : Ev} (hN : 312 ≤ eN E) (hl9 : l.stackTraces = false) {p1 : Int32} {μ : Mm} {ec t : Nat} {r : Int32} {μ' : Mm} (z0 : F_X3_save p1 μ = some (ec, r, μ')) (hM : (ec, t) ∈ ([(0, 0), (1, 1)] : List (Nat × Nat))) : Met l yL_save (Cond.codeWith yL_save cL_save 4 (some .int) [(0, 16, 19, 31)] :: GW) rmL_save (va_Pc [.ref (eB E + 0), .int p1, .ref (eB E + 311)] (qP E μ)) (qQ E (some (.int (nI t))) (if ec = 0 then uL μ' 311 0 (if r = 0 then (0 : Int64) else 1) else μ')) rmL_save.cells rmL_save.slots (eA E) := by
  refine cth_of (rm := rmL_save) (by decide) (Nat.le_of_ble_eq_true rfl) (fun p e s m args below meth c C hr ht => ?_)
  have C : Cq E p s m args meth c cL_save 4 RL := C
  have hN2 : 295 ≤ eN E := by omega
  refine gq_lv (lv' := [(0, .ref (eB E + 0)), (1, .int p1), (2, .ref (eB E + 311))]) rfl ?_
  refine gq_aload_n (i := 2) C dL_save_0 rfl 2 rfl ?_
  refine gq_iconst (v := 0) C dL_save_1 (by decide) ?_
  refine gq_aload_n (i := 0) C dL_save_2 rfl 0 rfl ?_
  refine gq_iload_n (i := 1) C dL_save_3 rfl 1 rfl ?_
  rcases (show (ec = 0 ∧ t = 0) ∨ (ec = 1 ∧ t = 1) by simpa using hM) with ⟨rfl, rfl⟩ | ⟨rfl, rfl⟩
  · refine gh_call (name := "java/lang/IndexOutOfBoundsException") (rest := [.int 0, .ref (eB E + 311)]) C rfl (runx_V (As := [.int p1]) (j := 0) C (c_X3_save hN2 hl9 z0) (qn_l 0 (by decide) hN2) (by decide) (by decide) rfl wk_6_132 wk_6_133 wk_6_134 wk_1_1 wk_6_135 hd_X3_save ⟨(Nat.le_of_ble_eq_true rfl), (Nat.le_of_ble_eq_true rfl)⟩ (Nat.le_of_ble_eq_true rfl) ⟨(Nat.le_of_ble_eq_true rfl), (Nat.le_of_ble_eq_true rfl)⟩ dL_save_4 rfl) (fun h0 => ?_) [] ⟨0, 16, 19, 31⟩ [] (fun h0 => ?_) (fun h0 q => ?_)
    · rw [if_pos rfl]
      by_cases hz : r = 0
      · rw [if_pos hz]
        refine gq_if_eq_t (tgt := 14) C dL_save_7 (by decide) hz ?_
        refine gq_lconst (v := 0) C dL_save_14 (by decide) ?_
        refine gq_lastore (μ' := uL μ' 311 0 0) C (show 311 < eN E by omega) (by decide +kernel) (sL_ok (k := 0) rfl (by rw [ln311]; decide)) dL_save_15 ?_
        refine gq_goto (tgt := 22) C dL_save_16 (by decide) ?_
        refine gq_iconst (v := nI 0) C dL_save_22 (by decide) ?_
        exact gq_iret C hr dL_save_23 (Nat.le_of_ble_eq_true rfl) (Nat.le_of_ble_eq_true rfl)
      · rw [if_neg hz]
        refine gq_if_eq_f (tgt := 14) C dL_save_7 (by decide) hz ?_
        refine gq_lconst (v := 1) C dL_save_10 (by decide) ?_
        refine gq_goto (tgt := 15) C dL_save_11 (by decide) ?_
        refine gq_lastore (μ' := uL μ' 311 0 1) C (show 311 < eN E by omega) (by decide +kernel) (sL_ok (k := 0) rfl (by rw [ln311]; decide)) dL_save_15 ?_
        refine gq_goto (tgt := 22) C dL_save_16 (by decide) ?_
        refine gq_iconst (v := nI 0) C dL_save_22 (by decide) ?_
        exact gq_iret C hr dL_save_23 (Nat.le_of_ble_eq_true rfl) (Nat.le_of_ble_eq_true rfl)
    · exact absurd rfl h0
    · exact absurd rfl h0
  · refine gh_call (name := "java/lang/IndexOutOfBoundsException") (rest := [.int 0, .ref (eB E + 311)]) C rfl (runx_V (As := [.int p1]) (j := 0) C (c_X3_save hN2 hl9 z0) (qn_l 0 (by decide) hN2) (by decide) (by decide) rfl wk_6_132 wk_6_133 wk_6_134 wk_1_1 wk_6_135 hd_X3_save ⟨(Nat.le_of_ble_eq_true rfl), (Nat.le_of_ble_eq_true rfl)⟩ (Nat.le_of_ble_eq_true rfl) ⟨(Nat.le_of_ble_eq_true rfl), (Nat.le_of_ble_eq_true rfl)⟩ dL_save_4 rfl) (fun h0 => ?_) [] ⟨0, 16, 19, 31⟩ [] (fun h0 => ?_) (fun h0 q => ?_)
    · exact absurd h0 (by decide)
    · exact ⟨ht, fun z hz => absurd hz List.not_mem_nil, by decide, by decide, wk_4_235, wk_5_6⟩
    · rw [if_neg (by decide)]
      refine gq_astore_n (i := 3) C dL_save_19 rfl (by decide) rfl ?_
      refine gq_iconst (v := nI 1) C dL_save_20 (by decide) ?_
      exact gq_iret C hr dL_save_21 (Nat.le_of_ble_eq_true rfl) (Nat.le_of_ble_eq_true rfl)
abbrev rmL_restore : Room := { frames := 8, cells := 2, slots := 12, locals := 155 }
set_option maxHeartbeats 4000000 in
set_option maxRecDepth 100000 in
theorem c_L_restore {l : Launch} {E : Ev} (hN : 312 ≤ eN E) (hl9 : l.stackTraces = false) {p1 : Int32} {μ : Mm} {ec t : Nat} {r : Int32} {μ' : Mm} (z0 : F_X3_restore p1 μ = some (ec, r, μ')) (hM : (ec, t) ∈ ([(0, 0), (1, 1), (4, 2)] : List (Nat × Nat))) : Met l yL_restore (Cond.codeWith yL_restore cL_restore 4 (some .int) [(0, 9, 12, 31), (0, 9, 15, 80)] :: GW) rmL_restore (va_Pc [.ref (eB E + 0), .int p1, .ref (eB E + 311)] (qP E μ)) (qQ E (some (.int (nI t))) (if ec = 0 then uL μ' 311 0 r.toInt64 else μ')) rmL_restore.cells rmL_restore.slots (eA E) := by
  refine cth_of (rm := rmL_restore) (by decide) (Nat.le_of_ble_eq_true rfl) (fun p e s m args below meth c C hr ht => ?_)
  have C : Cq E p s m args meth c cL_restore 4 RL := C
  have hN2 : 295 ≤ eN E := by omega
  refine gq_lv (lv' := [(0, .ref (eB E + 0)), (1, .int p1), (2, .ref (eB E + 311))]) rfl ?_
  refine gq_aload_n (i := 2) C dL_restore_0 rfl 2 rfl ?_
  refine gq_iconst (v := 0) C dL_restore_1 (by decide) ?_
  refine gq_aload_n (i := 0) C dL_restore_2 rfl 0 rfl ?_
  refine gq_iload_n (i := 1) C dL_restore_3 rfl 1 rfl ?_
  rcases (show (ec = 0 ∧ t = 0) ∨ (ec = 1 ∧ t = 1) ∨ (ec = 4 ∧ t = 2) by simpa using hM) with ⟨rfl, rfl⟩ | ⟨rfl, rfl⟩ | ⟨rfl, rfl⟩
  · refine gh_call (name := "java/lang/IndexOutOfBoundsException") (rest := [.int 0, .ref (eB E + 311)]) C rfl (runx_V (As := [.int p1]) (j := 0) C (c_X3_restore hN2 hl9 z0) (qn_l 0 (by decide) hN2) (by decide) (by decide) rfl wk_6_143 wk_6_144 wk_6_145 wk_1_1 wk_6_146 hd_X3_restore ⟨(Nat.le_of_ble_eq_true rfl), (Nat.le_of_ble_eq_true rfl)⟩ (Nat.le_of_ble_eq_true rfl) ⟨(Nat.le_of_ble_eq_true rfl), (Nat.le_of_ble_eq_true rfl)⟩ dL_restore_4 rfl) (fun h0 => ?_) [] ⟨0, 9, 12, 31⟩ [⟨0, 9, 15, 80⟩] (fun h0 => ?_) (fun h0 q => ?_)
    · rw [if_pos rfl]
      refine gq_i2l C dL_restore_7 ?_
      refine gq_lastore (μ' := uL μ' 311 0 r.toInt64) C (show 311 < eN E by omega) (by decide +kernel) (sL_ok (k := 0) rfl (by rw [ln311]; decide)) dL_restore_8 ?_
      refine gq_goto (tgt := 18) C dL_restore_9 (by decide) ?_
      refine gq_iconst (v := nI 0) C dL_restore_18 (by decide) ?_
      exact gq_iret C hr dL_restore_19 (Nat.le_of_ble_eq_true rfl) (Nat.le_of_ble_eq_true rfl)
    · exact absurd rfl h0
    · exact absurd rfl h0
  · refine gh_call (name := "java/lang/IndexOutOfBoundsException") (rest := [.int 0, .ref (eB E + 311)]) C rfl (runx_V (As := [.int p1]) (j := 0) C (c_X3_restore hN2 hl9 z0) (qn_l 0 (by decide) hN2) (by decide) (by decide) rfl wk_6_143 wk_6_144 wk_6_145 wk_1_1 wk_6_146 hd_X3_restore ⟨(Nat.le_of_ble_eq_true rfl), (Nat.le_of_ble_eq_true rfl)⟩ (Nat.le_of_ble_eq_true rfl) ⟨(Nat.le_of_ble_eq_true rfl), (Nat.le_of_ble_eq_true rfl)⟩ dL_restore_4 rfl) (fun h0 => ?_) [] ⟨0, 9, 12, 31⟩ [⟨0, 9, 15, 80⟩] (fun h0 => ?_) (fun h0 q => ?_)
    · exact absurd h0 (by decide)
    · exact ⟨ht, fun z hz => absurd hz List.not_mem_nil, by decide, by decide, wk_4_235, wk_5_6⟩
    · rw [if_neg (by decide)]
      refine gq_astore_n (i := 3) C dL_restore_12 rfl (by decide) rfl ?_
      refine gq_iconst (v := nI 1) C dL_restore_13 (by decide) ?_
      exact gq_iret C hr dL_restore_14 (Nat.le_of_ble_eq_true rfl) (Nat.le_of_ble_eq_true rfl)
  · refine gh_call (name := "java/lang/IllegalStateException") (rest := [.int 0, .ref (eB E + 311)]) C rfl (runx_V (As := [.int p1]) (j := 0) C (c_X3_restore hN2 hl9 z0) (qn_l 0 (by decide) hN2) (by decide) (by decide) rfl wk_6_143 wk_6_144 wk_6_145 wk_1_1 wk_6_146 hd_X3_restore ⟨(Nat.le_of_ble_eq_true rfl), (Nat.le_of_ble_eq_true rfl)⟩ (Nat.le_of_ble_eq_true rfl) ⟨(Nat.le_of_ble_eq_true rfl), (Nat.le_of_ble_eq_true rfl)⟩ dL_restore_4 rfl) (fun h0 => ?_) [⟨0, 9, 12, 31⟩] ⟨0, 9, 15, 80⟩ [] (fun h0 => ?_) (fun h0 q => ?_)
    · exact absurd h0 (by decide)
    · exact ⟨ht, fun z hz => by obtain rfl := List.mem_singleton.mp hz; exact Or.inr ⟨by decide, "java/lang/IndexOutOfBoundsException", wk_4_235, by decide +kernel⟩, by decide, by decide, wk_5_228, wk_5_239⟩
    · rw [if_neg (by decide)]
      refine gq_astore_n (i := 3) C dL_restore_15 rfl (by decide) rfl ?_
      refine gq_iconst (v := nI 2) C dL_restore_16 (by decide) ?_
      exact gq_iret C hr dL_restore_17 (Nat.le_of_ble_eq_true rfl) (Nat.le_of_ble_eq_true rfl)
