/-! ===== the helpers: words, instructions ===== -/
theorem wk_3_109 : Cond.castable "java/lang/IllegalArgumentException" "java/lang/IllegalArgumentException" ∈ NW := gn_3 (List.mem_of_getElem? (i := 109) rfl) rfl
theorem wk_4_64 : Cond.classLink "WaterExchangeLaw" (13 : Nat) "java/lang/IllegalArgumentException" ∈ GW := gw_4 (List.mem_of_getElem? (i := 64) rfl) rfl
theorem wk_4_65 : Cond.methodLink "WaterExchangeLaw" (7 : Nat) ({ cls := "WaterExchange", name := "load", desc := "()I" } : MethodName) ∈ GW := gw_4 (List.mem_of_getElem? (i := 65) rfl) rfl
theorem wk_4_66 : Cond.instanceMethod ({ cls := "WaterExchange", name := "load", desc := "()I" } : MethodName) ∈ GW := gw_4 (List.mem_of_getElem? (i := 66) rfl) rfl
theorem wk_4_67 : Cond.selects "WaterExchange" ({ cls := "WaterExchange", name := "load", desc := "()I" } : MethodName) ({ cls := "WaterExchange", name := "load", desc := "()I" } : MethodName) ∈ GW := gw_4 (List.mem_of_getElem? (i := 67) rfl) rfl
theorem wk_4_68 : Cond.code ({ cls := "WaterExchange", name := "load", desc := "()I" } : MethodName) prog_1_method_4_code (3 : Nat) (Option.some Jvm.ClassFile.FieldType.int) ∈ GW := gw_4 (List.mem_of_getElem? (i := 68) rfl) rfl
theorem dL_load_0 : decode cL_load 0 = .ok (.aload_n 1, 1) := by decide +kernel
theorem dL_load_1 : decode cL_load 1 = .ok (.iconst 0, 1) := by decide +kernel
theorem dL_load_2 : decode cL_load 2 = .ok (.aload_n 0, 1) := by decide +kernel
theorem dL_load_3 : decode cL_load 3 = .ok (.invokevirtual 7, 3) := by decide +kernel
theorem dL_load_6 : decode cL_load 6 = .ok (.i2l, 1) := by decide +kernel
theorem dL_load_7 : decode cL_load 7 = .ok (.lastore, 1) := by decide +kernel
theorem dL_load_8 : decode cL_load 8 = .ok (.goto 6, 3) := by decide +kernel
theorem dL_load_11 : decode cL_load 11 = .ok (.astore_n 2, 1) := by decide +kernel
theorem dL_load_12 : decode cL_load 12 = .ok (.iconst 1, 1) := by decide +kernel
theorem dL_load_13 : decode cL_load 13 = .ok (.ireturn, 1) := by decide +kernel
theorem dL_load_14 : decode cL_load 14 = .ok (.iconst 0, 1) := by decide +kernel
theorem dL_load_15 : decode cL_load 15 = .ok (.ireturn, 1) := by decide +kernel
theorem dL_count_0 : decode cL_count 0 = .ok (.aload_n 2, 1) := by decide +kernel
theorem dL_count_1 : decode cL_count 1 = .ok (.iconst 0, 1) := by decide +kernel
theorem dL_count_2 : decode cL_count 2 = .ok (.aload_n 0, 1) := by decide +kernel
theorem dL_count_3 : decode cL_count 3 = .ok (.iload_n 1, 1) := by decide +kernel
theorem dL_count_4 : decode cL_count 4 = .ok (.invokevirtual 15, 3) := by decide +kernel
theorem dL_count_7 : decode cL_count 7 = .ok (.i2l, 1) := by decide +kernel
theorem dL_count_8 : decode cL_count 8 = .ok (.lastore, 1) := by decide +kernel
theorem dL_count_9 : decode cL_count 9 = .ok (.goto 6, 3) := by decide +kernel
theorem dL_count_12 : decode cL_count 12 = .ok (.astore_n 3, 1) := by decide +kernel
theorem dL_count_13 : decode cL_count 13 = .ok (.iconst 1, 1) := by decide +kernel
theorem dL_count_14 : decode cL_count 14 = .ok (.ireturn, 1) := by decide +kernel
theorem dL_count_15 : decode cL_count 15 = .ok (.iconst 0, 1) := by decide +kernel
theorem dL_count_16 : decode cL_count 16 = .ok (.ireturn, 1) := by decide +kernel
theorem dL_season_0 : decode cL_season 0 = .ok (.aload_n 2, 1) := by decide +kernel
theorem dL_season_1 : decode cL_season 1 = .ok (.iconst 0, 1) := by decide +kernel
theorem dL_season_2 : decode cL_season 2 = .ok (.aload_n 0, 1) := by decide +kernel
theorem dL_season_3 : decode cL_season 3 = .ok (.iload_n 1, 1) := by decide +kernel
theorem dL_season_4 : decode cL_season 4 = .ok (.invokevirtual 21, 3) := by decide +kernel
theorem dL_season_7 : decode cL_season 7 = .ok (.i2l, 1) := by decide +kernel
theorem dL_season_8 : decode cL_season 8 = .ok (.lastore, 1) := by decide +kernel
theorem dL_season_9 : decode cL_season 9 = .ok (.goto 6, 3) := by decide +kernel
theorem dL_season_12 : decode cL_season 12 = .ok (.astore_n 3, 1) := by decide +kernel
theorem dL_season_13 : decode cL_season 13 = .ok (.iconst 1, 1) := by decide +kernel
theorem dL_season_14 : decode cL_season 14 = .ok (.ireturn, 1) := by decide +kernel
theorem dL_season_15 : decode cL_season 15 = .ok (.iconst 0, 1) := by decide +kernel
theorem dL_season_16 : decode cL_season 16 = .ok (.ireturn, 1) := by decide +kernel
theorem dL_yearPercent_0 : decode cL_yearPercent 0 = .ok (.aload_n 2, 1) := by decide +kernel
theorem dL_yearPercent_1 : decode cL_yearPercent 1 = .ok (.iconst 0, 1) := by decide +kernel
theorem dL_yearPercent_2 : decode cL_yearPercent 2 = .ok (.aload_n 0, 1) := by decide +kernel
theorem dL_yearPercent_3 : decode cL_yearPercent 3 = .ok (.iload_n 1, 1) := by decide +kernel
theorem dL_yearPercent_4 : decode cL_yearPercent 4 = .ok (.invokevirtual 24, 3) := by decide +kernel
theorem dL_yearPercent_7 : decode cL_yearPercent 7 = .ok (.i2l, 1) := by decide +kernel
theorem dL_yearPercent_8 : decode cL_yearPercent 8 = .ok (.lastore, 1) := by decide +kernel
theorem dL_yearPercent_9 : decode cL_yearPercent 9 = .ok (.goto 6, 3) := by decide +kernel
theorem dL_yearPercent_12 : decode cL_yearPercent 12 = .ok (.astore_n 3, 1) := by decide +kernel
theorem dL_yearPercent_13 : decode cL_yearPercent 13 = .ok (.iconst 1, 1) := by decide +kernel
theorem dL_yearPercent_14 : decode cL_yearPercent 14 = .ok (.ireturn, 1) := by decide +kernel
theorem dL_yearPercent_15 : decode cL_yearPercent 15 = .ok (.iconst 0, 1) := by decide +kernel
theorem dL_yearPercent_16 : decode cL_yearPercent 16 = .ok (.ireturn, 1) := by decide +kernel
theorem dL_reach_0 : decode cL_reach 0 = .ok (.aload_n 3, 1) := by decide +kernel
theorem dL_reach_1 : decode cL_reach 1 = .ok (.iconst 0, 1) := by decide +kernel
theorem dL_reach_2 : decode cL_reach 2 = .ok (.aload_n 0, 1) := by decide +kernel
theorem dL_reach_3 : decode cL_reach 3 = .ok (.iload_n 1, 1) := by decide +kernel
theorem dL_reach_4 : decode cL_reach 4 = .ok (.iload_n 2, 1) := by decide +kernel
theorem dL_reach_5 : decode cL_reach 5 = .ok (.invokevirtual 27, 3) := by decide +kernel
theorem dL_reach_8 : decode cL_reach 8 = .ok (.i2l, 1) := by decide +kernel
theorem dL_reach_9 : decode cL_reach 9 = .ok (.lastore, 1) := by decide +kernel
theorem dL_reach_10 : decode cL_reach 10 = .ok (.goto 11, 3) := by decide +kernel
theorem dL_reach_13 : decode cL_reach 13 = .ok (.astore 4, 2) := by decide +kernel
theorem dL_reach_15 : decode cL_reach 15 = .ok (.iconst 1, 1) := by decide +kernel
theorem dL_reach_16 : decode cL_reach 16 = .ok (.ireturn, 1) := by decide +kernel
theorem dL_reach_17 : decode cL_reach 17 = .ok (.astore 4, 2) := by decide +kernel
theorem dL_reach_19 : decode cL_reach 19 = .ok (.iconst 2, 1) := by decide +kernel
theorem dL_reach_20 : decode cL_reach 20 = .ok (.ireturn, 1) := by decide +kernel
theorem dL_reach_21 : decode cL_reach 21 = .ok (.iconst 0, 1) := by decide +kernel
theorem dL_reach_22 : decode cL_reach 22 = .ok (.ireturn, 1) := by decide +kernel
theorem dL_coming_0 : decode cL_coming 0 = .ok (.aload_n 2, 1) := by decide +kernel
theorem dL_coming_1 : decode cL_coming 1 = .ok (.iconst 0, 1) := by decide +kernel
theorem dL_coming_2 : decode cL_coming 2 = .ok (.aload_n 0, 1) := by decide +kernel
theorem dL_coming_3 : decode cL_coming 3 = .ok (.iload_n 1, 1) := by decide +kernel
theorem dL_coming_4 : decode cL_coming 4 = .ok (.invokevirtual 33, 3) := by decide +kernel
theorem dL_coming_7 : decode cL_coming 7 = .ok (.i2l, 1) := by decide +kernel
theorem dL_coming_8 : decode cL_coming 8 = .ok (.lastore, 1) := by decide +kernel
theorem dL_coming_9 : decode cL_coming 9 = .ok (.goto 6, 3) := by decide +kernel
theorem dL_coming_12 : decode cL_coming 12 = .ok (.astore_n 3, 1) := by decide +kernel
theorem dL_coming_13 : decode cL_coming 13 = .ok (.iconst 1, 1) := by decide +kernel
theorem dL_coming_14 : decode cL_coming 14 = .ok (.ireturn, 1) := by decide +kernel
theorem dL_coming_15 : decode cL_coming 15 = .ok (.iconst 0, 1) := by decide +kernel
theorem dL_coming_16 : decode cL_coming 16 = .ok (.ireturn, 1) := by decide +kernel
theorem dL_balance_0 : decode cL_balance 0 = .ok (.aload_n 2, 1) := by decide +kernel
theorem dL_balance_1 : decode cL_balance 1 = .ok (.iconst 0, 1) := by decide +kernel
theorem dL_balance_2 : decode cL_balance 2 = .ok (.aload_n 0, 1) := by decide +kernel
theorem dL_balance_3 : decode cL_balance 3 = .ok (.iload_n 1, 1) := by decide +kernel
theorem dL_balance_4 : decode cL_balance 4 = .ok (.invokevirtual 36, 3) := by decide +kernel
theorem dL_balance_7 : decode cL_balance 7 = .ok (.lastore, 1) := by decide +kernel
theorem dL_balance_8 : decode cL_balance 8 = .ok (.goto 6, 3) := by decide +kernel
theorem dL_balance_11 : decode cL_balance 11 = .ok (.astore_n 3, 1) := by decide +kernel
theorem dL_balance_12 : decode cL_balance 12 = .ok (.iconst 1, 1) := by decide +kernel
theorem dL_balance_13 : decode cL_balance 13 = .ok (.ireturn, 1) := by decide +kernel
theorem dL_balance_14 : decode cL_balance 14 = .ok (.iconst 0, 1) := by decide +kernel
theorem dL_balance_15 : decode cL_balance 15 = .ok (.ireturn, 1) := by decide +kernel
theorem dL_bank_0 : decode cL_bank 0 = .ok (.aload_n 2, 1) := by decide +kernel
theorem dL_bank_1 : decode cL_bank 1 = .ok (.iconst 0, 1) := by decide +kernel
theorem dL_bank_2 : decode cL_bank 2 = .ok (.aload_n 0, 1) := by decide +kernel
theorem dL_bank_3 : decode cL_bank 3 = .ok (.iload_n 1, 1) := by decide +kernel
theorem dL_bank_4 : decode cL_bank 4 = .ok (.invokevirtual 40, 3) := by decide +kernel
theorem dL_bank_7 : decode cL_bank 7 = .ok (.i2l, 1) := by decide +kernel
theorem dL_bank_8 : decode cL_bank 8 = .ok (.lastore, 1) := by decide +kernel
theorem dL_bank_9 : decode cL_bank 9 = .ok (.goto 6, 3) := by decide +kernel
theorem dL_bank_12 : decode cL_bank 12 = .ok (.astore_n 3, 1) := by decide +kernel
theorem dL_bank_13 : decode cL_bank 13 = .ok (.iconst 1, 1) := by decide +kernel
theorem dL_bank_14 : decode cL_bank 14 = .ok (.ireturn, 1) := by decide +kernel
theorem dL_bank_15 : decode cL_bank 15 = .ok (.iconst 0, 1) := by decide +kernel
theorem dL_bank_16 : decode cL_bank 16 = .ok (.ireturn, 1) := by decide +kernel
theorem dL_right_0 : decode cL_right 0 = .ok (.aload_n 3, 1) := by decide +kernel
theorem dL_right_1 : decode cL_right 1 = .ok (.iconst 0, 1) := by decide +kernel
theorem dL_right_2 : decode cL_right 2 = .ok (.aload_n 0, 1) := by decide +kernel
theorem dL_right_3 : decode cL_right 3 = .ok (.iload_n 1, 1) := by decide +kernel
theorem dL_right_4 : decode cL_right 4 = .ok (.iload_n 2, 1) := by decide +kernel
theorem dL_right_5 : decode cL_right 5 = .ok (.invokevirtual 43, 3) := by decide +kernel
theorem dL_right_8 : decode cL_right 8 = .ok (.i2l, 1) := by decide +kernel
theorem dL_right_9 : decode cL_right 9 = .ok (.lastore, 1) := by decide +kernel
theorem dL_right_10 : decode cL_right 10 = .ok (.goto 11, 3) := by decide +kernel
theorem dL_right_13 : decode cL_right 13 = .ok (.astore 4, 2) := by decide +kernel
theorem dL_right_15 : decode cL_right 15 = .ok (.iconst 1, 1) := by decide +kernel
theorem dL_right_16 : decode cL_right 16 = .ok (.ireturn, 1) := by decide +kernel
theorem dL_right_17 : decode cL_right 17 = .ok (.astore 4, 2) := by decide +kernel
theorem dL_right_19 : decode cL_right 19 = .ok (.iconst 2, 1) := by decide +kernel
theorem dL_right_20 : decode cL_right 20 = .ok (.ireturn, 1) := by decide +kernel
theorem dL_right_21 : decode cL_right 21 = .ok (.iconst 0, 1) := by decide +kernel
theorem dL_right_22 : decode cL_right 22 = .ok (.ireturn, 1) := by decide +kernel
theorem dL_leaseField_0 : decode cL_leaseField 0 = .ok (.aload_n 3, 1) := by decide +kernel
theorem dL_leaseField_1 : decode cL_leaseField 1 = .ok (.iconst 0, 1) := by decide +kernel
theorem dL_leaseField_2 : decode cL_leaseField 2 = .ok (.aload_n 0, 1) := by decide +kernel
theorem dL_leaseField_3 : decode cL_leaseField 3 = .ok (.iload_n 1, 1) := by decide +kernel
theorem dL_leaseField_4 : decode cL_leaseField 4 = .ok (.iload_n 2, 1) := by decide +kernel
theorem dL_leaseField_5 : decode cL_leaseField 5 = .ok (.invokevirtual 46, 3) := by decide +kernel
theorem dL_leaseField_8 : decode cL_leaseField 8 = .ok (.i2l, 1) := by decide +kernel
theorem dL_leaseField_9 : decode cL_leaseField 9 = .ok (.lastore, 1) := by decide +kernel
theorem dL_leaseField_10 : decode cL_leaseField 10 = .ok (.goto 11, 3) := by decide +kernel
theorem dL_leaseField_13 : decode cL_leaseField 13 = .ok (.astore 4, 2) := by decide +kernel
theorem dL_leaseField_15 : decode cL_leaseField 15 = .ok (.iconst 1, 1) := by decide +kernel
theorem dL_leaseField_16 : decode cL_leaseField 16 = .ok (.ireturn, 1) := by decide +kernel
theorem dL_leaseField_17 : decode cL_leaseField 17 = .ok (.astore 4, 2) := by decide +kernel
theorem dL_leaseField_19 : decode cL_leaseField 19 = .ok (.iconst 2, 1) := by decide +kernel
theorem dL_leaseField_20 : decode cL_leaseField 20 = .ok (.ireturn, 1) := by decide +kernel
theorem dL_leaseField_21 : decode cL_leaseField 21 = .ok (.iconst 0, 1) := by decide +kernel
theorem dL_leaseField_22 : decode cL_leaseField 22 = .ok (.ireturn, 1) := by decide +kernel
theorem dL_optionField_0 : decode cL_optionField 0 = .ok (.aload_n 3, 1) := by decide +kernel
theorem dL_optionField_1 : decode cL_optionField 1 = .ok (.iconst 0, 1) := by decide +kernel
theorem dL_optionField_2 : decode cL_optionField 2 = .ok (.aload_n 0, 1) := by decide +kernel
theorem dL_optionField_3 : decode cL_optionField 3 = .ok (.iload_n 1, 1) := by decide +kernel
theorem dL_optionField_4 : decode cL_optionField 4 = .ok (.iload_n 2, 1) := by decide +kernel
theorem dL_optionField_5 : decode cL_optionField 5 = .ok (.invokevirtual 49, 3) := by decide +kernel
theorem dL_optionField_8 : decode cL_optionField 8 = .ok (.i2l, 1) := by decide +kernel
theorem dL_optionField_9 : decode cL_optionField 9 = .ok (.lastore, 1) := by decide +kernel
theorem dL_optionField_10 : decode cL_optionField 10 = .ok (.goto 11, 3) := by decide +kernel
theorem dL_optionField_13 : decode cL_optionField 13 = .ok (.astore 4, 2) := by decide +kernel
theorem dL_optionField_15 : decode cL_optionField 15 = .ok (.iconst 1, 1) := by decide +kernel
theorem dL_optionField_16 : decode cL_optionField 16 = .ok (.ireturn, 1) := by decide +kernel
theorem dL_optionField_17 : decode cL_optionField 17 = .ok (.astore 4, 2) := by decide +kernel
theorem dL_optionField_19 : decode cL_optionField 19 = .ok (.iconst 2, 1) := by decide +kernel
theorem dL_optionField_20 : decode cL_optionField 20 = .ok (.ireturn, 1) := by decide +kernel
theorem dL_optionField_21 : decode cL_optionField 21 = .ok (.iconst 0, 1) := by decide +kernel
theorem dL_optionField_22 : decode cL_optionField 22 = .ok (.ireturn, 1) := by decide +kernel
theorem dL_claim_0 : decode cL_claim 0 = .ok (.aload_n 3, 1) := by decide +kernel
theorem dL_claim_1 : decode cL_claim 1 = .ok (.iconst 0, 1) := by decide +kernel
theorem dL_claim_2 : decode cL_claim 2 = .ok (.aload_n 0, 1) := by decide +kernel
theorem dL_claim_3 : decode cL_claim 3 = .ok (.iload_n 1, 1) := by decide +kernel
theorem dL_claim_4 : decode cL_claim 4 = .ok (.iload_n 2, 1) := by decide +kernel
theorem dL_claim_5 : decode cL_claim 5 = .ok (.invokevirtual 52, 3) := by decide +kernel
theorem dL_claim_8 : decode cL_claim 8 = .ok (.i2l, 1) := by decide +kernel
theorem dL_claim_9 : decode cL_claim 9 = .ok (.lastore, 1) := by decide +kernel
theorem dL_claim_10 : decode cL_claim 10 = .ok (.goto 11, 3) := by decide +kernel
theorem dL_claim_13 : decode cL_claim 13 = .ok (.astore 4, 2) := by decide +kernel
theorem dL_claim_15 : decode cL_claim 15 = .ok (.iconst 1, 1) := by decide +kernel
theorem dL_claim_16 : decode cL_claim 16 = .ok (.ireturn, 1) := by decide +kernel
theorem dL_claim_17 : decode cL_claim 17 = .ok (.astore 4, 2) := by decide +kernel
theorem dL_claim_19 : decode cL_claim 19 = .ok (.iconst 2, 1) := by decide +kernel
theorem dL_claim_20 : decode cL_claim 20 = .ok (.ireturn, 1) := by decide +kernel
theorem dL_claim_21 : decode cL_claim 21 = .ok (.iconst 0, 1) := by decide +kernel
theorem dL_claim_22 : decode cL_claim 22 = .ok (.ireturn, 1) := by decide +kernel
theorem dL_gauge_0 : decode cL_gauge 0 = .ok (.aload_n 3, 1) := by decide +kernel
theorem dL_gauge_1 : decode cL_gauge 1 = .ok (.iconst 0, 1) := by decide +kernel
theorem dL_gauge_2 : decode cL_gauge 2 = .ok (.aload_n 0, 1) := by decide +kernel
theorem dL_gauge_3 : decode cL_gauge 3 = .ok (.iload_n 1, 1) := by decide +kernel
theorem dL_gauge_4 : decode cL_gauge 4 = .ok (.iload_n 2, 1) := by decide +kernel
theorem dL_gauge_5 : decode cL_gauge 5 = .ok (.invokevirtual 55, 3) := by decide +kernel
theorem dL_gauge_8 : decode cL_gauge 8 = .ok (.i2l, 1) := by decide +kernel
theorem dL_gauge_9 : decode cL_gauge 9 = .ok (.lastore, 1) := by decide +kernel
theorem dL_gauge_10 : decode cL_gauge 10 = .ok (.goto 11, 3) := by decide +kernel
theorem dL_gauge_13 : decode cL_gauge 13 = .ok (.astore 4, 2) := by decide +kernel
theorem dL_gauge_15 : decode cL_gauge 15 = .ok (.iconst 1, 1) := by decide +kernel
theorem dL_gauge_16 : decode cL_gauge 16 = .ok (.ireturn, 1) := by decide +kernel
theorem dL_gauge_17 : decode cL_gauge 17 = .ok (.astore 4, 2) := by decide +kernel
theorem dL_gauge_19 : decode cL_gauge 19 = .ok (.iconst 2, 1) := by decide +kernel
theorem dL_gauge_20 : decode cL_gauge 20 = .ok (.ireturn, 1) := by decide +kernel
theorem dL_gauge_21 : decode cL_gauge 21 = .ok (.iconst 0, 1) := by decide +kernel
theorem dL_gauge_22 : decode cL_gauge 22 = .ok (.ireturn, 1) := by decide +kernel
theorem dL_history_0 : decode cL_history 0 = .ok (.aload_n 3, 1) := by decide +kernel
theorem dL_history_1 : decode cL_history 1 = .ok (.iconst 0, 1) := by decide +kernel
theorem dL_history_2 : decode cL_history 2 = .ok (.aload_n 0, 1) := by decide +kernel
theorem dL_history_3 : decode cL_history 3 = .ok (.iload_n 1, 1) := by decide +kernel
theorem dL_history_4 : decode cL_history 4 = .ok (.iload_n 2, 1) := by decide +kernel
theorem dL_history_5 : decode cL_history 5 = .ok (.invokevirtual 58, 3) := by decide +kernel
theorem dL_history_8 : decode cL_history 8 = .ok (.i2l, 1) := by decide +kernel
theorem dL_history_9 : decode cL_history 9 = .ok (.lastore, 1) := by decide +kernel
theorem dL_history_10 : decode cL_history 10 = .ok (.goto 7, 3) := by decide +kernel
theorem dL_history_13 : decode cL_history 13 = .ok (.astore 4, 2) := by decide +kernel
theorem dL_history_15 : decode cL_history 15 = .ok (.iconst 1, 1) := by decide +kernel
theorem dL_history_16 : decode cL_history 16 = .ok (.ireturn, 1) := by decide +kernel
theorem dL_history_17 : decode cL_history 17 = .ok (.iconst 0, 1) := by decide +kernel
theorem dL_history_18 : decode cL_history 18 = .ok (.ireturn, 1) := by decide +kernel
theorem dL_got_0 : decode cL_got 0 = .ok (.aload_n 2, 1) := by decide +kernel
theorem dL_got_1 : decode cL_got 1 = .ok (.iconst 0, 1) := by decide +kernel
theorem dL_got_2 : decode cL_got 2 = .ok (.aload_n 0, 1) := by decide +kernel
theorem dL_got_3 : decode cL_got 3 = .ok (.iload_n 1, 1) := by decide +kernel
theorem dL_got_4 : decode cL_got 4 = .ok (.invokevirtual 61, 3) := by decide +kernel
theorem dL_got_7 : decode cL_got 7 = .ok (.i2l, 1) := by decide +kernel
theorem dL_got_8 : decode cL_got 8 = .ok (.lastore, 1) := by decide +kernel
theorem dL_got_9 : decode cL_got 9 = .ok (.goto 6, 3) := by decide +kernel
theorem dL_got_12 : decode cL_got 12 = .ok (.astore_n 3, 1) := by decide +kernel
theorem dL_got_13 : decode cL_got 13 = .ok (.iconst 1, 1) := by decide +kernel
theorem dL_got_14 : decode cL_got 14 = .ok (.ireturn, 1) := by decide +kernel
theorem dL_got_15 : decode cL_got 15 = .ok (.iconst 0, 1) := by decide +kernel
theorem dL_got_16 : decode cL_got 16 = .ok (.ireturn, 1) := by decide +kernel
theorem dL_earned_0 : decode cL_earned 0 = .ok (.aload_n 2, 1) := by decide +kernel
theorem dL_earned_1 : decode cL_earned 1 = .ok (.iconst 0, 1) := by decide +kernel
theorem dL_earned_2 : decode cL_earned 2 = .ok (.aload_n 0, 1) := by decide +kernel
theorem dL_earned_3 : decode cL_earned 3 = .ok (.iload_n 1, 1) := by decide +kernel
theorem dL_earned_4 : decode cL_earned 4 = .ok (.invokevirtual 64, 3) := by decide +kernel
theorem dL_earned_7 : decode cL_earned 7 = .ok (.lastore, 1) := by decide +kernel
theorem dL_earned_8 : decode cL_earned 8 = .ok (.goto 6, 3) := by decide +kernel
theorem dL_earned_11 : decode cL_earned 11 = .ok (.astore_n 3, 1) := by decide +kernel
theorem dL_earned_12 : decode cL_earned 12 = .ok (.iconst 1, 1) := by decide +kernel
theorem dL_earned_13 : decode cL_earned 13 = .ok (.ireturn, 1) := by decide +kernel
theorem dL_earned_14 : decode cL_earned 14 = .ok (.iconst 0, 1) := by decide +kernel
theorem dL_earned_15 : decode cL_earned 15 = .ok (.ireturn, 1) := by decide +kernel
theorem dL_expected_0 : decode cL_expected 0 = .ok (.aload_n 3, 1) := by decide +kernel
theorem dL_expected_1 : decode cL_expected 1 = .ok (.iconst 0, 1) := by decide +kernel
theorem dL_expected_2 : decode cL_expected 2 = .ok (.aload_n 0, 1) := by decide +kernel
theorem dL_expected_3 : decode cL_expected 3 = .ok (.iload_n 1, 1) := by decide +kernel
theorem dL_expected_4 : decode cL_expected 4 = .ok (.iload_n 2, 1) := by decide +kernel
theorem dL_expected_5 : decode cL_expected 5 = .ok (.invokevirtual 67, 3) := by decide +kernel
theorem dL_expected_8 : decode cL_expected 8 = .ok (.i2l, 1) := by decide +kernel
theorem dL_expected_9 : decode cL_expected 9 = .ok (.lastore, 1) := by decide +kernel
theorem dL_expected_10 : decode cL_expected 10 = .ok (.goto 11, 3) := by decide +kernel
theorem dL_expected_13 : decode cL_expected 13 = .ok (.astore 4, 2) := by decide +kernel
theorem dL_expected_15 : decode cL_expected 15 = .ok (.iconst 1, 1) := by decide +kernel
theorem dL_expected_16 : decode cL_expected 16 = .ok (.ireturn, 1) := by decide +kernel
theorem dL_expected_17 : decode cL_expected 17 = .ok (.astore 4, 2) := by decide +kernel
theorem dL_expected_19 : decode cL_expected 19 = .ok (.iconst 2, 1) := by decide +kernel
theorem dL_expected_20 : decode cL_expected 20 = .ok (.ireturn, 1) := by decide +kernel
theorem dL_expected_21 : decode cL_expected 21 = .ok (.iconst 0, 1) := by decide +kernel
theorem dL_expected_22 : decode cL_expected 22 = .ok (.ireturn, 1) := by decide +kernel
theorem dL_cutMonths_0 : decode cL_cutMonths 0 = .ok (.aload_n 3, 1) := by decide +kernel
theorem dL_cutMonths_1 : decode cL_cutMonths 1 = .ok (.iconst 0, 1) := by decide +kernel
theorem dL_cutMonths_2 : decode cL_cutMonths 2 = .ok (.aload_n 0, 1) := by decide +kernel
theorem dL_cutMonths_3 : decode cL_cutMonths 3 = .ok (.iload_n 1, 1) := by decide +kernel
theorem dL_cutMonths_4 : decode cL_cutMonths 4 = .ok (.iload_n 2, 1) := by decide +kernel
theorem dL_cutMonths_5 : decode cL_cutMonths 5 = .ok (.invokevirtual 70, 3) := by decide +kernel
theorem dL_cutMonths_8 : decode cL_cutMonths 8 = .ok (.i2l, 1) := by decide +kernel
theorem dL_cutMonths_9 : decode cL_cutMonths 9 = .ok (.lastore, 1) := by decide +kernel
theorem dL_cutMonths_10 : decode cL_cutMonths 10 = .ok (.goto 11, 3) := by decide +kernel
theorem dL_cutMonths_13 : decode cL_cutMonths 13 = .ok (.astore 4, 2) := by decide +kernel
theorem dL_cutMonths_15 : decode cL_cutMonths 15 = .ok (.iconst 1, 1) := by decide +kernel
theorem dL_cutMonths_16 : decode cL_cutMonths 16 = .ok (.ireturn, 1) := by decide +kernel
theorem dL_cutMonths_17 : decode cL_cutMonths 17 = .ok (.astore 4, 2) := by decide +kernel
theorem dL_cutMonths_19 : decode cL_cutMonths 19 = .ok (.iconst 2, 1) := by decide +kernel
theorem dL_cutMonths_20 : decode cL_cutMonths 20 = .ok (.ireturn, 1) := by decide +kernel
theorem dL_cutMonths_21 : decode cL_cutMonths 21 = .ok (.iconst 0, 1) := by decide +kernel
theorem dL_cutMonths_22 : decode cL_cutMonths 22 = .ok (.ireturn, 1) := by decide +kernel
theorem dL_balanceAfter_0 : decode cL_balanceAfter 0 = .ok (.aload_n 3, 1) := by decide +kernel
theorem dL_balanceAfter_1 : decode cL_balanceAfter 1 = .ok (.iconst 0, 1) := by decide +kernel
theorem dL_balanceAfter_2 : decode cL_balanceAfter 2 = .ok (.aload_n 0, 1) := by decide +kernel
theorem dL_balanceAfter_3 : decode cL_balanceAfter 3 = .ok (.iload_n 1, 1) := by decide +kernel
theorem dL_balanceAfter_4 : decode cL_balanceAfter 4 = .ok (.iload_n 2, 1) := by decide +kernel
theorem dL_balanceAfter_5 : decode cL_balanceAfter 5 = .ok (.invokevirtual 73, 3) := by decide +kernel
theorem dL_balanceAfter_8 : decode cL_balanceAfter 8 = .ok (.lastore, 1) := by decide +kernel
theorem dL_balanceAfter_9 : decode cL_balanceAfter 9 = .ok (.goto 11, 3) := by decide +kernel
theorem dL_balanceAfter_12 : decode cL_balanceAfter 12 = .ok (.astore 4, 2) := by decide +kernel
theorem dL_balanceAfter_14 : decode cL_balanceAfter 14 = .ok (.iconst 1, 1) := by decide +kernel
theorem dL_balanceAfter_15 : decode cL_balanceAfter 15 = .ok (.ireturn, 1) := by decide +kernel
theorem dL_balanceAfter_16 : decode cL_balanceAfter 16 = .ok (.astore 4, 2) := by decide +kernel
theorem dL_balanceAfter_18 : decode cL_balanceAfter 18 = .ok (.iconst 2, 1) := by decide +kernel
theorem dL_balanceAfter_19 : decode cL_balanceAfter 19 = .ok (.ireturn, 1) := by decide +kernel
theorem dL_balanceAfter_20 : decode cL_balanceAfter 20 = .ok (.iconst 0, 1) := by decide +kernel
theorem dL_balanceAfter_21 : decode cL_balanceAfter 21 = .ok (.ireturn, 1) := by decide +kernel
theorem dL_driestMonth_0 : decode cL_driestMonth 0 = .ok (.aload_n 2, 1) := by decide +kernel
theorem dL_driestMonth_1 : decode cL_driestMonth 1 = .ok (.iconst 0, 1) := by decide +kernel
theorem dL_driestMonth_2 : decode cL_driestMonth 2 = .ok (.aload_n 0, 1) := by decide +kernel
theorem dL_driestMonth_3 : decode cL_driestMonth 3 = .ok (.iload_n 1, 1) := by decide +kernel
theorem dL_driestMonth_4 : decode cL_driestMonth 4 = .ok (.invokevirtual 77, 3) := by decide +kernel
theorem dL_driestMonth_7 : decode cL_driestMonth 7 = .ok (.i2l, 1) := by decide +kernel
theorem dL_driestMonth_8 : decode cL_driestMonth 8 = .ok (.lastore, 1) := by decide +kernel
theorem dL_driestMonth_9 : decode cL_driestMonth 9 = .ok (.goto 9, 3) := by decide +kernel
theorem dL_driestMonth_12 : decode cL_driestMonth 12 = .ok (.astore_n 3, 1) := by decide +kernel
theorem dL_driestMonth_13 : decode cL_driestMonth 13 = .ok (.iconst 1, 1) := by decide +kernel
theorem dL_driestMonth_14 : decode cL_driestMonth 14 = .ok (.ireturn, 1) := by decide +kernel
theorem dL_driestMonth_15 : decode cL_driestMonth 15 = .ok (.astore_n 3, 1) := by decide +kernel
theorem dL_driestMonth_16 : decode cL_driestMonth 16 = .ok (.iconst 2, 1) := by decide +kernel
theorem dL_driestMonth_17 : decode cL_driestMonth 17 = .ok (.ireturn, 1) := by decide +kernel
theorem dL_driestMonth_18 : decode cL_driestMonth 18 = .ok (.iconst 0, 1) := by decide +kernel
theorem dL_driestMonth_19 : decode cL_driestMonth 19 = .ok (.ireturn, 1) := by decide +kernel
theorem dL_free_0 : decode cL_free 0 = .ok (.aload_n 2, 1) := by decide +kernel
theorem dL_free_1 : decode cL_free 1 = .ok (.iconst 0, 1) := by decide +kernel
theorem dL_free_2 : decode cL_free 2 = .ok (.aload_n 0, 1) := by decide +kernel
theorem dL_free_3 : decode cL_free 3 = .ok (.iload_n 1, 1) := by decide +kernel
theorem dL_free_4 : decode cL_free 4 = .ok (.invokevirtual 82, 3) := by decide +kernel
theorem dL_free_7 : decode cL_free 7 = .ok (.i2l, 1) := by decide +kernel
theorem dL_free_8 : decode cL_free 8 = .ok (.lastore, 1) := by decide +kernel
theorem dL_free_9 : decode cL_free 9 = .ok (.goto 6, 3) := by decide +kernel
theorem dL_free_12 : decode cL_free 12 = .ok (.astore_n 3, 1) := by decide +kernel
theorem dL_free_13 : decode cL_free 13 = .ok (.iconst 1, 1) := by decide +kernel
theorem dL_free_14 : decode cL_free 14 = .ok (.ireturn, 1) := by decide +kernel
theorem dL_free_15 : decode cL_free 15 = .ok (.iconst 0, 1) := by decide +kernel
theorem dL_free_16 : decode cL_free 16 = .ok (.ireturn, 1) := by decide +kernel
theorem dL_bestReach_0 : decode cL_bestReach 0 = .ok (.aload_n 2, 1) := by decide +kernel
theorem dL_bestReach_1 : decode cL_bestReach 1 = .ok (.iconst 0, 1) := by decide +kernel
theorem dL_bestReach_2 : decode cL_bestReach 2 = .ok (.aload_n 0, 1) := by decide +kernel
theorem dL_bestReach_3 : decode cL_bestReach 3 = .ok (.iload_n 1, 1) := by decide +kernel
theorem dL_bestReach_4 : decode cL_bestReach 4 = .ok (.invokevirtual 85, 3) := by decide +kernel
theorem dL_bestReach_7 : decode cL_bestReach 7 = .ok (.i2l, 1) := by decide +kernel
theorem dL_bestReach_8 : decode cL_bestReach 8 = .ok (.lastore, 1) := by decide +kernel
theorem dL_bestReach_9 : decode cL_bestReach 9 = .ok (.goto 6, 3) := by decide +kernel
theorem dL_bestReach_12 : decode cL_bestReach 12 = .ok (.astore_n 3, 1) := by decide +kernel
theorem dL_bestReach_13 : decode cL_bestReach 13 = .ok (.iconst 1, 1) := by decide +kernel
theorem dL_bestReach_14 : decode cL_bestReach 14 = .ok (.ireturn, 1) := by decide +kernel
theorem dL_bestReach_15 : decode cL_bestReach 15 = .ok (.iconst 0, 1) := by decide +kernel
theorem dL_bestReach_16 : decode cL_bestReach 16 = .ok (.ireturn, 1) := by decide +kernel
theorem dL_injured_0 : decode cL_injured 0 = .ok (.aload 4, 2) := by decide +kernel
theorem dL_injured_2 : decode cL_injured 2 = .ok (.iconst 0, 1) := by decide +kernel
theorem dL_injured_3 : decode cL_injured 3 = .ok (.aload_n 0, 1) := by decide +kernel
theorem dL_injured_4 : decode cL_injured 4 = .ok (.iload_n 1, 1) := by decide +kernel
theorem dL_injured_5 : decode cL_injured 5 = .ok (.iload_n 2, 1) := by decide +kernel
theorem dL_injured_6 : decode cL_injured 6 = .ok (.iload_n 3, 1) := by decide +kernel
theorem dL_injured_7 : decode cL_injured 7 = .ok (.invokevirtual 88, 3) := by decide +kernel
theorem dL_injured_10 : decode cL_injured 10 = .ok (.i2l, 1) := by decide +kernel
theorem dL_injured_11 : decode cL_injured 11 = .ok (.lastore, 1) := by decide +kernel
theorem dL_injured_12 : decode cL_injured 12 = .ok (.goto 11, 3) := by decide +kernel
theorem dL_injured_15 : decode cL_injured 15 = .ok (.astore 5, 2) := by decide +kernel
theorem dL_injured_17 : decode cL_injured 17 = .ok (.iconst 1, 1) := by decide +kernel
theorem dL_injured_18 : decode cL_injured 18 = .ok (.ireturn, 1) := by decide +kernel
theorem dL_injured_19 : decode cL_injured 19 = .ok (.astore 5, 2) := by decide +kernel
theorem dL_injured_21 : decode cL_injured 21 = .ok (.iconst 2, 1) := by decide +kernel
theorem dL_injured_22 : decode cL_injured 22 = .ok (.ireturn, 1) := by decide +kernel
theorem dL_injured_23 : decode cL_injured 23 = .ok (.iconst 0, 1) := by decide +kernel
theorem dL_injured_24 : decode cL_injured 24 = .ok (.ireturn, 1) := by decide +kernel
theorem dL_blocked_0 : decode cL_blocked 0 = .ok (.aload_n 2, 1) := by decide +kernel
theorem dL_blocked_1 : decode cL_blocked 1 = .ok (.iconst 0, 1) := by decide +kernel
theorem dL_blocked_2 : decode cL_blocked 2 = .ok (.aload_n 0, 1) := by decide +kernel
theorem dL_blocked_3 : decode cL_blocked 3 = .ok (.iload_n 1, 1) := by decide +kernel
theorem dL_blocked_4 : decode cL_blocked 4 = .ok (.invokevirtual 92, 3) := by decide +kernel
theorem dL_blocked_7 : decode cL_blocked 7 = .ok (.i2l, 1) := by decide +kernel
theorem dL_blocked_8 : decode cL_blocked 8 = .ok (.lastore, 1) := by decide +kernel
theorem dL_blocked_9 : decode cL_blocked 9 = .ok (.goto 6, 3) := by decide +kernel
theorem dL_blocked_12 : decode cL_blocked 12 = .ok (.astore_n 3, 1) := by decide +kernel
theorem dL_blocked_13 : decode cL_blocked 13 = .ok (.iconst 1, 1) := by decide +kernel
theorem dL_blocked_14 : decode cL_blocked 14 = .ok (.ireturn, 1) := by decide +kernel
theorem dL_blocked_15 : decode cL_blocked 15 = .ok (.iconst 0, 1) := by decide +kernel
theorem dL_blocked_16 : decode cL_blocked 16 = .ok (.ireturn, 1) := by decide +kernel
theorem dL_run_0 : decode cL_run 0 = .ok (.aload_n 2, 1) := by decide +kernel
theorem dL_run_1 : decode cL_run 1 = .ok (.iconst 0, 1) := by decide +kernel
theorem dL_run_2 : decode cL_run 2 = .ok (.aload_n 0, 1) := by decide +kernel
theorem dL_run_3 : decode cL_run 3 = .ok (.iload_n 1, 1) := by decide +kernel
theorem dL_run_4 : decode cL_run 4 = .ok (.invokevirtual 95, 3) := by decide +kernel
theorem dL_run_7 : decode cL_run 7 = .ok (.i2l, 1) := by decide +kernel
theorem dL_run_8 : decode cL_run 8 = .ok (.lastore, 1) := by decide +kernel
theorem dL_run_9 : decode cL_run 9 = .ok (.goto 9, 3) := by decide +kernel
theorem dL_run_12 : decode cL_run 12 = .ok (.astore_n 3, 1) := by decide +kernel
theorem dL_run_13 : decode cL_run 13 = .ok (.iconst 1, 1) := by decide +kernel
theorem dL_run_14 : decode cL_run 14 = .ok (.ireturn, 1) := by decide +kernel
theorem dL_run_15 : decode cL_run 15 = .ok (.astore_n 3, 1) := by decide +kernel
theorem dL_run_16 : decode cL_run 16 = .ok (.iconst 2, 1) := by decide +kernel
theorem dL_run_17 : decode cL_run 17 = .ok (.ireturn, 1) := by decide +kernel
theorem dL_run_18 : decode cL_run 18 = .ok (.iconst 0, 1) := by decide +kernel
theorem dL_run_19 : decode cL_run 19 = .ok (.ireturn, 1) := by decide +kernel
theorem dL_lease_0 : decode cL_lease 0 = .ok (.aload 7, 2) := by decide +kernel
theorem dL_lease_2 : decode cL_lease 2 = .ok (.iconst 0, 1) := by decide +kernel
theorem dL_lease_3 : decode cL_lease 3 = .ok (.aload_n 0, 1) := by decide +kernel
theorem dL_lease_4 : decode cL_lease 4 = .ok (.iload_n 1, 1) := by decide +kernel
theorem dL_lease_5 : decode cL_lease 5 = .ok (.iload_n 2, 1) := by decide +kernel
theorem dL_lease_6 : decode cL_lease 6 = .ok (.iload_n 3, 1) := by decide +kernel
theorem dL_lease_7 : decode cL_lease 7 = .ok (.iload 4, 2) := by decide +kernel
theorem dL_lease_9 : decode cL_lease 9 = .ok (.iload 5, 2) := by decide +kernel
theorem dL_lease_11 : decode cL_lease 11 = .ok (.iload 6, 2) := by decide +kernel
theorem dL_lease_13 : decode cL_lease 13 = .ok (.invokevirtual 98, 3) := by decide +kernel
theorem dL_lease_16 : decode cL_lease 16 = .ok (.i2l, 1) := by decide +kernel
theorem dL_lease_17 : decode cL_lease 17 = .ok (.lastore, 1) := by decide +kernel
theorem dL_lease_18 : decode cL_lease 18 = .ok (.goto 15, 3) := by decide +kernel
theorem dL_lease_21 : decode cL_lease 21 = .ok (.astore 8, 2) := by decide +kernel
theorem dL_lease_23 : decode cL_lease 23 = .ok (.iconst 1, 1) := by decide +kernel
theorem dL_lease_24 : decode cL_lease 24 = .ok (.ireturn, 1) := by decide +kernel
theorem dL_lease_25 : decode cL_lease 25 = .ok (.astore 8, 2) := by decide +kernel
theorem dL_lease_27 : decode cL_lease 27 = .ok (.iconst 2, 1) := by decide +kernel
theorem dL_lease_28 : decode cL_lease 28 = .ok (.ireturn, 1) := by decide +kernel
theorem dL_lease_29 : decode cL_lease 29 = .ok (.astore 8, 2) := by decide +kernel
theorem dL_lease_31 : decode cL_lease 31 = .ok (.iconst 3, 1) := by decide +kernel
theorem dL_lease_32 : decode cL_lease 32 = .ok (.ireturn, 1) := by decide +kernel
theorem dL_lease_33 : decode cL_lease 33 = .ok (.iconst 0, 1) := by decide +kernel
theorem dL_lease_34 : decode cL_lease 34 = .ok (.ireturn, 1) := by decide +kernel
theorem dL_endLease_0 : decode cL_endLease 0 = .ok (.aload_n 2, 1) := by decide +kernel
theorem dL_endLease_1 : decode cL_endLease 1 = .ok (.iconst 0, 1) := by decide +kernel
theorem dL_endLease_2 : decode cL_endLease 2 = .ok (.aload_n 0, 1) := by decide +kernel
theorem dL_endLease_3 : decode cL_endLease 3 = .ok (.iload_n 1, 1) := by decide +kernel
theorem dL_endLease_4 : decode cL_endLease 4 = .ok (.invokevirtual 102, 3) := by decide +kernel
theorem dL_endLease_7 : decode cL_endLease 7 = .ok (.i2l, 1) := by decide +kernel
theorem dL_endLease_8 : decode cL_endLease 8 = .ok (.lastore, 1) := by decide +kernel
theorem dL_endLease_9 : decode cL_endLease 9 = .ok (.goto 6, 3) := by decide +kernel
theorem dL_endLease_12 : decode cL_endLease 12 = .ok (.astore_n 3, 1) := by decide +kernel
theorem dL_endLease_13 : decode cL_endLease 13 = .ok (.iconst 1, 1) := by decide +kernel
theorem dL_endLease_14 : decode cL_endLease 14 = .ok (.ireturn, 1) := by decide +kernel
theorem dL_endLease_15 : decode cL_endLease 15 = .ok (.iconst 0, 1) := by decide +kernel
theorem dL_endLease_16 : decode cL_endLease 16 = .ok (.ireturn, 1) := by decide +kernel
theorem dL_release_0 : decode cL_release 0 = .ok (.aload 4, 2) := by decide +kernel
theorem dL_release_2 : decode cL_release 2 = .ok (.iconst 0, 1) := by decide +kernel
theorem dL_release_3 : decode cL_release 3 = .ok (.aload_n 0, 1) := by decide +kernel
theorem dL_release_4 : decode cL_release 4 = .ok (.iload_n 1, 1) := by decide +kernel
theorem dL_release_5 : decode cL_release 5 = .ok (.iload_n 2, 1) := by decide +kernel
theorem dL_release_6 : decode cL_release 6 = .ok (.iload_n 3, 1) := by decide +kernel
theorem dL_release_7 : decode cL_release 7 = .ok (.invokevirtual 105, 3) := by decide +kernel
theorem dL_release_10 : decode cL_release 10 = .ok (.i2l, 1) := by decide +kernel
theorem dL_release_11 : decode cL_release 11 = .ok (.lastore, 1) := by decide +kernel
theorem dL_release_12 : decode cL_release 12 = .ok (.goto 15, 3) := by decide +kernel
theorem dL_release_15 : decode cL_release 15 = .ok (.astore 5, 2) := by decide +kernel
theorem dL_release_17 : decode cL_release 17 = .ok (.iconst 1, 1) := by decide +kernel
theorem dL_release_18 : decode cL_release 18 = .ok (.ireturn, 1) := by decide +kernel
theorem dL_release_19 : decode cL_release 19 = .ok (.astore 5, 2) := by decide +kernel
theorem dL_release_21 : decode cL_release 21 = .ok (.iconst 2, 1) := by decide +kernel
theorem dL_release_22 : decode cL_release 22 = .ok (.ireturn, 1) := by decide +kernel
theorem dL_release_23 : decode cL_release 23 = .ok (.astore 5, 2) := by decide +kernel
theorem dL_release_25 : decode cL_release 25 = .ok (.iconst 3, 1) := by decide +kernel
theorem dL_release_26 : decode cL_release 26 = .ok (.ireturn, 1) := by decide +kernel
theorem dL_release_27 : decode cL_release 27 = .ok (.iconst 0, 1) := by decide +kernel
theorem dL_release_28 : decode cL_release 28 = .ok (.ireturn, 1) := by decide +kernel
theorem dL_setKeep_0 : decode cL_setKeep 0 = .ok (.aload_n 3, 1) := by decide +kernel
theorem dL_setKeep_1 : decode cL_setKeep 1 = .ok (.iconst 0, 1) := by decide +kernel
theorem dL_setKeep_2 : decode cL_setKeep 2 = .ok (.aload_n 0, 1) := by decide +kernel
theorem dL_setKeep_3 : decode cL_setKeep 3 = .ok (.iload_n 1, 1) := by decide +kernel
theorem dL_setKeep_4 : decode cL_setKeep 4 = .ok (.iload_n 2, 1) := by decide +kernel
theorem dL_setKeep_5 : decode cL_setKeep 5 = .ok (.invokevirtual 108, 3) := by decide +kernel
theorem dL_setKeep_8 : decode cL_setKeep 8 = .ok (.i2l, 1) := by decide +kernel
theorem dL_setKeep_9 : decode cL_setKeep 9 = .ok (.lastore, 1) := by decide +kernel
theorem dL_setKeep_10 : decode cL_setKeep 10 = .ok (.goto 11, 3) := by decide +kernel
theorem dL_setKeep_13 : decode cL_setKeep 13 = .ok (.astore 4, 2) := by decide +kernel
theorem dL_setKeep_15 : decode cL_setKeep 15 = .ok (.iconst 1, 1) := by decide +kernel
theorem dL_setKeep_16 : decode cL_setKeep 16 = .ok (.ireturn, 1) := by decide +kernel
theorem dL_setKeep_17 : decode cL_setKeep 17 = .ok (.astore 4, 2) := by decide +kernel
theorem dL_setKeep_19 : decode cL_setKeep 19 = .ok (.iconst 2, 1) := by decide +kernel
theorem dL_setKeep_20 : decode cL_setKeep 20 = .ok (.ireturn, 1) := by decide +kernel
theorem dL_setKeep_21 : decode cL_setKeep 21 = .ok (.iconst 0, 1) := by decide +kernel
theorem dL_setKeep_22 : decode cL_setKeep 22 = .ok (.ireturn, 1) := by decide +kernel
theorem dL_setMinimum_0 : decode cL_setMinimum 0 = .ok (.aload_n 3, 1) := by decide +kernel
theorem dL_setMinimum_1 : decode cL_setMinimum 1 = .ok (.iconst 0, 1) := by decide +kernel
theorem dL_setMinimum_2 : decode cL_setMinimum 2 = .ok (.aload_n 0, 1) := by decide +kernel
theorem dL_setMinimum_3 : decode cL_setMinimum 3 = .ok (.iload_n 1, 1) := by decide +kernel
theorem dL_setMinimum_4 : decode cL_setMinimum 4 = .ok (.iload_n 2, 1) := by decide +kernel
theorem dL_setMinimum_5 : decode cL_setMinimum 5 = .ok (.invokevirtual 111, 3) := by decide +kernel
theorem dL_setMinimum_8 : decode cL_setMinimum 8 = .ok (.i2l, 1) := by decide +kernel
theorem dL_setMinimum_9 : decode cL_setMinimum 9 = .ok (.lastore, 1) := by decide +kernel
theorem dL_setMinimum_10 : decode cL_setMinimum 10 = .ok (.goto 11, 3) := by decide +kernel
theorem dL_setMinimum_13 : decode cL_setMinimum 13 = .ok (.astore 4, 2) := by decide +kernel
theorem dL_setMinimum_15 : decode cL_setMinimum 15 = .ok (.iconst 1, 1) := by decide +kernel
theorem dL_setMinimum_16 : decode cL_setMinimum 16 = .ok (.ireturn, 1) := by decide +kernel
theorem dL_setMinimum_17 : decode cL_setMinimum 17 = .ok (.astore 4, 2) := by decide +kernel
theorem dL_setMinimum_19 : decode cL_setMinimum 19 = .ok (.iconst 2, 1) := by decide +kernel
theorem dL_setMinimum_20 : decode cL_setMinimum 20 = .ok (.ireturn, 1) := by decide +kernel
theorem dL_setMinimum_21 : decode cL_setMinimum 21 = .ok (.iconst 0, 1) := by decide +kernel
theorem dL_setMinimum_22 : decode cL_setMinimum 22 = .ok (.ireturn, 1) := by decide +kernel
theorem dL_transfer_0 : decode cL_transfer 0 = .ok (.aload 4, 2) := by decide +kernel
theorem dL_transfer_2 : decode cL_transfer 2 = .ok (.iconst 0, 1) := by decide +kernel
theorem dL_transfer_3 : decode cL_transfer 3 = .ok (.aload_n 0, 1) := by decide +kernel
theorem dL_transfer_4 : decode cL_transfer 4 = .ok (.iload_n 1, 1) := by decide +kernel
theorem dL_transfer_5 : decode cL_transfer 5 = .ok (.iload_n 2, 1) := by decide +kernel
theorem dL_transfer_6 : decode cL_transfer 6 = .ok (.iload_n 3, 1) := by decide +kernel
theorem dL_transfer_7 : decode cL_transfer 7 = .ok (.invokevirtual 114, 3) := by decide +kernel
theorem dL_transfer_10 : decode cL_transfer 10 = .ok (.i2l, 1) := by decide +kernel
theorem dL_transfer_11 : decode cL_transfer 11 = .ok (.lastore, 1) := by decide +kernel
theorem dL_transfer_12 : decode cL_transfer 12 = .ok (.goto 11, 3) := by decide +kernel
theorem dL_transfer_15 : decode cL_transfer 15 = .ok (.astore 5, 2) := by decide +kernel
theorem dL_transfer_17 : decode cL_transfer 17 = .ok (.iconst 1, 1) := by decide +kernel
theorem dL_transfer_18 : decode cL_transfer 18 = .ok (.ireturn, 1) := by decide +kernel
theorem dL_transfer_19 : decode cL_transfer 19 = .ok (.astore 5, 2) := by decide +kernel
theorem dL_transfer_21 : decode cL_transfer 21 = .ok (.iconst 2, 1) := by decide +kernel
theorem dL_transfer_22 : decode cL_transfer 22 = .ok (.ireturn, 1) := by decide +kernel
theorem dL_transfer_23 : decode cL_transfer 23 = .ok (.iconst 0, 1) := by decide +kernel
theorem dL_transfer_24 : decode cL_transfer 24 = .ok (.ireturn, 1) := by decide +kernel
theorem dL_swap_0 : decode cL_swap 0 = .ok (.aload_n 3, 1) := by decide +kernel
theorem dL_swap_1 : decode cL_swap 1 = .ok (.iconst 0, 1) := by decide +kernel
theorem dL_swap_2 : decode cL_swap 2 = .ok (.aload_n 0, 1) := by decide +kernel
theorem dL_swap_3 : decode cL_swap 3 = .ok (.iload_n 1, 1) := by decide +kernel
theorem dL_swap_4 : decode cL_swap 4 = .ok (.iload_n 2, 1) := by decide +kernel
theorem dL_swap_5 : decode cL_swap 5 = .ok (.invokevirtual 117, 3) := by decide +kernel
theorem dL_swap_8 : decode cL_swap 8 = .ok (.i2l, 1) := by decide +kernel
theorem dL_swap_9 : decode cL_swap 9 = .ok (.lastore, 1) := by decide +kernel
theorem dL_swap_10 : decode cL_swap 10 = .ok (.goto 11, 3) := by decide +kernel
theorem dL_swap_13 : decode cL_swap 13 = .ok (.astore 4, 2) := by decide +kernel
theorem dL_swap_15 : decode cL_swap 15 = .ok (.iconst 1, 1) := by decide +kernel
theorem dL_swap_16 : decode cL_swap 16 = .ok (.ireturn, 1) := by decide +kernel
theorem dL_swap_17 : decode cL_swap 17 = .ok (.astore 4, 2) := by decide +kernel
theorem dL_swap_19 : decode cL_swap 19 = .ok (.iconst 2, 1) := by decide +kernel
theorem dL_swap_20 : decode cL_swap 20 = .ok (.ireturn, 1) := by decide +kernel
theorem dL_swap_21 : decode cL_swap 21 = .ok (.iconst 0, 1) := by decide +kernel
theorem dL_swap_22 : decode cL_swap 22 = .ok (.ireturn, 1) := by decide +kernel
theorem dL_save_0 : decode cL_save 0 = .ok (.aload_n 2, 1) := by decide +kernel
theorem dL_save_1 : decode cL_save 1 = .ok (.iconst 0, 1) := by decide +kernel
theorem dL_save_2 : decode cL_save 2 = .ok (.aload_n 0, 1) := by decide +kernel
theorem dL_save_3 : decode cL_save 3 = .ok (.iload_n 1, 1) := by decide +kernel
theorem dL_save_4 : decode cL_save 4 = .ok (.invokevirtual 120, 3) := by decide +kernel
theorem dL_save_7 : decode cL_save 7 = .ok (.ifCond .eq 7, 3) := by decide +kernel
theorem dL_save_10 : decode cL_save 10 = .ok (.lconst 1, 1) := by decide +kernel
theorem dL_save_11 : decode cL_save 11 = .ok (.goto 4, 3) := by decide +kernel
theorem dL_save_14 : decode cL_save 14 = .ok (.lconst 0, 1) := by decide +kernel
theorem dL_save_15 : decode cL_save 15 = .ok (.lastore, 1) := by decide +kernel
theorem dL_save_16 : decode cL_save 16 = .ok (.goto 6, 3) := by decide +kernel
theorem dL_save_19 : decode cL_save 19 = .ok (.astore_n 3, 1) := by decide +kernel
theorem dL_save_20 : decode cL_save 20 = .ok (.iconst 1, 1) := by decide +kernel
theorem dL_save_21 : decode cL_save 21 = .ok (.ireturn, 1) := by decide +kernel
theorem dL_save_22 : decode cL_save 22 = .ok (.iconst 0, 1) := by decide +kernel
theorem dL_save_23 : decode cL_save 23 = .ok (.ireturn, 1) := by decide +kernel
theorem dL_restore_0 : decode cL_restore 0 = .ok (.aload_n 2, 1) := by decide +kernel
theorem dL_restore_1 : decode cL_restore 1 = .ok (.iconst 0, 1) := by decide +kernel
theorem dL_restore_2 : decode cL_restore 2 = .ok (.aload_n 0, 1) := by decide +kernel
theorem dL_restore_3 : decode cL_restore 3 = .ok (.iload_n 1, 1) := by decide +kernel
theorem dL_restore_4 : decode cL_restore 4 = .ok (.invokevirtual 124, 3) := by decide +kernel
theorem dL_restore_7 : decode cL_restore 7 = .ok (.i2l, 1) := by decide +kernel
theorem dL_restore_8 : decode cL_restore 8 = .ok (.lastore, 1) := by decide +kernel
theorem dL_restore_9 : decode cL_restore 9 = .ok (.goto 9, 3) := by decide +kernel
theorem dL_restore_12 : decode cL_restore 12 = .ok (.astore_n 3, 1) := by decide +kernel
theorem dL_restore_13 : decode cL_restore 13 = .ok (.iconst 1, 1) := by decide +kernel
theorem dL_restore_14 : decode cL_restore 14 = .ok (.ireturn, 1) := by decide +kernel
theorem dL_restore_15 : decode cL_restore 15 = .ok (.astore_n 3, 1) := by decide +kernel
theorem dL_restore_16 : decode cL_restore 16 = .ok (.iconst 2, 1) := by decide +kernel
theorem dL_restore_17 : decode cL_restore 17 = .ok (.ireturn, 1) := by decide +kernel
theorem dL_restore_18 : decode cL_restore 18 = .ok (.iconst 0, 1) := by decide +kernel
theorem dL_restore_19 : decode cL_restore 19 = .ok (.ireturn, 1) := by decide +kernel
