theorem dX3_count_85 : decode cX3_count 85 = .ok (.getfield 101, 3) := by decide +kernel
theorem dX3_count_88 : decode cX3_count 88 = .ok (.getfield 84, 3) := by decide +kernel
theorem dX3_count_91 : decode cX3_count 91 = .ok (.ireturn, 1) := by decide +kernel
theorem dX3_count_92 : decode cX3_count 92 = .ok (.aload_n 0, 1) := by decide +kernel
theorem dX3_count_93 : decode cX3_count 93 = .ok (.getfield 10, 3) := by decide +kernel
theorem dX3_count_96 : decode cX3_count 96 = .ok (.getfield 104, 3) := by decide +kernel
theorem dX3_count_99 : decode cX3_count 99 = .ok (.getfield 84, 3) := by decide +kernel
theorem dX3_count_102 : decode cX3_count 102 = .ok (.ireturn, 1) := by decide +kernel
theorem dX3_count_103 : decode cX3_count 103 = .ok (.aload_n 0, 1) := by decide +kernel
theorem dX3_count_104 : decode cX3_count 104 = .ok (.getfield 10, 3) := by decide +kernel
theorem dX3_count_107 : decode cX3_count 107 = .ok (.getfield 107, 3) := by decide +kernel
theorem dX3_count_110 : decode cX3_count 110 = .ok (.ireturn, 1) := by decide +kernel
theorem dX3_count_111 : decode cX3_count 111 = .ok (.aload_n 0, 1) := by decide +kernel
theorem dX3_count_112 : decode cX3_count 112 = .ok (.getfield 10, 3) := by decide +kernel
theorem dX3_count_115 : decode cX3_count 115 = .ok (.getfield 110, 3) := by decide +kernel
theorem dX3_count_118 : decode cX3_count 118 = .ok (.ireturn, 1) := by decide +kernel
theorem dX3_count_119 : decode cX3_count 119 = .ok (.aload_n 0, 1) := by decide +kernel
theorem dX3_count_120 : decode cX3_count 120 = .ok (.getfield 10, 3) := by decide +kernel
theorem dX3_count_123 : decode cX3_count 123 = .ok (.getfield 113, 3) := by decide +kernel
theorem dX3_count_126 : decode cX3_count 126 = .ok (.ireturn, 1) := by decide +kernel
theorem dX3_count_127 : decode cX3_count 127 = .ok (.new 116, 3) := by decide +kernel
theorem dX3_count_130 : decode cX3_count 130 = .ok (.dup, 1) := by decide +kernel
theorem dX3_count_131 : decode cX3_count 131 = .ok (.ldc 118, 2) := by decide +kernel
theorem dX3_count_133 : decode cX3_count 133 = .ok (.invokespecial 120, 3) := by decide +kernel
theorem dX3_count_136 : decode cX3_count 136 = .ok (.athrow, 1) := by decide +kernel
theorem dX3_season_0 : decode cX3_season 0 = .ok (.iload_n 1, 1) := by decide +kernel
theorem dX3_season_1 : decode cX3_season 1 = .ok (.bipush 12, 2) := by decide +kernel
theorem dX3_season_3 : decode cX3_season 3 = .ok (.invokestatic 121, 3) := by decide +kernel
theorem dX3_season_6 : decode cX3_season 6 = .ok (.aload_n 0, 1) := by decide +kernel
theorem dX3_season_7 : decode cX3_season 7 = .ok (.getfield 10, 3) := by decide +kernel
theorem dX3_season_10 : decode cX3_season 10 = .ok (.iload_n 1, 1) := by decide +kernel
theorem dX3_season_11 : decode cX3_season 11 = .ok (.invokevirtual 125, 3) := by decide +kernel
theorem dX3_season_14 : decode cX3_season 14 = .ok (.ireturn, 1) := by decide +kernel
theorem dX3_yearPercent_0 : decode cX3_yearPercent 0 = .ok (.iload_n 1, 1) := by decide +kernel
theorem dX3_yearPercent_1 : decode cX3_yearPercent 1 = .ok (.ifCond .ge 13, 3) := by decide +kernel
theorem dX3_yearPercent_4 : decode cX3_yearPercent 4 = .ok (.new 116, 3) := by decide +kernel
theorem dX3_yearPercent_7 : decode cX3_yearPercent 7 = .ok (.dup, 1) := by decide +kernel
theorem dX3_yearPercent_8 : decode cX3_yearPercent 8 = .ok (.ldc 129, 2) := by decide +kernel
theorem dX3_yearPercent_10 : decode cX3_yearPercent 10 = .ok (.invokespecial 120, 3) := by decide +kernel
theorem dX3_yearPercent_13 : decode cX3_yearPercent 13 = .ok (.athrow, 1) := by decide +kernel
theorem dX3_yearPercent_14 : decode cX3_yearPercent 14 = .ok (.aload_n 0, 1) := by decide +kernel
theorem dX3_yearPercent_15 : decode cX3_yearPercent 15 = .ok (.getfield 10, 3) := by decide +kernel
theorem dX3_yearPercent_18 : decode cX3_yearPercent 18 = .ok (.iload_n 1, 1) := by decide +kernel
theorem dX3_yearPercent_19 : decode cX3_yearPercent 19 = .ok (.invokevirtual 131, 3) := by decide +kernel
theorem dX3_yearPercent_22 : decode cX3_yearPercent 22 = .ok (.ireturn, 1) := by decide +kernel
theorem dX3_reach_0 : decode cX3_reach 0 = .ok (.aload_n 0, 1) := by decide +kernel
theorem dX3_reach_1 : decode cX3_reach 1 = .ok (.getfield 10, 3) := by decide +kernel
theorem dX3_reach_4 : decode cX3_reach 4 = .ok (.getfield 95, 3) := by decide +kernel
theorem dX3_reach_7 : decode cX3_reach 7 = .ok (.iload_n 1, 1) := by decide +kernel
theorem dX3_reach_8 : decode cX3_reach 8 = .ok (.invokestatic 134, 3) := by decide +kernel
theorem dX3_reach_11 : decode cX3_reach 11 = .ok (.iload_n 2, 1) := by decide +kernel
theorem dX3_reach_12 : decode cX3_reach 12 = .ok (.iconst 3, 1) := by decide +kernel
theorem dX3_reach_13 : decode cX3_reach 13 = .ok (.invokestatic 121, 3) := by decide +kernel
theorem dX3_reach_16 : decode cX3_reach 16 = .ok (.aload_n 0, 1) := by decide +kernel
theorem dX3_reach_17 : decode cX3_reach 17 = .ok (.getfield 10, 3) := by decide +kernel
theorem dX3_reach_20 : decode cX3_reach 20 = .ok (.getfield 95, 3) := by decide +kernel
theorem dX3_reach_23 : decode cX3_reach 23 = .ok (.iload_n 1, 1) := by decide +kernel
theorem dX3_reach_24 : decode cX3_reach 24 = .ok (.iload_n 2, 1) := by decide +kernel
theorem dX3_reach_25 : decode cX3_reach 25 = .ok (.invokevirtual 138, 3) := by decide +kernel
theorem dX3_reach_28 : decode cX3_reach 28 = .ok (.ireturn, 1) := by decide +kernel
theorem dX3_coming_0 : decode cX3_coming 0 = .ok (.aload_n 0, 1) := by decide +kernel
theorem dX3_coming_1 : decode cX3_coming 1 = .ok (.getfield 10, 3) := by decide +kernel
theorem dX3_coming_4 : decode cX3_coming 4 = .ok (.getfield 95, 3) := by decide +kernel
theorem dX3_coming_7 : decode cX3_coming 7 = .ok (.iload_n 1, 1) := by decide +kernel
theorem dX3_coming_8 : decode cX3_coming 8 = .ok (.invokestatic 134, 3) := by decide +kernel
theorem dX3_coming_11 : decode cX3_coming 11 = .ok (.aload_n 0, 1) := by decide +kernel
theorem dX3_coming_12 : decode cX3_coming 12 = .ok (.getfield 10, 3) := by decide +kernel
theorem dX3_coming_15 : decode cX3_coming 15 = .ok (.iload_n 1, 1) := by decide +kernel
theorem dX3_coming_16 : decode cX3_coming 16 = .ok (.invokevirtual 142, 3) := by decide +kernel
theorem dX3_coming_19 : decode cX3_coming 19 = .ok (.ireturn, 1) := by decide +kernel
theorem dX3_balance_0 : decode cX3_balance 0 = .ok (.aload_n 0, 1) := by decide +kernel
theorem dX3_balance_1 : decode cX3_balance 1 = .ok (.getfield 10, 3) := by decide +kernel
theorem dX3_balance_4 : decode cX3_balance 4 = .ok (.getfield 98, 3) := by decide +kernel
theorem dX3_balance_7 : decode cX3_balance 7 = .ok (.iload_n 1, 1) := by decide +kernel
theorem dX3_balance_8 : decode cX3_balance 8 = .ok (.invokestatic 134, 3) := by decide +kernel
theorem dX3_balance_11 : decode cX3_balance 11 = .ok (.aload_n 0, 1) := by decide +kernel
theorem dX3_balance_12 : decode cX3_balance 12 = .ok (.getfield 10, 3) := by decide +kernel
theorem dX3_balance_15 : decode cX3_balance 15 = .ok (.iload_n 1, 1) := by decide +kernel
theorem dX3_balance_16 : decode cX3_balance 16 = .ok (.invokevirtual 145, 3) := by decide +kernel
theorem dX3_balance_19 : decode cX3_balance 19 = .ok (.lreturn, 1) := by decide +kernel
theorem dX3_bank_0 : decode cX3_bank 0 = .ok (.aload_n 0, 1) := by decide +kernel
theorem dX3_bank_1 : decode cX3_bank 1 = .ok (.getfield 10, 3) := by decide +kernel
theorem dX3_bank_4 : decode cX3_bank 4 = .ok (.getfield 98, 3) := by decide +kernel
theorem dX3_bank_7 : decode cX3_bank 7 = .ok (.iload_n 1, 1) := by decide +kernel
theorem dX3_bank_8 : decode cX3_bank 8 = .ok (.invokestatic 134, 3) := by decide +kernel
theorem dX3_bank_11 : decode cX3_bank 11 = .ok (.aload_n 0, 1) := by decide +kernel
theorem dX3_bank_12 : decode cX3_bank 12 = .ok (.getfield 10, 3) := by decide +kernel
theorem dX3_bank_15 : decode cX3_bank 15 = .ok (.getfield 98, 3) := by decide +kernel
theorem dX3_bank_18 : decode cX3_bank 18 = .ok (.iload_n 1, 1) := by decide +kernel
theorem dX3_bank_19 : decode cX3_bank 19 = .ok (.iconst 0, 1) := by decide +kernel
theorem dX3_bank_20 : decode cX3_bank 20 = .ok (.invokevirtual 138, 3) := by decide +kernel
theorem dX3_bank_23 : decode cX3_bank 23 = .ok (.ireturn, 1) := by decide +kernel
theorem dX3_right_0 : decode cX3_right 0 = .ok (.aload_n 0, 1) := by decide +kernel
theorem dX3_right_1 : decode cX3_right 1 = .ok (.getfield 10, 3) := by decide +kernel
theorem dX3_right_4 : decode cX3_right 4 = .ok (.getfield 80, 3) := by decide +kernel
theorem dX3_right_7 : decode cX3_right 7 = .ok (.iload_n 1, 1) := by decide +kernel
theorem dX3_right_8 : decode cX3_right 8 = .ok (.invokestatic 134, 3) := by decide +kernel
theorem dX3_right_11 : decode cX3_right 11 = .ok (.iload_n 2, 1) := by decide +kernel
theorem dX3_right_12 : decode cX3_right 12 = .ok (.bipush 10, 2) := by decide +kernel
theorem dX3_right_14 : decode cX3_right 14 = .ok (.invokestatic 121, 3) := by decide +kernel
theorem dX3_right_17 : decode cX3_right 17 = .ok (.aload_n 0, 1) := by decide +kernel
theorem dX3_right_18 : decode cX3_right 18 = .ok (.getfield 10, 3) := by decide +kernel
theorem dX3_right_21 : decode cX3_right 21 = .ok (.getfield 80, 3) := by decide +kernel
theorem dX3_right_24 : decode cX3_right 24 = .ok (.iload_n 1, 1) := by decide +kernel
theorem dX3_right_25 : decode cX3_right 25 = .ok (.iload_n 2, 1) := by decide +kernel
theorem dX3_right_26 : decode cX3_right 26 = .ok (.invokevirtual 138, 3) := by decide +kernel
theorem dX3_right_29 : decode cX3_right 29 = .ok (.ireturn, 1) := by decide +kernel
theorem dX3_bySeniority_0 : decode cX3_bySeniority 0 = .ok (.aload_n 0, 1) := by decide +kernel
theorem dX3_bySeniority_1 : decode cX3_bySeniority 1 = .ok (.getfield 10, 3) := by decide +kernel
theorem dX3_bySeniority_4 : decode cX3_bySeniority 4 = .ok (.iload_n 1, 1) := by decide +kernel
theorem dX3_bySeniority_5 : decode cX3_bySeniority 5 = .ok (.invokevirtual 149, 3) := by decide +kernel
theorem dX3_bySeniority_8 : decode cX3_bySeniority 8 = .ok (.ireturn, 1) := by decide +kernel
theorem dX3_leaseField_0 : decode cX3_leaseField 0 = .ok (.aload_n 0, 1) := by decide +kernel
theorem dX3_leaseField_1 : decode cX3_leaseField 1 = .ok (.getfield 10, 3) := by decide +kernel
theorem dX3_leaseField_4 : decode cX3_leaseField 4 = .ok (.getfield 101, 3) := by decide +kernel
theorem dX3_leaseField_7 : decode cX3_leaseField 7 = .ok (.iload_n 1, 1) := by decide +kernel
theorem dX3_leaseField_8 : decode cX3_leaseField 8 = .ok (.invokestatic 134, 3) := by decide +kernel
theorem dX3_leaseField_11 : decode cX3_leaseField 11 = .ok (.iload_n 2, 1) := by decide +kernel
theorem dX3_leaseField_12 : decode cX3_leaseField 12 = .ok (.bipush 6, 2) := by decide +kernel
theorem dX3_leaseField_14 : decode cX3_leaseField 14 = .ok (.invokestatic 121, 3) := by decide +kernel
theorem dX3_leaseField_17 : decode cX3_leaseField 17 = .ok (.aload_n 0, 1) := by decide +kernel
theorem dX3_leaseField_18 : decode cX3_leaseField 18 = .ok (.getfield 10, 3) := by decide +kernel
theorem dX3_leaseField_21 : decode cX3_leaseField 21 = .ok (.getfield 101, 3) := by decide +kernel
theorem dX3_leaseField_24 : decode cX3_leaseField 24 = .ok (.iload_n 1, 1) := by decide +kernel
theorem dX3_leaseField_25 : decode cX3_leaseField 25 = .ok (.iload_n 2, 1) := by decide +kernel
theorem dX3_leaseField_26 : decode cX3_leaseField 26 = .ok (.invokevirtual 138, 3) := by decide +kernel
theorem dX3_leaseField_29 : decode cX3_leaseField 29 = .ok (.ireturn, 1) := by decide +kernel
theorem dX3_optionField_0 : decode cX3_optionField 0 = .ok (.aload_n 0, 1) := by decide +kernel
theorem dX3_optionField_1 : decode cX3_optionField 1 = .ok (.getfield 10, 3) := by decide +kernel
theorem dX3_optionField_4 : decode cX3_optionField 4 = .ok (.getfield 104, 3) := by decide +kernel
theorem dX3_optionField_7 : decode cX3_optionField 7 = .ok (.iload_n 1, 1) := by decide +kernel
theorem dX3_optionField_8 : decode cX3_optionField 8 = .ok (.invokestatic 134, 3) := by decide +kernel
theorem dX3_optionField_11 : decode cX3_optionField 11 = .ok (.iload_n 2, 1) := by decide +kernel
theorem dX3_optionField_12 : decode cX3_optionField 12 = .ok (.bipush 7, 2) := by decide +kernel
theorem dX3_optionField_14 : decode cX3_optionField 14 = .ok (.invokestatic 121, 3) := by decide +kernel
theorem dX3_optionField_17 : decode cX3_optionField 17 = .ok (.iload_n 2, 1) := by decide +kernel
theorem dX3_optionField_18 : decode cX3_optionField 18 = .ok (.bipush 6, 2) := by decide +kernel
theorem dX3_optionField_20 : decode cX3_optionField 20 = .ok (.if_icmp .ne 27, 3) := by decide +kernel
theorem dX3_optionField_23 : decode cX3_optionField 23 = .ok (.aload_n 0, 1) := by decide +kernel
theorem dX3_optionField_24 : decode cX3_optionField 24 = .ok (.getfield 10, 3) := by decide +kernel
theorem dX3_optionField_27 : decode cX3_optionField 27 = .ok (.iload_n 1, 1) := by decide +kernel
theorem dX3_optionField_28 : decode cX3_optionField 28 = .ok (.aload_n 0, 1) := by decide +kernel
theorem dX3_optionField_29 : decode cX3_optionField 29 = .ok (.getfield 10, 3) := by decide +kernel
theorem dX3_optionField_32 : decode cX3_optionField 32 = .ok (.getfield 107, 3) := by decide +kernel
theorem dX3_optionField_35 : decode cX3_optionField 35 = .ok (.invokevirtual 152, 3) := by decide +kernel
theorem dX3_optionField_38 : decode cX3_optionField 38 = .ok (.ifCond .eq 7, 3) := by decide +kernel
theorem dX3_optionField_41 : decode cX3_optionField 41 = .ok (.iconst 1, 1) := by decide +kernel
theorem dX3_optionField_42 : decode cX3_optionField 42 = .ok (.goto 4, 3) := by decide +kernel
theorem dX3_optionField_45 : decode cX3_optionField 45 = .ok (.iconst 0, 1) := by decide +kernel
theorem dX3_optionField_46 : decode cX3_optionField 46 = .ok (.ireturn, 1) := by decide +kernel
theorem dX3_optionField_47 : decode cX3_optionField 47 = .ok (.aload_n 0, 1) := by decide +kernel
theorem dX3_optionField_48 : decode cX3_optionField 48 = .ok (.getfield 10, 3) := by decide +kernel
theorem dX3_optionField_51 : decode cX3_optionField 51 = .ok (.getfield 104, 3) := by decide +kernel
theorem dX3_optionField_54 : decode cX3_optionField 54 = .ok (.iload_n 1, 1) := by decide +kernel
theorem dX3_optionField_55 : decode cX3_optionField 55 = .ok (.iload_n 2, 1) := by decide +kernel
theorem dX3_optionField_56 : decode cX3_optionField 56 = .ok (.invokevirtual 138, 3) := by decide +kernel
theorem dX3_optionField_59 : decode cX3_optionField 59 = .ok (.ireturn, 1) := by decide +kernel
theorem dX3_claims_0 : decode cX3_claims 0 = .ok (.aload_n 0, 1) := by decide +kernel
theorem dX3_claims_1 : decode cX3_claims 1 = .ok (.getfield 10, 3) := by decide +kernel
theorem dX3_claims_4 : decode cX3_claims 4 = .ok (.getfield 156, 3) := by decide +kernel
theorem dX3_claims_7 : decode cX3_claims 7 = .ok (.getfield 84, 3) := by decide +kernel
theorem dX3_claims_10 : decode cX3_claims 10 = .ok (.ireturn, 1) := by decide +kernel
theorem dX3_claim_0 : decode cX3_claim 0 = .ok (.aload_n 0, 1) := by decide +kernel
theorem dX3_claim_1 : decode cX3_claim 1 = .ok (.getfield 10, 3) := by decide +kernel
theorem dX3_claim_4 : decode cX3_claim 4 = .ok (.getfield 156, 3) := by decide +kernel
theorem dX3_claim_7 : decode cX3_claim 7 = .ok (.iload_n 1, 1) := by decide +kernel
theorem dX3_claim_8 : decode cX3_claim 8 = .ok (.invokestatic 134, 3) := by decide +kernel
theorem dX3_claim_11 : decode cX3_claim 11 = .ok (.iload_n 2, 1) := by decide +kernel
theorem dX3_claim_12 : decode cX3_claim 12 = .ok (.bipush 8, 2) := by decide +kernel
theorem dX3_claim_14 : decode cX3_claim 14 = .ok (.invokestatic 121, 3) := by decide +kernel
theorem dX3_claim_17 : decode cX3_claim 17 = .ok (.aload_n 0, 1) := by decide +kernel
theorem dX3_claim_18 : decode cX3_claim 18 = .ok (.getfield 10, 3) := by decide +kernel
theorem dX3_claim_21 : decode cX3_claim 21 = .ok (.getfield 156, 3) := by decide +kernel
theorem dX3_claim_24 : decode cX3_claim 24 = .ok (.iload_n 1, 1) := by decide +kernel
theorem dX3_claim_25 : decode cX3_claim 25 = .ok (.iload_n 2, 1) := by decide +kernel
theorem dX3_claim_26 : decode cX3_claim 26 = .ok (.invokevirtual 138, 3) := by decide +kernel
theorem dX3_claim_29 : decode cX3_claim 29 = .ok (.ireturn, 1) := by decide +kernel
theorem dX3_gauge_0 : decode cX3_gauge 0 = .ok (.aload_n 0, 1) := by decide +kernel
theorem dX3_gauge_1 : decode cX3_gauge 1 = .ok (.getfield 10, 3) := by decide +kernel
theorem dX3_gauge_4 : decode cX3_gauge 4 = .ok (.getfield 95, 3) := by decide +kernel
theorem dX3_gauge_7 : decode cX3_gauge 7 = .ok (.iload_n 1, 1) := by decide +kernel
theorem dX3_gauge_8 : decode cX3_gauge 8 = .ok (.invokestatic 134, 3) := by decide +kernel
theorem dX3_gauge_11 : decode cX3_gauge 11 = .ok (.iload_n 2, 1) := by decide +kernel
theorem dX3_gauge_12 : decode cX3_gauge 12 = .ok (.iconst 5, 1) := by decide +kernel
theorem dX3_gauge_13 : decode cX3_gauge 13 = .ok (.invokestatic 121, 3) := by decide +kernel
theorem dX3_gauge_16 : decode cX3_gauge 16 = .ok (.aload_n 0, 1) := by decide +kernel
theorem dX3_gauge_17 : decode cX3_gauge 17 = .ok (.getfield 10, 3) := by decide +kernel
theorem dX3_gauge_20 : decode cX3_gauge 20 = .ok (.getfield 159, 3) := by decide +kernel
theorem dX3_gauge_23 : decode cX3_gauge 23 = .ok (.iload_n 1, 1) := by decide +kernel
theorem dX3_gauge_24 : decode cX3_gauge 24 = .ok (.iload_n 2, 1) := by decide +kernel
theorem dX3_gauge_25 : decode cX3_gauge 25 = .ok (.invokevirtual 138, 3) := by decide +kernel
theorem dX3_gauge_28 : decode cX3_gauge 28 = .ok (.ireturn, 1) := by decide +kernel
theorem dX3_call_0 : decode cX3_call 0 = .ok (.aload_n 0, 1) := by decide +kernel
theorem dX3_call_1 : decode cX3_call 1 = .ok (.getfield 10, 3) := by decide +kernel
theorem dX3_call_4 : decode cX3_call 4 = .ok (.iconst 0, 1) := by decide +kernel
theorem dX3_call_5 : decode cX3_call 5 = .ok (.iconst 3, 1) := by decide +kernel
theorem dX3_call_6 : decode cX3_call 6 = .ok (.invokevirtual 162, 3) := by decide +kernel
theorem dX3_call_9 : decode cX3_call 9 = .ok (.ireturn, 1) := by decide +kernel
theorem dX3_dryGauges_0 : decode cX3_dryGauges 0 = .ok (.iconst 0, 1) := by decide +kernel
theorem dX3_dryGauges_1 : decode cX3_dryGauges 1 = .ok (.istore_n 1, 1) := by decide +kernel
theorem dX3_dryGauges_2 : decode cX3_dryGauges 2 = .ok (.iconst 0, 1) := by decide +kernel
theorem dX3_dryGauges_3 : decode cX3_dryGauges 3 = .ok (.istore_n 2, 1) := by decide +kernel
theorem dX3_dryGauges_4 : decode cX3_dryGauges 4 = .ok (.iload_n 2, 1) := by decide +kernel
theorem dX3_dryGauges_5 : decode cX3_dryGauges 5 = .ok (.aload_n 0, 1) := by decide +kernel
theorem dX3_dryGauges_6 : decode cX3_dryGauges 6 = .ok (.getfield 10, 3) := by decide +kernel
theorem dX3_dryGauges_9 : decode cX3_dryGauges 9 = .ok (.getfield 159, 3) := by decide +kernel
theorem dX3_dryGauges_12 : decode cX3_dryGauges 12 = .ok (.getfield 84, 3) := by decide +kernel
theorem dX3_dryGauges_15 : decode cX3_dryGauges 15 = .ok (.if_icmp .ge 42, 3) := by decide +kernel
theorem dX3_dryGauges_18 : decode cX3_dryGauges 18 = .ok (.aload_n 0, 1) := by decide +kernel
theorem dX3_dryGauges_19 : decode cX3_dryGauges 19 = .ok (.getfield 10, 3) := by decide +kernel
theorem dX3_dryGauges_22 : decode cX3_dryGauges 22 = .ok (.getfield 159, 3) := by decide +kernel
theorem dX3_dryGauges_25 : decode cX3_dryGauges 25 = .ok (.iload_n 2, 1) := by decide +kernel
theorem dX3_dryGauges_26 : decode cX3_dryGauges 26 = .ok (.iconst 2, 1) := by decide +kernel
theorem dX3_dryGauges_27 : decode cX3_dryGauges 27 = .ok (.invokevirtual 138, 3) := by decide +kernel
theorem dX3_dryGauges_30 : decode cX3_dryGauges 30 = .ok (.aload_n 0, 1) := by decide +kernel
theorem dX3_dryGauges_31 : decode cX3_dryGauges 31 = .ok (.getfield 10, 3) := by decide +kernel
theorem dX3_dryGauges_34 : decode cX3_dryGauges 34 = .ok (.getfield 95, 3) := by decide +kernel
theorem dX3_dryGauges_37 : decode cX3_dryGauges 37 = .ok (.iload_n 2, 1) := by decide +kernel
theorem dX3_dryGauges_38 : decode cX3_dryGauges 38 = .ok (.iconst 1, 1) := by decide +kernel
theorem dX3_dryGauges_39 : decode cX3_dryGauges 39 = .ok (.invokevirtual 138, 3) := by decide +kernel
theorem dX3_dryGauges_42 : decode cX3_dryGauges 42 = .ok (.if_icmp .ge 9, 3) := by decide +kernel
theorem dX3_dryGauges_45 : decode cX3_dryGauges 45 = .ok (.iload_n 1, 1) := by decide +kernel
theorem dX3_dryGauges_46 : decode cX3_dryGauges 46 = .ok (.iconst 1, 1) := by decide +kernel
theorem dX3_dryGauges_47 : decode cX3_dryGauges 47 = .ok (.iload_n 2, 1) := by decide +kernel
theorem dX3_dryGauges_48 : decode cX3_dryGauges 48 = .ok (.ishl, 1) := by decide +kernel
theorem dX3_dryGauges_49 : decode cX3_dryGauges 49 = .ok (.ior, 1) := by decide +kernel
theorem dX3_dryGauges_50 : decode cX3_dryGauges 50 = .ok (.istore_n 1, 1) := by decide +kernel
theorem dX3_dryGauges_51 : decode cX3_dryGauges 51 = .ok (.iinc 2 1, 3) := by decide +kernel
theorem dX3_dryGauges_54 : decode cX3_dryGauges 54 = .ok (.goto (-50), 3) := by decide +kernel
theorem dX3_dryGauges_57 : decode cX3_dryGauges 57 = .ok (.iload_n 1, 1) := by decide +kernel
theorem dX3_dryGauges_58 : decode cX3_dryGauges 58 = .ok (.ireturn, 1) := by decide +kernel
theorem dX3_served_0 : decode cX3_served 0 = .ok (.aload_n 0, 1) := by decide +kernel
theorem dX3_served_1 : decode cX3_served 1 = .ok (.getfield 10, 3) := by decide +kernel
theorem dX3_served_4 : decode cX3_served 4 = .ok (.getfield 156, 3) := by decide +kernel
theorem dX3_served_7 : decode cX3_served 7 = .ok (.iconst 4, 1) := by decide +kernel
theorem dX3_served_8 : decode cX3_served 8 = .ok (.invokevirtual 165, 3) := by decide +kernel
theorem dX3_served_11 : decode cX3_served 11 = .ok (.istore_n 1, 1) := by decide +kernel
theorem dX3_served_12 : decode cX3_served 12 = .ok (.iload_n 1, 1) := by decide +kernel
theorem dX3_served_13 : decode cX3_served 13 = .ok (.ifCond .ne 5, 3) := by decide +kernel
theorem dX3_served_16 : decode cX3_served 16 = .ok (.dconst 1, 1) := by decide +kernel
theorem dX3_served_17 : decode cX3_served 17 = .ok (.dreturn, 1) := by decide +kernel
theorem dX3_served_18 : decode cX3_served 18 = .ok (.aload_n 0, 1) := by decide +kernel
theorem dX3_served_19 : decode cX3_served 19 = .ok (.getfield 10, 3) := by decide +kernel
theorem dX3_served_22 : decode cX3_served 22 = .ok (.getfield 156, 3) := by decide +kernel
theorem dX3_served_25 : decode cX3_served 25 = .ok (.iconst 5, 1) := by decide +kernel
theorem dX3_served_26 : decode cX3_served 26 = .ok (.invokevirtual 165, 3) := by decide +kernel
theorem dX3_served_29 : decode cX3_served 29 = .ok (.i2d, 1) := by decide +kernel
theorem dX3_served_30 : decode cX3_served 30 = .ok (.iload_n 1, 1) := by decide +kernel
theorem dX3_served_31 : decode cX3_served 31 = .ok (.i2d, 1) := by decide +kernel
theorem dX3_served_32 : decode cX3_served 32 = .ok (.ddiv, 1) := by decide +kernel
theorem dX3_served_33 : decode cX3_served 33 = .ok (.dreturn, 1) := by decide +kernel
theorem dX3_outflow_0 : decode cX3_outflow 0 = .ok (.aload_n 0, 1) := by decide +kernel
theorem dX3_outflow_1 : decode cX3_outflow 1 = .ok (.getfield 10, 3) := by decide +kernel
theorem dX3_outflow_4 : decode cX3_outflow 4 = .ok (.invokevirtual 168, 3) := by decide +kernel
theorem dX3_outflow_7 : decode cX3_outflow 7 = .ok (.ireturn, 1) := by decide +kernel
theorem dX3_isBalanced_0 : decode cX3_isBalanced 0 = .ok (.iconst 0, 1) := by decide +kernel
theorem dX3_isBalanced_1 : decode cX3_isBalanced 1 = .ok (.istore_n 1, 1) := by decide +kernel
theorem dX3_isBalanced_2 : decode cX3_isBalanced 2 = .ok (.iconst 0, 1) := by decide +kernel
theorem dX3_isBalanced_3 : decode cX3_isBalanced 3 = .ok (.istore_n 2, 1) := by decide +kernel
theorem dX3_isBalanced_4 : decode cX3_isBalanced 4 = .ok (.iload_n 2, 1) := by decide +kernel
theorem dX3_isBalanced_5 : decode cX3_isBalanced 5 = .ok (.aload_n 0, 1) := by decide +kernel
theorem dX3_isBalanced_6 : decode cX3_isBalanced 6 = .ok (.getfield 10, 3) := by decide +kernel
theorem dX3_isBalanced_9 : decode cX3_isBalanced 9 = .ok (.getfield 159, 3) := by decide +kernel
theorem dX3_isBalanced_12 : decode cX3_isBalanced 12 = .ok (.getfield 84, 3) := by decide +kernel
theorem dX3_isBalanced_15 : decode cX3_isBalanced 15 = .ok (.if_icmp .ge 72, 3) := by decide +kernel
theorem dX3_isBalanced_18 : decode cX3_isBalanced 18 = .ok (.iload_n 1, 1) := by decide +kernel
theorem dX3_isBalanced_19 : decode cX3_isBalanced 19 = .ok (.aload_n 0, 1) := by decide +kernel
theorem dX3_isBalanced_20 : decode cX3_isBalanced 20 = .ok (.getfield 10, 3) := by decide +kernel
theorem dX3_isBalanced_23 : decode cX3_isBalanced 23 = .ok (.getfield 159, 3) := by decide +kernel
theorem dX3_isBalanced_26 : decode cX3_isBalanced 26 = .ok (.iload_n 2, 1) := by decide +kernel
theorem dX3_isBalanced_27 : decode cX3_isBalanced 27 = .ok (.iconst 0, 1) := by decide +kernel
theorem dX3_isBalanced_28 : decode cX3_isBalanced 28 = .ok (.invokevirtual 138, 3) := by decide +kernel
theorem dX3_isBalanced_31 : decode cX3_isBalanced 31 = .ok (.iadd, 1) := by decide +kernel
theorem dX3_isBalanced_32 : decode cX3_isBalanced 32 = .ok (.istore_n 1, 1) := by decide +kernel
theorem dX3_isBalanced_33 : decode cX3_isBalanced 33 = .ok (.iload_n 1, 1) := by decide +kernel
theorem dX3_isBalanced_34 : decode cX3_isBalanced 34 = .ok (.aload_n 0, 1) := by decide +kernel
theorem dX3_isBalanced_35 : decode cX3_isBalanced 35 = .ok (.getfield 10, 3) := by decide +kernel
theorem dX3_isBalanced_38 : decode cX3_isBalanced 38 = .ok (.getfield 159, 3) := by decide +kernel
theorem dX3_isBalanced_41 : decode cX3_isBalanced 41 = .ok (.iload_n 2, 1) := by decide +kernel
theorem dX3_isBalanced_42 : decode cX3_isBalanced 42 = .ok (.iconst 3, 1) := by decide +kernel
theorem dX3_isBalanced_43 : decode cX3_isBalanced 43 = .ok (.invokevirtual 138, 3) := by decide +kernel
theorem dX3_isBalanced_46 : decode cX3_isBalanced 46 = .ok (.isub, 1) := by decide +kernel
theorem dX3_isBalanced_47 : decode cX3_isBalanced 47 = .ok (.istore_n 1, 1) := by decide +kernel
theorem dX3_isBalanced_48 : decode cX3_isBalanced 48 = .ok (.iload_n 1, 1) := by decide +kernel
theorem dX3_isBalanced_49 : decode cX3_isBalanced 49 = .ok (.aload_n 0, 1) := by decide +kernel
theorem dX3_isBalanced_50 : decode cX3_isBalanced 50 = .ok (.getfield 10, 3) := by decide +kernel
theorem dX3_isBalanced_53 : decode cX3_isBalanced 53 = .ok (.getfield 159, 3) := by decide +kernel
theorem dX3_isBalanced_56 : decode cX3_isBalanced 56 = .ok (.iload_n 2, 1) := by decide +kernel
theorem dX3_isBalanced_57 : decode cX3_isBalanced 57 = .ok (.iconst 4, 1) := by decide +kernel
theorem dX3_isBalanced_58 : decode cX3_isBalanced 58 = .ok (.invokevirtual 138, 3) := by decide +kernel
theorem dX3_isBalanced_61 : decode cX3_isBalanced 61 = .ok (.iadd, 1) := by decide +kernel
theorem dX3_isBalanced_62 : decode cX3_isBalanced 62 = .ok (.istore_n 1, 1) := by decide +kernel
theorem dX3_isBalanced_63 : decode cX3_isBalanced 63 = .ok (.iload_n 1, 1) := by decide +kernel
theorem dX3_isBalanced_64 : decode cX3_isBalanced 64 = .ok (.aload_n 0, 1) := by decide +kernel
theorem dX3_isBalanced_65 : decode cX3_isBalanced 65 = .ok (.getfield 10, 3) := by decide +kernel
theorem dX3_isBalanced_68 : decode cX3_isBalanced 68 = .ok (.getfield 159, 3) := by decide +kernel
theorem dX3_isBalanced_71 : decode cX3_isBalanced 71 = .ok (.iload_n 2, 1) := by decide +kernel
theorem dX3_isBalanced_72 : decode cX3_isBalanced 72 = .ok (.iconst 2, 1) := by decide +kernel
theorem dX3_isBalanced_73 : decode cX3_isBalanced 73 = .ok (.invokevirtual 138, 3) := by decide +kernel
theorem dX3_isBalanced_76 : decode cX3_isBalanced 76 = .ok (.if_icmp .eq 5, 3) := by decide +kernel
theorem dX3_isBalanced_79 : decode cX3_isBalanced 79 = .ok (.iconst 0, 1) := by decide +kernel
theorem dX3_isBalanced_80 : decode cX3_isBalanced 80 = .ok (.ireturn, 1) := by decide +kernel
theorem dX3_isBalanced_81 : decode cX3_isBalanced 81 = .ok (.iinc 2 1, 3) := by decide +kernel
theorem dX3_isBalanced_84 : decode cX3_isBalanced 84 = .ok (.goto (-80), 3) := by decide +kernel
theorem dX3_isBalanced_87 : decode cX3_isBalanced 87 = .ok (.iconst 1, 1) := by decide +kernel
theorem dX3_isBalanced_88 : decode cX3_isBalanced 88 = .ok (.ireturn, 1) := by decide +kernel
theorem dX3_history_0 : decode cX3_history 0 = .ok (.iload_n 2, 1) := by decide +kernel
theorem dX3_history_1 : decode cX3_history 1 = .ok (.iconst 4, 1) := by decide +kernel
theorem dX3_history_2 : decode cX3_history 2 = .ok (.invokestatic 121, 3) := by decide +kernel
theorem dX3_history_5 : decode cX3_history 5 = .ok (.aload_n 0, 1) := by decide +kernel
theorem dX3_history_6 : decode cX3_history 6 = .ok (.getfield 10, 3) := by decide +kernel
theorem dX3_history_9 : decode cX3_history 9 = .ok (.iload_n 1, 1) := by decide +kernel
theorem dX3_history_10 : decode cX3_history 10 = .ok (.iload_n 2, 1) := by decide +kernel
theorem dX3_history_11 : decode cX3_history 11 = .ok (.invokevirtual 162, 3) := by decide +kernel
theorem dX3_history_14 : decode cX3_history 14 = .ok (.ireturn, 1) := by decide +kernel
theorem dX3_meanGot_0 : decode cX3_meanGot 0 = .ok (.aload_n 0, 1) := by decide +kernel
theorem dX3_meanGot_1 : decode cX3_meanGot 1 = .ok (.getfield 10, 3) := by decide +kernel
theorem dX3_meanGot_4 : decode cX3_meanGot 4 = .ok (.getfield 172, 3) := by decide +kernel
theorem dX3_meanGot_7 : decode cX3_meanGot 7 = .ok (.getfield 84, 3) := by decide +kernel
theorem dX3_meanGot_10 : decode cX3_meanGot 10 = .ok (.istore_n 1, 1) := by decide +kernel
theorem dX3_meanGot_11 : decode cX3_meanGot 11 = .ok (.iload_n 1, 1) := by decide +kernel
theorem dX3_meanGot_12 : decode cX3_meanGot 12 = .ok (.ifCond .ne 5, 3) := by decide +kernel
theorem dX3_meanGot_15 : decode cX3_meanGot 15 = .ok (.dconst 0, 1) := by decide +kernel
theorem dX3_meanGot_16 : decode cX3_meanGot 16 = .ok (.dreturn, 1) := by decide +kernel
theorem dX3_meanGot_17 : decode cX3_meanGot 17 = .ok (.aload_n 0, 1) := by decide +kernel
theorem dX3_meanGot_18 : decode cX3_meanGot 18 = .ok (.getfield 10, 3) := by decide +kernel
theorem dX3_meanGot_21 : decode cX3_meanGot 21 = .ok (.getfield 172, 3) := by decide +kernel
theorem dX3_meanGot_24 : decode cX3_meanGot 24 = .ok (.iconst 1, 1) := by decide +kernel
theorem dX3_meanGot_25 : decode cX3_meanGot 25 = .ok (.invokevirtual 165, 3) := by decide +kernel
theorem dX3_meanGot_28 : decode cX3_meanGot 28 = .ok (.i2d, 1) := by decide +kernel
theorem dX3_meanGot_29 : decode cX3_meanGot 29 = .ok (.iload_n 1, 1) := by decide +kernel
theorem dX3_meanGot_30 : decode cX3_meanGot 30 = .ok (.i2d, 1) := by decide +kernel
theorem dX3_meanGot_31 : decode cX3_meanGot 31 = .ok (.ddiv, 1) := by decide +kernel
theorem dX3_meanGot_32 : decode cX3_meanGot 32 = .ok (.dreturn, 1) := by decide +kernel
theorem dX3_got_0 : decode cX3_got 0 = .ok (.aload_n 0, 1) := by decide +kernel
theorem dX3_got_1 : decode cX3_got 1 = .ok (.getfield 10, 3) := by decide +kernel
theorem dX3_got_4 : decode cX3_got 4 = .ok (.getfield 98, 3) := by decide +kernel
theorem dX3_got_7 : decode cX3_got 7 = .ok (.iload_n 1, 1) := by decide +kernel
theorem dX3_got_8 : decode cX3_got 8 = .ok (.invokestatic 134, 3) := by decide +kernel
theorem dX3_got_11 : decode cX3_got 11 = .ok (.aload_n 0, 1) := by decide +kernel
theorem dX3_got_12 : decode cX3_got 12 = .ok (.getfield 10, 3) := by decide +kernel
theorem dX3_got_15 : decode cX3_got 15 = .ok (.getfield 98, 3) := by decide +kernel
theorem dX3_got_18 : decode cX3_got 18 = .ok (.iload_n 1, 1) := by decide +kernel
theorem dX3_got_19 : decode cX3_got 19 = .ok (.iconst 1, 1) := by decide +kernel
theorem dX3_got_20 : decode cX3_got 20 = .ok (.invokevirtual 138, 3) := by decide +kernel
theorem dX3_got_23 : decode cX3_got 23 = .ok (.ireturn, 1) := by decide +kernel
theorem dX3_earned_0 : decode cX3_earned 0 = .ok (.aload_n 0, 1) := by decide +kernel
theorem dX3_earned_1 : decode cX3_earned 1 = .ok (.getfield 10, 3) := by decide +kernel
theorem dX3_earned_4 : decode cX3_earned 4 = .ok (.getfield 80, 3) := by decide +kernel
theorem dX3_earned_7 : decode cX3_earned 7 = .ok (.iload_n 1, 1) := by decide +kernel
theorem dX3_earned_8 : decode cX3_earned 8 = .ok (.invokestatic 134, 3) := by decide +kernel
theorem dX3_earned_11 : decode cX3_earned 11 = .ok (.aload_n 0, 1) := by decide +kernel
theorem dX3_earned_12 : decode cX3_earned 12 = .ok (.getfield 10, 3) := by decide +kernel
theorem dX3_earned_15 : decode cX3_earned 15 = .ok (.iload_n 1, 1) := by decide +kernel
theorem dX3_earned_16 : decode cX3_earned 16 = .ok (.invokevirtual 175, 3) := by decide +kernel
theorem dX3_earned_19 : decode cX3_earned 19 = .ok (.lreturn, 1) := by decide +kernel
theorem dX3_bankedInAll_0 : decode cX3_bankedInAll 0 = .ok (.aload_n 0, 1) := by decide +kernel
theorem dX3_bankedInAll_1 : decode cX3_bankedInAll 1 = .ok (.getfield 10, 3) := by decide +kernel
theorem dX3_bankedInAll_4 : decode cX3_bankedInAll 4 = .ok (.getfield 178, 3) := by decide +kernel
theorem dX3_bankedInAll_7 : decode cX3_bankedInAll 7 = .ok (.ireturn, 1) := by decide +kernel
theorem dX3_lostInAll_0 : decode cX3_lostInAll 0 = .ok (.aload_n 0, 1) := by decide +kernel
theorem dX3_lostInAll_1 : decode cX3_lostInAll 1 = .ok (.getfield 10, 3) := by decide +kernel
theorem dX3_lostInAll_4 : decode cX3_lostInAll 4 = .ok (.getfield 181, 3) := by decide +kernel
theorem dX3_lostInAll_7 : decode cX3_lostInAll 7 = .ok (.ireturn, 1) := by decide +kernel
theorem dX3_releasedInAll_0 : decode cX3_releasedInAll 0 = .ok (.aload_n 0, 1) := by decide +kernel
theorem dX3_releasedInAll_1 : decode cX3_releasedInAll 1 = .ok (.getfield 10, 3) := by decide +kernel
theorem dX3_releasedInAll_4 : decode cX3_releasedInAll 4 = .ok (.getfield 184, 3) := by decide +kernel
theorem dX3_releasedInAll_7 : decode cX3_releasedInAll 7 = .ok (.ireturn, 1) := by decide +kernel
theorem dX3_areAccountsRight_0 : decode cX3_areAccountsRight 0 = .ok (.lconst 0, 1) := by decide +kernel
theorem dX3_areAccountsRight_1 : decode cX3_areAccountsRight 1 = .ok (.lstore_n 1, 1) := by decide +kernel
theorem dX3_areAccountsRight_2 : decode cX3_areAccountsRight 2 = .ok (.iconst 0, 1) := by decide +kernel
theorem dX3_areAccountsRight_3 : decode cX3_areAccountsRight 3 = .ok (.istore_n 3, 1) := by decide +kernel
theorem dX3_areAccountsRight_4 : decode cX3_areAccountsRight 4 = .ok (.iload_n 3, 1) := by decide +kernel
theorem dX3_areAccountsRight_5 : decode cX3_areAccountsRight 5 = .ok (.aload_n 0, 1) := by decide +kernel
theorem dX3_areAccountsRight_6 : decode cX3_areAccountsRight 6 = .ok (.getfield 10, 3) := by decide +kernel
theorem dX3_areAccountsRight_9 : decode cX3_areAccountsRight 9 = .ok (.getfield 98, 3) := by decide +kernel
theorem dX3_areAccountsRight_12 : decode cX3_areAccountsRight 12 = .ok (.getfield 84, 3) := by decide +kernel
theorem dX3_areAccountsRight_15 : decode cX3_areAccountsRight 15 = .ok (.if_icmp .ge 20, 3) := by decide +kernel
theorem dX3_areAccountsRight_18 : decode cX3_areAccountsRight 18 = .ok (.lload_n 1, 1) := by decide +kernel
theorem dX3_areAccountsRight_19 : decode cX3_areAccountsRight 19 = .ok (.aload_n 0, 1) := by decide +kernel
theorem dX3_areAccountsRight_20 : decode cX3_areAccountsRight 20 = .ok (.getfield 10, 3) := by decide +kernel
theorem dX3_areAccountsRight_23 : decode cX3_areAccountsRight 23 = .ok (.iload_n 3, 1) := by decide +kernel
theorem dX3_areAccountsRight_24 : decode cX3_areAccountsRight 24 = .ok (.invokevirtual 145, 3) := by decide +kernel
theorem dX3_areAccountsRight_27 : decode cX3_areAccountsRight 27 = .ok (.ladd, 1) := by decide +kernel
theorem dX3_areAccountsRight_28 : decode cX3_areAccountsRight 28 = .ok (.lstore_n 1, 1) := by decide +kernel
theorem dX3_areAccountsRight_29 : decode cX3_areAccountsRight 29 = .ok (.iinc 3 1, 3) := by decide +kernel
theorem dX3_areAccountsRight_32 : decode cX3_areAccountsRight 32 = .ok (.goto (-28), 3) := by decide +kernel
theorem dX3_areAccountsRight_35 : decode cX3_areAccountsRight 35 = .ok (.aload_n 0, 1) := by decide +kernel
theorem dX3_areAccountsRight_36 : decode cX3_areAccountsRight 36 = .ok (.getfield 10, 3) := by decide +kernel
theorem dX3_areAccountsRight_39 : decode cX3_areAccountsRight 39 = .ok (.getfield 178, 3) := by decide +kernel
theorem dX3_areAccountsRight_42 : decode cX3_areAccountsRight 42 = .ok (.aload_n 0, 1) := by decide +kernel
theorem dX3_areAccountsRight_43 : decode cX3_areAccountsRight 43 = .ok (.getfield 10, 3) := by decide +kernel
theorem dX3_areAccountsRight_46 : decode cX3_areAccountsRight 46 = .ok (.getfield 181, 3) := by decide +kernel
theorem dX3_areAccountsRight_49 : decode cX3_areAccountsRight 49 = .ok (.isub, 1) := by decide +kernel
theorem dX3_areAccountsRight_50 : decode cX3_areAccountsRight 50 = .ok (.aload_n 0, 1) := by decide +kernel
theorem dX3_areAccountsRight_51 : decode cX3_areAccountsRight 51 = .ok (.getfield 10, 3) := by decide +kernel
theorem dX3_areAccountsRight_54 : decode cX3_areAccountsRight 54 = .ok (.getfield 184, 3) := by decide +kernel
theorem dX3_areAccountsRight_57 : decode cX3_areAccountsRight 57 = .ok (.isub, 1) := by decide +kernel
theorem dX3_areAccountsRight_58 : decode cX3_areAccountsRight 58 = .ok (.istore_n 3, 1) := by decide +kernel
theorem dX3_areAccountsRight_59 : decode cX3_areAccountsRight 59 = .ok (.iload_n 3, 1) := by decide +kernel
theorem dX3_areAccountsRight_60 : decode cX3_areAccountsRight 60 = .ok (.aload_n 0, 1) := by decide +kernel
theorem dX3_areAccountsRight_61 : decode cX3_areAccountsRight 61 = .ok (.getfield 10, 3) := by decide +kernel
theorem dX3_areAccountsRight_64 : decode cX3_areAccountsRight 64 = .ok (.getfield 98, 3) := by decide +kernel
theorem dX3_areAccountsRight_67 : decode cX3_areAccountsRight 67 = .ok (.iconst 0, 1) := by decide +kernel
theorem dX3_areAccountsRight_68 : decode cX3_areAccountsRight 68 = .ok (.invokevirtual 165, 3) := by decide +kernel
theorem dX3_areAccountsRight_71 : decode cX3_areAccountsRight 71 = .ok (.if_icmp .ne 13, 3) := by decide +kernel
theorem dX3_areAccountsRight_74 : decode cX3_areAccountsRight 74 = .ok (.lload_n 1, 1) := by decide +kernel
theorem dX3_areAccountsRight_75 : decode cX3_areAccountsRight 75 = .ok (.lconst 0, 1) := by decide +kernel
theorem dX3_areAccountsRight_76 : decode cX3_areAccountsRight 76 = .ok (.lcmp, 1) := by decide +kernel
theorem dX3_areAccountsRight_77 : decode cX3_areAccountsRight 77 = .ok (.ifCond .ne 7, 3) := by decide +kernel
theorem dX3_areAccountsRight_80 : decode cX3_areAccountsRight 80 = .ok (.iconst 1, 1) := by decide +kernel
theorem dX3_areAccountsRight_81 : decode cX3_areAccountsRight 81 = .ok (.goto 4, 3) := by decide +kernel
theorem dX3_areAccountsRight_84 : decode cX3_areAccountsRight 84 = .ok (.iconst 0, 1) := by decide +kernel
theorem dX3_areAccountsRight_85 : decode cX3_areAccountsRight 85 = .ok (.ireturn, 1) := by decide +kernel
theorem dX3_richest_0 : decode cX3_richest 0 = .ok (.iconst 0, 1) := by decide +kernel
theorem dX3_richest_1 : decode cX3_richest 1 = .ok (.istore_n 1, 1) := by decide +kernel
theorem dX3_richest_2 : decode cX3_richest 2 = .ok (.iconst 1, 1) := by decide +kernel
theorem dX3_richest_3 : decode cX3_richest 3 = .ok (.istore_n 2, 1) := by decide +kernel
theorem dX3_richest_4 : decode cX3_richest 4 = .ok (.iload_n 2, 1) := by decide +kernel
theorem dX3_richest_5 : decode cX3_richest 5 = .ok (.aload_n 0, 1) := by decide +kernel
theorem dX3_richest_6 : decode cX3_richest 6 = .ok (.getfield 10, 3) := by decide +kernel
theorem dX3_richest_9 : decode cX3_richest 9 = .ok (.getfield 98, 3) := by decide +kernel
theorem dX3_richest_12 : decode cX3_richest 12 = .ok (.getfield 84, 3) := by decide +kernel
theorem dX3_richest_15 : decode cX3_richest 15 = .ok (.if_icmp .ge 31, 3) := by decide +kernel
theorem dX3_richest_18 : decode cX3_richest 18 = .ok (.aload_n 0, 1) := by decide +kernel
theorem dX3_richest_19 : decode cX3_richest 19 = .ok (.getfield 10, 3) := by decide +kernel
theorem dX3_richest_22 : decode cX3_richest 22 = .ok (.iload_n 2, 1) := by decide +kernel
theorem dX3_richest_23 : decode cX3_richest 23 = .ok (.invokevirtual 145, 3) := by decide +kernel
theorem dX3_richest_26 : decode cX3_richest 26 = .ok (.aload_n 0, 1) := by decide +kernel
theorem dX3_richest_27 : decode cX3_richest 27 = .ok (.getfield 10, 3) := by decide +kernel
theorem dX3_richest_30 : decode cX3_richest 30 = .ok (.iload_n 1, 1) := by decide +kernel
theorem dX3_richest_31 : decode cX3_richest 31 = .ok (.invokevirtual 145, 3) := by decide +kernel
theorem dX3_richest_34 : decode cX3_richest 34 = .ok (.lcmp, 1) := by decide +kernel
theorem dX3_richest_35 : decode cX3_richest 35 = .ok (.ifCond .le 5, 3) := by decide +kernel
theorem dX3_richest_38 : decode cX3_richest 38 = .ok (.iload_n 2, 1) := by decide +kernel
theorem dX3_richest_39 : decode cX3_richest 39 = .ok (.istore_n 1, 1) := by decide +kernel
theorem dX3_richest_40 : decode cX3_richest 40 = .ok (.iinc 2 1, 3) := by decide +kernel
theorem dX3_richest_43 : decode cX3_richest 43 = .ok (.goto (-39), 3) := by decide +kernel
theorem dX3_richest_46 : decode cX3_richest 46 = .ok (.iload_n 1, 1) := by decide +kernel
theorem dX3_richest_47 : decode cX3_richest 47 = .ok (.ireturn, 1) := by decide +kernel
theorem dX3_expected_0 : decode cX3_expected 0 = .ok (.aload_n 0, 1) := by decide +kernel
theorem dX3_expected_1 : decode cX3_expected 1 = .ok (.getfield 10, 3) := by decide +kernel
theorem dX3_expected_4 : decode cX3_expected 4 = .ok (.getfield 80, 3) := by decide +kernel
theorem dX3_expected_7 : decode cX3_expected 7 = .ok (.iload_n 1, 1) := by decide +kernel
theorem dX3_expected_8 : decode cX3_expected 8 = .ok (.invokestatic 134, 3) := by decide +kernel
theorem dX3_expected_11 : decode cX3_expected 11 = .ok (.iload_n 2, 1) := by decide +kernel
theorem dX3_expected_12 : decode cX3_expected 12 = .ok (.iconst 1, 1) := by decide +kernel
theorem dX3_expected_13 : decode cX3_expected 13 = .ok (.bipush 36, 2) := by decide +kernel
theorem dX3_expected_15 : decode cX3_expected 15 = .ok (.invokestatic 187, 3) := by decide +kernel
theorem dX3_expected_18 : decode cX3_expected 18 = .ok (.aload_n 0, 1) := by decide +kernel
theorem dX3_expected_19 : decode cX3_expected 19 = .ok (.iload_n 2, 1) := by decide +kernel
theorem dX3_expected_20 : decode cX3_expected 20 = .ok (.invokevirtual 191, 3) := by decide +kernel
theorem dX3_expected_23 : decode cX3_expected 23 = .ok (.aload_n 0, 1) := by decide +kernel
theorem dX3_expected_24 : decode cX3_expected 24 = .ok (.getfield 16, 3) := by decide +kernel
theorem dX3_expected_27 : decode cX3_expected 27 = .ok (.getfield 80, 3) := by decide +kernel
theorem dX3_expected_30 : decode cX3_expected 30 = .ok (.iload_n 1, 1) := by decide +kernel
theorem dX3_expected_31 : decode cX3_expected 31 = .ok (.bipush 7, 2) := by decide +kernel
theorem dX3_expected_33 : decode cX3_expected 33 = .ok (.invokevirtual 138, 3) := by decide +kernel
theorem dX3_expected_36 : decode cX3_expected 36 = .ok (.aload_n 0, 1) := by decide +kernel
theorem dX3_expected_37 : decode cX3_expected 37 = .ok (.getfield 10, 3) := by decide +kernel
theorem dX3_expected_40 : decode cX3_expected 40 = .ok (.getfield 80, 3) := by decide +kernel
theorem dX3_expected_43 : decode cX3_expected 43 = .ok (.iload_n 1, 1) := by decide +kernel
theorem dX3_expected_44 : decode cX3_expected 44 = .ok (.bipush 7, 2) := by decide +kernel
theorem dX3_expected_46 : decode cX3_expected 46 = .ok (.invokevirtual 138, 3) := by decide +kernel
theorem dX3_expected_49 : decode cX3_expected 49 = .ok (.isub, 1) := by decide +kernel
theorem dX3_expected_50 : decode cX3_expected 50 = .ok (.ireturn, 1) := by decide +kernel
theorem dX3_cutMonths_0 : decode cX3_cutMonths 0 = .ok (.aload_n 0, 1) := by decide +kernel
theorem dX3_cutMonths_1 : decode cX3_cutMonths 1 = .ok (.getfield 10, 3) := by decide +kernel
theorem dX3_cutMonths_4 : decode cX3_cutMonths 4 = .ok (.getfield 80, 3) := by decide +kernel
theorem dX3_cutMonths_7 : decode cX3_cutMonths 7 = .ok (.iload_n 1, 1) := by decide +kernel
theorem dX3_cutMonths_8 : decode cX3_cutMonths 8 = .ok (.invokestatic 134, 3) := by decide +kernel
theorem dX3_cutMonths_11 : decode cX3_cutMonths 11 = .ok (.iload_n 2, 1) := by decide +kernel
theorem dX3_cutMonths_12 : decode cX3_cutMonths 12 = .ok (.iconst 1, 1) := by decide +kernel
theorem dX3_cutMonths_13 : decode cX3_cutMonths 13 = .ok (.bipush 36, 2) := by decide +kernel
theorem dX3_cutMonths_15 : decode cX3_cutMonths 15 = .ok (.invokestatic 187, 3) := by decide +kernel
theorem dX3_cutMonths_18 : decode cX3_cutMonths 18 = .ok (.aload_n 0, 1) := by decide +kernel
theorem dX3_cutMonths_19 : decode cX3_cutMonths 19 = .ok (.iload_n 2, 1) := by decide +kernel
theorem dX3_cutMonths_20 : decode cX3_cutMonths 20 = .ok (.invokevirtual 191, 3) := by decide +kernel
theorem dX3_cutMonths_23 : decode cX3_cutMonths 23 = .ok (.aload_n 0, 1) := by decide +kernel
theorem dX3_cutMonths_24 : decode cX3_cutMonths 24 = .ok (.getfield 16, 3) := by decide +kernel
theorem dX3_cutMonths_27 : decode cX3_cutMonths 27 = .ok (.getfield 80, 3) := by decide +kernel
theorem dX3_cutMonths_30 : decode cX3_cutMonths 30 = .ok (.iload_n 1, 1) := by decide +kernel
theorem dX3_cutMonths_31 : decode cX3_cutMonths 31 = .ok (.bipush 9, 2) := by decide +kernel
theorem dX3_cutMonths_33 : decode cX3_cutMonths 33 = .ok (.invokevirtual 138, 3) := by decide +kernel
theorem dX3_cutMonths_36 : decode cX3_cutMonths 36 = .ok (.aload_n 0, 1) := by decide +kernel
theorem dX3_cutMonths_37 : decode cX3_cutMonths 37 = .ok (.getfield 10, 3) := by decide +kernel
theorem dX3_cutMonths_40 : decode cX3_cutMonths 40 = .ok (.getfield 80, 3) := by decide +kernel
theorem dX3_cutMonths_43 : decode cX3_cutMonths 43 = .ok (.iload_n 1, 1) := by decide +kernel
theorem dX3_cutMonths_44 : decode cX3_cutMonths 44 = .ok (.bipush 9, 2) := by decide +kernel
theorem dX3_cutMonths_46 : decode cX3_cutMonths 46 = .ok (.invokevirtual 138, 3) := by decide +kernel
theorem dX3_cutMonths_49 : decode cX3_cutMonths 49 = .ok (.isub, 1) := by decide +kernel
theorem dX3_cutMonths_50 : decode cX3_cutMonths 50 = .ok (.ireturn, 1) := by decide +kernel
theorem dX3_balanceAfter_0 : decode cX3_balanceAfter 0 = .ok (.aload_n 0, 1) := by decide +kernel
theorem dX3_balanceAfter_1 : decode cX3_balanceAfter 1 = .ok (.getfield 10, 3) := by decide +kernel
theorem dX3_balanceAfter_4 : decode cX3_balanceAfter 4 = .ok (.getfield 98, 3) := by decide +kernel
theorem dX3_balanceAfter_7 : decode cX3_balanceAfter 7 = .ok (.iload_n 1, 1) := by decide +kernel
theorem dX3_balanceAfter_8 : decode cX3_balanceAfter 8 = .ok (.invokestatic 134, 3) := by decide +kernel
theorem dX3_balanceAfter_11 : decode cX3_balanceAfter 11 = .ok (.iload_n 2, 1) := by decide +kernel
theorem dX3_balanceAfter_12 : decode cX3_balanceAfter 12 = .ok (.iconst 1, 1) := by decide +kernel
theorem dX3_balanceAfter_13 : decode cX3_balanceAfter 13 = .ok (.bipush 36, 2) := by decide +kernel
theorem dX3_balanceAfter_15 : decode cX3_balanceAfter 15 = .ok (.invokestatic 187, 3) := by decide +kernel
theorem dX3_balanceAfter_18 : decode cX3_balanceAfter 18 = .ok (.aload_n 0, 1) := by decide +kernel
theorem dX3_balanceAfter_19 : decode cX3_balanceAfter 19 = .ok (.iload_n 2, 1) := by decide +kernel
theorem dX3_balanceAfter_20 : decode cX3_balanceAfter 20 = .ok (.invokevirtual 191, 3) := by decide +kernel
theorem dX3_balanceAfter_23 : decode cX3_balanceAfter 23 = .ok (.aload_n 0, 1) := by decide +kernel
theorem dX3_balanceAfter_24 : decode cX3_balanceAfter 24 = .ok (.getfield 16, 3) := by decide +kernel
theorem dX3_balanceAfter_27 : decode cX3_balanceAfter 27 = .ok (.iload_n 1, 1) := by decide +kernel
theorem dX3_balanceAfter_28 : decode cX3_balanceAfter 28 = .ok (.invokevirtual 145, 3) := by decide +kernel
theorem dX3_balanceAfter_31 : decode cX3_balanceAfter 31 = .ok (.lreturn, 1) := by decide +kernel
theorem dX3_driestMonth_0 : decode cX3_driestMonth 0 = .ok (.iload_n 1, 1) := by decide +kernel
theorem dX3_driestMonth_1 : decode cX3_driestMonth 1 = .ok (.iconst 1, 1) := by decide +kernel
theorem dX3_driestMonth_2 : decode cX3_driestMonth 2 = .ok (.bipush 36, 2) := by decide +kernel
theorem dX3_driestMonth_4 : decode cX3_driestMonth 4 = .ok (.invokestatic 187, 3) := by decide +kernel
theorem dX3_driestMonth_7 : decode cX3_driestMonth 7 = .ok (.aload_n 0, 1) := by decide +kernel
theorem dX3_driestMonth_8 : decode cX3_driestMonth 8 = .ok (.invokevirtual 194, 3) := by decide +kernel
theorem dX3_driestMonth_11 : decode cX3_driestMonth 11 = .ok (.aload_n 0, 1) := by decide +kernel
theorem dX3_driestMonth_12 : decode cX3_driestMonth 12 = .ok (.iconst 1, 1) := by decide +kernel
theorem dX3_driestMonth_13 : decode cX3_driestMonth 13 = .ok (.invokevirtual 191, 3) := by decide +kernel
theorem dX3_driestMonth_16 : decode cX3_driestMonth 16 = .ok (.iconst 1, 1) := by decide +kernel
theorem dX3_driestMonth_17 : decode cX3_driestMonth 17 = .ok (.istore_n 2, 1) := by decide +kernel
theorem dX3_driestMonth_18 : decode cX3_driestMonth 18 = .ok (.aload_n 0, 1) := by decide +kernel
theorem dX3_driestMonth_19 : decode cX3_driestMonth 19 = .ok (.getfield 16, 3) := by decide +kernel
theorem dX3_driestMonth_22 : decode cX3_driestMonth 22 = .ok (.invokevirtual 168, 3) := by decide +kernel
theorem dX3_driestMonth_25 : decode cX3_driestMonth 25 = .ok (.istore_n 3, 1) := by decide +kernel
theorem dX3_driestMonth_26 : decode cX3_driestMonth 26 = .ok (.iconst 2, 1) := by decide +kernel
theorem dX3_driestMonth_27 : decode cX3_driestMonth 27 = .ok (.istore 4, 2) := by decide +kernel
theorem dX3_driestMonth_29 : decode cX3_driestMonth 29 = .ok (.iload 4, 2) := by decide +kernel
theorem dX3_driestMonth_31 : decode cX3_driestMonth 31 = .ok (.iload_n 1, 1) := by decide +kernel
theorem dX3_driestMonth_32 : decode cX3_driestMonth 32 = .ok (.if_icmp .gt 40, 3) := by decide +kernel
theorem dX3_driestMonth_35 : decode cX3_driestMonth 35 = .ok (.aload_n 0, 1) := by decide +kernel
theorem dX3_driestMonth_36 : decode cX3_driestMonth 36 = .ok (.getfield 16, 3) := by decide +kernel
theorem dX3_driestMonth_39 : decode cX3_driestMonth 39 = .ok (.iconst (-1), 1) := by decide +kernel
theorem dX3_driestMonth_40 : decode cX3_driestMonth 40 = .ok (.invokevirtual 197, 3) := by decide +kernel
theorem dX3_driestMonth_43 : decode cX3_driestMonth 43 = .ok (.pop, 1) := by decide +kernel
theorem dX3_driestMonth_44 : decode cX3_driestMonth 44 = .ok (.aload_n 0, 1) := by decide +kernel
theorem dX3_driestMonth_45 : decode cX3_driestMonth 45 = .ok (.getfield 16, 3) := by decide +kernel
theorem dX3_driestMonth_48 : decode cX3_driestMonth 48 = .ok (.invokevirtual 168, 3) := by decide +kernel
theorem dX3_driestMonth_51 : decode cX3_driestMonth 51 = .ok (.iload_n 3, 1) := by decide +kernel
theorem dX3_driestMonth_52 : decode cX3_driestMonth 52 = .ok (.if_icmp .ge 14, 3) := by decide +kernel
theorem dX3_driestMonth_55 : decode cX3_driestMonth 55 = .ok (.iload 4, 2) := by decide +kernel
theorem dX3_driestMonth_57 : decode cX3_driestMonth 57 = .ok (.istore_n 2, 1) := by decide +kernel
theorem dX3_driestMonth_58 : decode cX3_driestMonth 58 = .ok (.aload_n 0, 1) := by decide +kernel
theorem dX3_driestMonth_59 : decode cX3_driestMonth 59 = .ok (.getfield 16, 3) := by decide +kernel
theorem dX3_driestMonth_62 : decode cX3_driestMonth 62 = .ok (.invokevirtual 168, 3) := by decide +kernel
theorem dX3_driestMonth_65 : decode cX3_driestMonth 65 = .ok (.istore_n 3, 1) := by decide +kernel
theorem dX3_driestMonth_66 : decode cX3_driestMonth 66 = .ok (.iinc 4 1, 3) := by decide +kernel
theorem dX3_driestMonth_69 : decode cX3_driestMonth 69 = .ok (.goto (-40), 3) := by decide +kernel
theorem dX3_driestMonth_72 : decode cX3_driestMonth 72 = .ok (.iload_n 2, 1) := by decide +kernel
theorem dX3_driestMonth_73 : decode cX3_driestMonth 73 = .ok (.ireturn, 1) := by decide +kernel
theorem dX3_tryMonths_0 : decode cX3_tryMonths 0 = .ok (.aload_n 0, 1) := by decide +kernel
theorem dX3_tryMonths_1 : decode cX3_tryMonths 1 = .ok (.getfield 16, 3) := by decide +kernel
theorem dX3_tryMonths_4 : decode cX3_tryMonths 4 = .ok (.aload_n 0, 1) := by decide +kernel
theorem dX3_tryMonths_5 : decode cX3_tryMonths 5 = .ok (.getfield 10, 3) := by decide +kernel
theorem dX3_tryMonths_8 : decode cX3_tryMonths 8 = .ok (.invokevirtual 73, 3) := by decide +kernel
theorem dX3_tryMonths_11 : decode cX3_tryMonths 11 = .ok (.iconst 0, 1) := by decide +kernel
theorem dX3_tryMonths_12 : decode cX3_tryMonths 12 = .ok (.istore_n 2, 1) := by decide +kernel
theorem dX3_tryMonths_13 : decode cX3_tryMonths 13 = .ok (.iload_n 2, 1) := by decide +kernel
theorem dX3_tryMonths_14 : decode cX3_tryMonths 14 = .ok (.iload_n 1, 1) := by decide +kernel
theorem dX3_tryMonths_15 : decode cX3_tryMonths 15 = .ok (.if_icmp .ge 18, 3) := by decide +kernel
theorem dX3_tryMonths_18 : decode cX3_tryMonths 18 = .ok (.aload_n 0, 1) := by decide +kernel
theorem dX3_tryMonths_19 : decode cX3_tryMonths 19 = .ok (.getfield 16, 3) := by decide +kernel
theorem dX3_tryMonths_22 : decode cX3_tryMonths 22 = .ok (.iconst (-1), 1) := by decide +kernel
theorem dX3_tryMonths_23 : decode cX3_tryMonths 23 = .ok (.invokevirtual 197, 3) := by decide +kernel
theorem dX3_tryMonths_26 : decode cX3_tryMonths 26 = .ok (.pop, 1) := by decide +kernel
theorem dX3_tryMonths_27 : decode cX3_tryMonths 27 = .ok (.iinc 2 1, 3) := by decide +kernel
theorem dX3_tryMonths_30 : decode cX3_tryMonths 30 = .ok (.goto (-17), 3) := by decide +kernel
theorem dX3_tryMonths_33 : decode cX3_tryMonths 33 = .ok (.return_, 1) := by decide +kernel
theorem dX3_nextExercise_0 : decode cX3_nextExercise 0 = .ok (.iconst 0, 1) := by decide +kernel
theorem dX3_nextExercise_1 : decode cX3_nextExercise 1 = .ok (.istore_n 1, 1) := by decide +kernel
theorem dX3_nextExercise_2 : decode cX3_nextExercise 2 = .ok (.iload_n 1, 1) := by decide +kernel
theorem dX3_nextExercise_3 : decode cX3_nextExercise 3 = .ok (.bipush 60, 2) := by decide +kernel
theorem dX3_nextExercise_5 : decode cX3_nextExercise 5 = .ok (.if_icmp .gt 53, 3) := by decide +kernel
theorem dX3_nextExercise_8 : decode cX3_nextExercise 8 = .ok (.iconst 0, 1) := by decide +kernel
theorem dX3_nextExercise_9 : decode cX3_nextExercise 9 = .ok (.istore_n 2, 1) := by decide +kernel
theorem dX3_nextExercise_10 : decode cX3_nextExercise 10 = .ok (.iload_n 2, 1) := by decide +kernel
theorem dX3_nextExercise_11 : decode cX3_nextExercise 11 = .ok (.aload_n 0, 1) := by decide +kernel
theorem dX3_nextExercise_12 : decode cX3_nextExercise 12 = .ok (.getfield 10, 3) := by decide +kernel
theorem dX3_nextExercise_15 : decode cX3_nextExercise 15 = .ok (.getfield 104, 3) := by decide +kernel
theorem dX3_nextExercise_18 : decode cX3_nextExercise 18 = .ok (.getfield 84, 3) := by decide +kernel
theorem dX3_nextExercise_21 : decode cX3_nextExercise 21 = .ok (.if_icmp .ge 31, 3) := by decide +kernel
theorem dX3_nextExercise_24 : decode cX3_nextExercise 24 = .ok (.aload_n 0, 1) := by decide +kernel
theorem dX3_nextExercise_25 : decode cX3_nextExercise 25 = .ok (.getfield 10, 3) := by decide +kernel
theorem dX3_nextExercise_28 : decode cX3_nextExercise 28 = .ok (.iload_n 2, 1) := by decide +kernel
theorem dX3_nextExercise_29 : decode cX3_nextExercise 29 = .ok (.aload_n 0, 1) := by decide +kernel
theorem dX3_nextExercise_30 : decode cX3_nextExercise 30 = .ok (.getfield 10, 3) := by decide +kernel
theorem dX3_nextExercise_33 : decode cX3_nextExercise 33 = .ok (.getfield 107, 3) := by decide +kernel
theorem dX3_nextExercise_36 : decode cX3_nextExercise 36 = .ok (.iload_n 1, 1) := by decide +kernel
theorem dX3_nextExercise_37 : decode cX3_nextExercise 37 = .ok (.iadd, 1) := by decide +kernel
theorem dX3_nextExercise_38 : decode cX3_nextExercise 38 = .ok (.invokevirtual 152, 3) := by decide +kernel
theorem dX3_nextExercise_41 : decode cX3_nextExercise 41 = .ok (.ifCond .eq 5, 3) := by decide +kernel
theorem dX3_nextExercise_44 : decode cX3_nextExercise 44 = .ok (.iload_n 1, 1) := by decide +kernel
theorem dX3_nextExercise_45 : decode cX3_nextExercise 45 = .ok (.ireturn, 1) := by decide +kernel
theorem dX3_nextExercise_46 : decode cX3_nextExercise 46 = .ok (.iinc 2 1, 3) := by decide +kernel
theorem dX3_nextExercise_49 : decode cX3_nextExercise 49 = .ok (.goto (-39), 3) := by decide +kernel
theorem dX3_nextExercise_52 : decode cX3_nextExercise 52 = .ok (.iinc 1 1, 3) := by decide +kernel
theorem dX3_nextExercise_55 : decode cX3_nextExercise 55 = .ok (.goto (-53), 3) := by decide +kernel
theorem dX3_nextExercise_58 : decode cX3_nextExercise 58 = .ok (.iconst (-1), 1) := by decide +kernel
theorem dX3_nextExercise_59 : decode cX3_nextExercise 59 = .ok (.ireturn, 1) := by decide +kernel
theorem dX3_free_0 : decode cX3_free 0 = .ok (.aload_n 0, 1) := by decide +kernel
theorem dX3_free_1 : decode cX3_free 1 = .ok (.getfield 10, 3) := by decide +kernel
theorem dX3_free_4 : decode cX3_free 4 = .ok (.getfield 95, 3) := by decide +kernel
theorem dX3_free_7 : decode cX3_free 7 = .ok (.iload_n 1, 1) := by decide +kernel
theorem dX3_free_8 : decode cX3_free 8 = .ok (.invokestatic 134, 3) := by decide +kernel
theorem dX3_free_11 : decode cX3_free 11 = .ok (.aload_n 0, 1) := by decide +kernel
theorem dX3_free_12 : decode cX3_free 12 = .ok (.getfield 16, 3) := by decide +kernel
theorem dX3_free_15 : decode cX3_free 15 = .ok (.aload_n 0, 1) := by decide +kernel
theorem dX3_free_16 : decode cX3_free 16 = .ok (.getfield 10, 3) := by decide +kernel
theorem dX3_free_19 : decode cX3_free 19 = .ok (.invokevirtual 73, 3) := by decide +kernel
theorem dX3_free_22 : decode cX3_free 22 = .ok (.aload_n 0, 1) := by decide +kernel
theorem dX3_free_23 : decode cX3_free 23 = .ok (.getfield 16, 3) := by decide +kernel
theorem dX3_free_26 : decode cX3_free 26 = .ok (.invokevirtual 200, 3) := by decide +kernel
theorem dX3_free_29 : decode cX3_free 29 = .ok (.aload_n 0, 1) := by decide +kernel
theorem dX3_free_30 : decode cX3_free 30 = .ok (.getfield 16, 3) := by decide +kernel
theorem dX3_free_33 : decode cX3_free 33 = .ok (.iload_n 1, 1) := by decide +kernel
theorem dX3_free_34 : decode cX3_free 34 = .ok (.aload_n 0, 1) := by decide +kernel
theorem dX3_free_35 : decode cX3_free 35 = .ok (.getfield 16, 3) := by decide +kernel
theorem dX3_free_38 : decode cX3_free 38 = .ok (.getfield 159, 3) := by decide +kernel
theorem dX3_free_41 : decode cX3_free 41 = .ok (.getfield 84, 3) := by decide +kernel
theorem dX3_free_44 : decode cX3_free 44 = .ok (.sipush 999, 3) := by decide +kernel
theorem dX3_free_47 : decode cX3_free 47 = .ok (.invokevirtual 203, 3) := by decide +kernel
theorem dX3_free_50 : decode cX3_free 50 = .ok (.ireturn, 1) := by decide +kernel
theorem dX3_bestReach_0 : decode cX3_bestReach 0 = .ok (.aload_n 0, 1) := by decide +kernel
theorem dX3_bestReach_1 : decode cX3_bestReach 1 = .ok (.getfield 10, 3) := by decide +kernel
theorem dX3_bestReach_4 : decode cX3_bestReach 4 = .ok (.getfield 80, 3) := by decide +kernel
theorem dX3_bestReach_7 : decode cX3_bestReach 7 = .ok (.iload_n 1, 1) := by decide +kernel
theorem dX3_bestReach_8 : decode cX3_bestReach 8 = .ok (.invokestatic 134, 3) := by decide +kernel
theorem dX3_bestReach_11 : decode cX3_bestReach 11 = .ok (.iconst 0, 1) := by decide +kernel
theorem dX3_bestReach_12 : decode cX3_bestReach 12 = .ok (.istore_n 2, 1) := by decide +kernel
theorem dX3_bestReach_13 : decode cX3_bestReach 13 = .ok (.iconst (-1), 1) := by decide +kernel
theorem dX3_bestReach_14 : decode cX3_bestReach 14 = .ok (.istore_n 3, 1) := by decide +kernel
theorem dX3_bestReach_15 : decode cX3_bestReach 15 = .ok (.iconst 0, 1) := by decide +kernel
theorem dX3_bestReach_16 : decode cX3_bestReach 16 = .ok (.istore 4, 2) := by decide +kernel
theorem dX3_bestReach_18 : decode cX3_bestReach 18 = .ok (.iload 4, 2) := by decide +kernel
theorem dX3_bestReach_20 : decode cX3_bestReach 20 = .ok (.aload_n 0, 1) := by decide +kernel
theorem dX3_bestReach_21 : decode cX3_bestReach 21 = .ok (.getfield 10, 3) := by decide +kernel
theorem dX3_bestReach_24 : decode cX3_bestReach 24 = .ok (.getfield 95, 3) := by decide +kernel
theorem dX3_bestReach_27 : decode cX3_bestReach 27 = .ok (.getfield 84, 3) := by decide +kernel
theorem dX3_bestReach_30 : decode cX3_bestReach 30 = .ok (.if_icmp .ge 30, 3) := by decide +kernel
theorem dX3_bestReach_33 : decode cX3_bestReach 33 = .ok (.aload_n 0, 1) := by decide +kernel
theorem dX3_bestReach_34 : decode cX3_bestReach 34 = .ok (.iload_n 1, 1) := by decide +kernel
theorem dX3_bestReach_35 : decode cX3_bestReach 35 = .ok (.iload 4, 2) := by decide +kernel
theorem dX3_bestReach_37 : decode cX3_bestReach 37 = .ok (.invokevirtual 207, 3) := by decide +kernel
theorem dX3_bestReach_40 : decode cX3_bestReach 40 = .ok (.istore 5, 2) := by decide +kernel
theorem dX3_bestReach_42 : decode cX3_bestReach 42 = .ok (.iload 5, 2) := by decide +kernel
theorem dX3_bestReach_44 : decode cX3_bestReach 44 = .ok (.iload_n 3, 1) := by decide +kernel
theorem dX3_bestReach_45 : decode cX3_bestReach 45 = .ok (.if_icmp .le 9, 3) := by decide +kernel
theorem dX3_bestReach_48 : decode cX3_bestReach 48 = .ok (.iload 4, 2) := by decide +kernel
theorem dX3_bestReach_50 : decode cX3_bestReach 50 = .ok (.istore_n 2, 1) := by decide +kernel
theorem dX3_bestReach_51 : decode cX3_bestReach 51 = .ok (.iload 5, 2) := by decide +kernel
theorem dX3_bestReach_53 : decode cX3_bestReach 53 = .ok (.istore_n 3, 1) := by decide +kernel
theorem dX3_bestReach_54 : decode cX3_bestReach 54 = .ok (.iinc 4 1, 3) := by decide +kernel
theorem dX3_bestReach_57 : decode cX3_bestReach 57 = .ok (.goto (-39), 3) := by decide +kernel
theorem dX3_bestReach_60 : decode cX3_bestReach 60 = .ok (.iload_n 2, 1) := by decide +kernel
theorem dX3_bestReach_61 : decode cX3_bestReach 61 = .ok (.ireturn, 1) := by decide +kernel
theorem dX3_gotByOneLease_0 : decode cX3_gotByOneLease 0 = .ok (.aload_n 0, 1) := by decide +kernel
theorem dX3_gotByOneLease_1 : decode cX3_gotByOneLease 1 = .ok (.getfield 16, 3) := by decide +kernel
theorem dX3_gotByOneLease_4 : decode cX3_gotByOneLease 4 = .ok (.aload_n 0, 1) := by decide +kernel
theorem dX3_gotByOneLease_5 : decode cX3_gotByOneLease 5 = .ok (.getfield 10, 3) := by decide +kernel
theorem dX3_gotByOneLease_8 : decode cX3_gotByOneLease 8 = .ok (.invokevirtual 73, 3) := by decide +kernel
theorem dX3_gotByOneLease_11 : decode cX3_gotByOneLease 11 = .ok (.aload_n 0, 1) := by decide +kernel
theorem dX3_gotByOneLease_12 : decode cX3_gotByOneLease 12 = .ok (.getfield 16, 3) := by decide +kernel
theorem dX3_gotByOneLease_15 : decode cX3_gotByOneLease 15 = .ok (.getfield 101, 3) := by decide +kernel
theorem dX3_gotByOneLease_18 : decode cX3_gotByOneLease 18 = .ok (.iconst 0, 1) := by decide +kernel
theorem dX3_gotByOneLease_19 : decode cX3_gotByOneLease 19 = .ok (.iload_n 1, 1) := by decide +kernel
theorem dX3_gotByOneLease_20 : decode cX3_gotByOneLease 20 = .ok (.invokevirtual 210, 3) := by decide +kernel
theorem dX3_gotByOneLease_23 : decode cX3_gotByOneLease 23 = .ok (.aload_n 0, 1) := by decide +kernel
theorem dX3_gotByOneLease_24 : decode cX3_gotByOneLease 24 = .ok (.getfield 16, 3) := by decide +kernel
theorem dX3_gotByOneLease_27 : decode cX3_gotByOneLease 27 = .ok (.getfield 104, 3) := by decide +kernel
theorem dX3_gotByOneLease_30 : decode cX3_gotByOneLease 30 = .ok (.iconst 0, 1) := by decide +kernel
theorem dX3_gotByOneLease_31 : decode cX3_gotByOneLease 31 = .ok (.iload_n 1, 1) := by decide +kernel
theorem dX3_gotByOneLease_32 : decode cX3_gotByOneLease 32 = .ok (.invokevirtual 210, 3) := by decide +kernel
theorem dX3_gotByOneLease_35 : decode cX3_gotByOneLease 35 = .ok (.aload_n 0, 1) := by decide +kernel
theorem dX3_gotByOneLease_36 : decode cX3_gotByOneLease 36 = .ok (.getfield 16, 3) := by decide +kernel
theorem dX3_gotByOneLease_39 : decode cX3_gotByOneLease 39 = .ok (.iload_n 1, 1) := by decide +kernel
theorem dX3_gotByOneLease_40 : decode cX3_gotByOneLease 40 = .ok (.iconst 0, 1) := by decide +kernel
theorem dX3_gotByOneLease_41 : decode cX3_gotByOneLease 41 = .ok (.iload_n 2, 1) := by decide +kernel
theorem dX3_gotByOneLease_42 : decode cX3_gotByOneLease 42 = .ok (.aload_n 0, 1) := by decide +kernel
theorem dX3_gotByOneLease_43 : decode cX3_gotByOneLease 43 = .ok (.getfield 10, 3) := by decide +kernel
theorem dX3_gotByOneLease_46 : decode cX3_gotByOneLease 46 = .ok (.getfield 80, 3) := by decide +kernel
theorem dX3_gotByOneLease_49 : decode cX3_gotByOneLease 49 = .ok (.iload_n 1, 1) := by decide +kernel
theorem dX3_gotByOneLease_50 : decode cX3_gotByOneLease 50 = .ok (.iconst 3, 1) := by decide +kernel
theorem dX3_gotByOneLease_51 : decode cX3_gotByOneLease 51 = .ok (.invokevirtual 138, 3) := by decide +kernel
theorem dX3_gotByOneLease_54 : decode cX3_gotByOneLease 54 = .ok (.iconst 0, 1) := by decide +kernel
theorem dX3_gotByOneLease_55 : decode cX3_gotByOneLease 55 = .ok (.iconst 1, 1) := by decide +kernel
theorem dX3_gotByOneLease_56 : decode cX3_gotByOneLease 56 = .ok (.invokevirtual 213, 3) := by decide +kernel
theorem dX3_gotByOneLease_59 : decode cX3_gotByOneLease 59 = .ok (.pop, 1) := by decide +kernel
theorem dX3_gotByOneLease_60 : decode cX3_gotByOneLease 60 = .ok (.aload_n 0, 1) := by decide +kernel
theorem dX3_gotByOneLease_61 : decode cX3_gotByOneLease 61 = .ok (.getfield 16, 3) := by decide +kernel
theorem dX3_gotByOneLease_64 : decode cX3_gotByOneLease 64 = .ok (.iconst (-1), 1) := by decide +kernel
theorem dX3_gotByOneLease_65 : decode cX3_gotByOneLease 65 = .ok (.invokevirtual 197, 3) := by decide +kernel
theorem dX3_gotByOneLease_68 : decode cX3_gotByOneLease 68 = .ok (.pop, 1) := by decide +kernel
theorem dX3_gotByOneLease_69 : decode cX3_gotByOneLease 69 = .ok (.aload_n 0, 1) := by decide +kernel
theorem dX3_gotByOneLease_70 : decode cX3_gotByOneLease 70 = .ok (.getfield 16, 3) := by decide +kernel
theorem dX3_gotByOneLease_73 : decode cX3_gotByOneLease 73 = .ok (.getfield 80, 3) := by decide +kernel
theorem dX3_gotByOneLease_76 : decode cX3_gotByOneLease 76 = .ok (.iload_n 1, 1) := by decide +kernel
theorem dX3_gotByOneLease_77 : decode cX3_gotByOneLease 77 = .ok (.bipush 7, 2) := by decide +kernel
theorem dX3_gotByOneLease_79 : decode cX3_gotByOneLease 79 = .ok (.invokevirtual 138, 3) := by decide +kernel
theorem dX3_gotByOneLease_82 : decode cX3_gotByOneLease 82 = .ok (.aload_n 0, 1) := by decide +kernel
theorem dX3_gotByOneLease_83 : decode cX3_gotByOneLease 83 = .ok (.getfield 10, 3) := by decide +kernel
theorem dX3_gotByOneLease_86 : decode cX3_gotByOneLease 86 = .ok (.getfield 80, 3) := by decide +kernel
theorem dX3_gotByOneLease_89 : decode cX3_gotByOneLease 89 = .ok (.iload_n 1, 1) := by decide +kernel
theorem dX3_gotByOneLease_90 : decode cX3_gotByOneLease 90 = .ok (.bipush 7, 2) := by decide +kernel
theorem dX3_gotByOneLease_92 : decode cX3_gotByOneLease 92 = .ok (.invokevirtual 138, 3) := by decide +kernel
theorem dX3_gotByOneLease_95 : decode cX3_gotByOneLease 95 = .ok (.isub, 1) := by decide +kernel
theorem dX3_gotByOneLease_96 : decode cX3_gotByOneLease 96 = .ok (.ireturn, 1) := by decide +kernel
theorem dX3_injured_0 : decode cX3_injured 0 = .ok (.aload_n 0, 1) := by decide +kernel
theorem dX3_injured_1 : decode cX3_injured 1 = .ok (.getfield 10, 3) := by decide +kernel
theorem dX3_injured_4 : decode cX3_injured 4 = .ok (.getfield 80, 3) := by decide +kernel
theorem dX3_injured_7 : decode cX3_injured 7 = .ok (.iload_n 1, 1) := by decide +kernel
theorem dX3_injured_8 : decode cX3_injured 8 = .ok (.invokestatic 134, 3) := by decide +kernel
theorem dX3_injured_11 : decode cX3_injured 11 = .ok (.aload_n 0, 1) := by decide +kernel
theorem dX3_injured_12 : decode cX3_injured 12 = .ok (.getfield 10, 3) := by decide +kernel
theorem dX3_injured_15 : decode cX3_injured 15 = .ok (.getfield 95, 3) := by decide +kernel
theorem dX3_injured_18 : decode cX3_injured 18 = .ok (.iload_n 2, 1) := by decide +kernel
theorem dX3_injured_19 : decode cX3_injured 19 = .ok (.invokestatic 134, 3) := by decide +kernel
theorem dX3_injured_22 : decode cX3_injured 22 = .ok (.iload_n 3, 1) := by decide +kernel
theorem dX3_injured_23 : decode cX3_injured 23 = .ok (.iconst 1, 1) := by decide +kernel
theorem dX3_injured_24 : decode cX3_injured 24 = .ok (.sipush 999, 3) := by decide +kernel
theorem dX3_injured_27 : decode cX3_injured 27 = .ok (.invokestatic 187, 3) := by decide +kernel
theorem dX3_injured_30 : decode cX3_injured 30 = .ok (.aload_n 0, 1) := by decide +kernel
theorem dX3_injured_31 : decode cX3_injured 31 = .ok (.iconst 1, 1) := by decide +kernel
theorem dX3_injured_32 : decode cX3_injured 32 = .ok (.invokevirtual 191, 3) := by decide +kernel
theorem dX3_injured_35 : decode cX3_injured 35 = .ok (.aload_n 0, 1) := by decide +kernel
theorem dX3_injured_36 : decode cX3_injured 36 = .ok (.invokevirtual 217, 3) := by decide +kernel
theorem dX3_injured_39 : decode cX3_injured 39 = .ok (.aload_n 0, 1) := by decide +kernel
theorem dX3_injured_40 : decode cX3_injured 40 = .ok (.getfield 16, 3) := by decide +kernel
theorem dX3_injured_43 : decode cX3_injured 43 = .ok (.aload_n 0, 1) := by decide +kernel
theorem dX3_injured_44 : decode cX3_injured 44 = .ok (.getfield 10, 3) := by decide +kernel
theorem dX3_injured_47 : decode cX3_injured 47 = .ok (.invokevirtual 73, 3) := by decide +kernel
theorem dX3_injured_50 : decode cX3_injured 50 = .ok (.aload_n 0, 1) := by decide +kernel
theorem dX3_injured_51 : decode cX3_injured 51 = .ok (.getfield 16, 3) := by decide +kernel
theorem dX3_injured_54 : decode cX3_injured 54 = .ok (.iload_n 1, 1) := by decide +kernel
theorem dX3_injured_55 : decode cX3_injured 55 = .ok (.aload_n 0, 1) := by decide +kernel
theorem dX3_injured_56 : decode cX3_injured 56 = .ok (.getfield 10, 3) := by decide +kernel
theorem dX3_injured_59 : decode cX3_injured 59 = .ok (.getfield 80, 3) := by decide +kernel
theorem dX3_injured_62 : decode cX3_injured 62 = .ok (.iload_n 1, 1) := by decide +kernel
theorem dX3_injured_63 : decode cX3_injured 63 = .ok (.iconst 0, 1) := by decide +kernel
theorem dX3_injured_64 : decode cX3_injured 64 = .ok (.invokevirtual 138, 3) := by decide +kernel
theorem dX3_injured_67 : decode cX3_injured 67 = .ok (.iload_n 2, 1) := by decide +kernel
theorem dX3_injured_68 : decode cX3_injured 68 = .ok (.iload_n 3, 1) := by decide +kernel
theorem dX3_injured_69 : decode cX3_injured 69 = .ok (.iconst 0, 1) := by decide +kernel
theorem dX3_injured_70 : decode cX3_injured 70 = .ok (.iconst 1, 1) := by decide +kernel
theorem dX3_injured_71 : decode cX3_injured 71 = .ok (.invokevirtual 213, 3) := by decide +kernel
theorem dX3_injured_74 : decode cX3_injured 74 = .ok (.pop, 1) := by decide +kernel
theorem dX3_injured_75 : decode cX3_injured 75 = .ok (.aload_n 0, 1) := by decide +kernel
theorem dX3_injured_76 : decode cX3_injured 76 = .ok (.getfield 16, 3) := by decide +kernel
theorem dX3_injured_79 : decode cX3_injured 79 = .ok (.iconst (-1), 1) := by decide +kernel
theorem dX3_injured_80 : decode cX3_injured 80 = .ok (.invokevirtual 197, 3) := by decide +kernel
theorem dX3_injured_83 : decode cX3_injured 83 = .ok (.pop, 1) := by decide +kernel
theorem dX3_injured_84 : decode cX3_injured 84 = .ok (.aload_n 0, 1) := by decide +kernel
theorem dX3_injured_85 : decode cX3_injured 85 = .ok (.iload_n 1, 1) := by decide +kernel
theorem dX3_injured_86 : decode cX3_injured 86 = .ok (.iconst 0, 1) := by decide +kernel
theorem dX3_injured_87 : decode cX3_injured 87 = .ok (.invokevirtual 220, 3) := by decide +kernel
theorem dX3_injured_90 : decode cX3_injured 90 = .ok (.ireturn, 1) := by decide +kernel
theorem dX3_blocked_0 : decode cX3_blocked 0 = .ok (.aload_n 0, 1) := by decide +kernel
theorem dX3_blocked_1 : decode cX3_blocked 1 = .ok (.getfield 10, 3) := by decide +kernel
theorem dX3_blocked_4 : decode cX3_blocked 4 = .ok (.getfield 80, 3) := by decide +kernel
theorem dX3_blocked_7 : decode cX3_blocked 7 = .ok (.iload_n 1, 1) := by decide +kernel
theorem dX3_blocked_8 : decode cX3_blocked 8 = .ok (.invokestatic 134, 3) := by decide +kernel
theorem dX3_blocked_11 : decode cX3_blocked 11 = .ok (.aload_n 0, 1) := by decide +kernel
theorem dX3_blocked_12 : decode cX3_blocked 12 = .ok (.iconst 1, 1) := by decide +kernel
theorem dX3_blocked_13 : decode cX3_blocked 13 = .ok (.invokevirtual 191, 3) := by decide +kernel
theorem dX3_blocked_16 : decode cX3_blocked 16 = .ok (.aload_n 0, 1) := by decide +kernel
theorem dX3_blocked_17 : decode cX3_blocked 17 = .ok (.invokevirtual 217, 3) := by decide +kernel
theorem dX3_blocked_20 : decode cX3_blocked 20 = .ok (.aload_n 0, 1) := by decide +kernel
theorem dX3_blocked_21 : decode cX3_blocked 21 = .ok (.getfield 16, 3) := by decide +kernel
theorem dX3_blocked_24 : decode cX3_blocked 24 = .ok (.aload_n 0, 1) := by decide +kernel
theorem dX3_blocked_25 : decode cX3_blocked 25 = .ok (.getfield 10, 3) := by decide +kernel
theorem dX3_blocked_28 : decode cX3_blocked 28 = .ok (.invokevirtual 73, 3) := by decide +kernel
theorem dX3_blocked_31 : decode cX3_blocked 31 = .ok (.aload_n 0, 1) := by decide +kernel
theorem dX3_blocked_32 : decode cX3_blocked 32 = .ok (.getfield 16, 3) := by decide +kernel
theorem dX3_blocked_35 : decode cX3_blocked 35 = .ok (.iload_n 1, 1) := by decide +kernel
theorem dX3_blocked_36 : decode cX3_blocked 36 = .ok (.invokevirtual 197, 3) := by decide +kernel
theorem dX3_blocked_39 : decode cX3_blocked 39 = .ok (.pop, 1) := by decide +kernel
theorem dX3_blocked_40 : decode cX3_blocked 40 = .ok (.aload_n 0, 1) := by decide +kernel
theorem dX3_blocked_41 : decode cX3_blocked 41 = .ok (.iload_n 1, 1) := by decide +kernel
theorem dX3_blocked_42 : decode cX3_blocked 42 = .ok (.iconst 1, 1) := by decide +kernel
theorem dX3_blocked_43 : decode cX3_blocked 43 = .ok (.invokevirtual 220, 3) := by decide +kernel
theorem dX3_blocked_46 : decode cX3_blocked 46 = .ok (.ireturn, 1) := by decide +kernel
theorem dX3_keepUsualGot_0 : decode cX3_keepUsualGot 0 = .ok (.iconst 0, 1) := by decide +kernel
theorem dX3_keepUsualGot_1 : decode cX3_keepUsualGot 1 = .ok (.istore_n 1, 1) := by decide +kernel
theorem dX3_keepUsualGot_2 : decode cX3_keepUsualGot 2 = .ok (.iload_n 1, 1) := by decide +kernel
theorem dX3_keepUsualGot_3 : decode cX3_keepUsualGot 3 = .ok (.bipush 10, 2) := by decide +kernel
theorem dX3_keepUsualGot_5 : decode cX3_keepUsualGot 5 = .ok (.if_icmp .ge 28, 3) := by decide +kernel
theorem dX3_keepUsualGot_8 : decode cX3_keepUsualGot 8 = .ok (.aload_n 0, 1) := by decide +kernel
theorem dX3_keepUsualGot_9 : decode cX3_keepUsualGot 9 = .ok (.getfield 26, 3) := by decide +kernel
theorem dX3_keepUsualGot_12 : decode cX3_keepUsualGot 12 = .ok (.iload_n 1, 1) := by decide +kernel
theorem dX3_keepUsualGot_13 : decode cX3_keepUsualGot 13 = .ok (.aload_n 0, 1) := by decide +kernel
theorem dX3_keepUsualGot_14 : decode cX3_keepUsualGot 14 = .ok (.getfield 16, 3) := by decide +kernel
theorem dX3_keepUsualGot_17 : decode cX3_keepUsualGot 17 = .ok (.getfield 80, 3) := by decide +kernel
theorem dX3_keepUsualGot_20 : decode cX3_keepUsualGot 20 = .ok (.iload_n 1, 1) := by decide +kernel
theorem dX3_keepUsualGot_21 : decode cX3_keepUsualGot 21 = .ok (.bipush 7, 2) := by decide +kernel
theorem dX3_keepUsualGot_23 : decode cX3_keepUsualGot 23 = .ok (.invokevirtual 138, 3) := by decide +kernel
theorem dX3_keepUsualGot_26 : decode cX3_keepUsualGot 26 = .ok (.iastore, 1) := by decide +kernel
theorem dX3_keepUsualGot_27 : decode cX3_keepUsualGot 27 = .ok (.iinc 1 1, 3) := by decide +kernel
theorem dX3_keepUsualGot_30 : decode cX3_keepUsualGot 30 = .ok (.goto (-28), 3) := by decide +kernel
theorem dX3_keepUsualGot_33 : decode cX3_keepUsualGot 33 = .ok (.return_, 1) := by decide +kernel
theorem dX3_run_0 : decode cX3_run 0 = .ok (.iload_n 1, 1) := by decide +kernel
theorem dX3_run_1 : decode cX3_run 1 = .ok (.iconst 1, 1) := by decide +kernel
theorem dX3_run_2 : decode cX3_run 2 = .ok (.bipush 36, 2) := by decide +kernel
theorem dX3_run_4 : decode cX3_run 4 = .ok (.invokestatic 187, 3) := by decide +kernel
theorem dX3_run_7 : decode cX3_run 7 = .ok (.aload_n 0, 1) := by decide +kernel
theorem dX3_run_8 : decode cX3_run 8 = .ok (.invokevirtual 194, 3) := by decide +kernel
theorem dX3_run_11 : decode cX3_run 11 = .ok (.aload_n 0, 1) := by decide +kernel
theorem dX3_run_12 : decode cX3_run 12 = .ok (.invokevirtual 224, 3) := by decide +kernel
theorem dX3_run_15 : decode cX3_run 15 = .ok (.iconst 0, 1) := by decide +kernel
theorem dX3_run_16 : decode cX3_run 16 = .ok (.istore_n 2, 1) := by decide +kernel
theorem dX3_run_17 : decode cX3_run 17 = .ok (.iconst 0, 1) := by decide +kernel
theorem dX3_run_18 : decode cX3_run 18 = .ok (.istore_n 3, 1) := by decide +kernel
theorem dX3_run_19 : decode cX3_run 19 = .ok (.iload_n 3, 1) := by decide +kernel
theorem dX3_run_20 : decode cX3_run 20 = .ok (.iload_n 1, 1) := by decide +kernel
theorem dX3_run_21 : decode cX3_run 21 = .ok (.if_icmp .ge 20, 3) := by decide +kernel
theorem dX3_run_24 : decode cX3_run 24 = .ok (.iload_n 2, 1) := by decide +kernel
theorem dX3_run_25 : decode cX3_run 25 = .ok (.aload_n 0, 1) := by decide +kernel
theorem dX3_run_26 : decode cX3_run 26 = .ok (.getfield 10, 3) := by decide +kernel
theorem dX3_run_29 : decode cX3_run 29 = .ok (.iconst (-1), 1) := by decide +kernel
theorem dX3_run_30 : decode cX3_run 30 = .ok (.invokevirtual 197, 3) := by decide +kernel
theorem dX3_run_33 : decode cX3_run 33 = .ok (.iadd, 1) := by decide +kernel
theorem dX3_run_34 : decode cX3_run 34 = .ok (.istore_n 2, 1) := by decide +kernel
theorem dX3_run_35 : decode cX3_run 35 = .ok (.iinc 3 1, 3) := by decide +kernel
theorem dX3_run_38 : decode cX3_run 38 = .ok (.goto (-19), 3) := by decide +kernel
theorem dX3_run_41 : decode cX3_run 41 = .ok (.iload_n 2, 1) := by decide +kernel
theorem dX3_run_42 : decode cX3_run 42 = .ok (.ireturn, 1) := by decide +kernel
theorem dX3_lease_0 : decode cX3_lease 0 = .ok (.aload_n 0, 1) := by decide +kernel
theorem dX3_lease_1 : decode cX3_lease 1 = .ok (.getfield 10, 3) := by decide +kernel
theorem dX3_lease_4 : decode cX3_lease 4 = .ok (.getfield 80, 3) := by decide +kernel
theorem dX3_lease_7 : decode cX3_lease 7 = .ok (.iload_n 1, 1) := by decide +kernel
theorem dX3_lease_8 : decode cX3_lease 8 = .ok (.invokestatic 134, 3) := by decide +kernel
theorem dX3_lease_11 : decode cX3_lease 11 = .ok (.aload_n 0, 1) := by decide +kernel
theorem dX3_lease_12 : decode cX3_lease 12 = .ok (.getfield 10, 3) := by decide +kernel
theorem dX3_lease_15 : decode cX3_lease 15 = .ok (.getfield 98, 3) := by decide +kernel
theorem dX3_lease_18 : decode cX3_lease 18 = .ok (.iload_n 2, 1) := by decide +kernel
theorem dX3_lease_19 : decode cX3_lease 19 = .ok (.invokestatic 134, 3) := by decide +kernel
theorem dX3_lease_22 : decode cX3_lease 22 = .ok (.aload_n 0, 1) := by decide +kernel
theorem dX3_lease_23 : decode cX3_lease 23 = .ok (.getfield 10, 3) := by decide +kernel
theorem dX3_lease_26 : decode cX3_lease 26 = .ok (.getfield 95, 3) := by decide +kernel
theorem dX3_lease_29 : decode cX3_lease 29 = .ok (.iload_n 3, 1) := by decide +kernel
theorem dX3_lease_30 : decode cX3_lease 30 = .ok (.invokestatic 134, 3) := by decide +kernel
theorem dX3_lease_33 : decode cX3_lease 33 = .ok (.iload 4, 2) := by decide +kernel
theorem dX3_lease_35 : decode cX3_lease 35 = .ok (.iconst 1, 1) := by decide +kernel
theorem dX3_lease_36 : decode cX3_lease 36 = .ok (.sipush 999, 3) := by decide +kernel
theorem dX3_lease_39 : decode cX3_lease 39 = .ok (.invokestatic 187, 3) := by decide +kernel
theorem dX3_lease_42 : decode cX3_lease 42 = .ok (.iload 5, 2) := by decide +kernel
theorem dX3_lease_44 : decode cX3_lease 44 = .ok (.iconst 0, 1) := by decide +kernel
theorem dX3_lease_45 : decode cX3_lease 45 = .ok (.bipush 99, 2) := by decide +kernel
theorem dX3_lease_47 : decode cX3_lease 47 = .ok (.invokestatic 187, 3) := by decide +kernel
theorem dX3_lease_50 : decode cX3_lease 50 = .ok (.iload 6, 2) := by decide +kernel
theorem dX3_lease_52 : decode cX3_lease 52 = .ok (.iconst 1, 1) := by decide +kernel
theorem dX3_lease_53 : decode cX3_lease 53 = .ok (.bipush 36, 2) := by decide +kernel
theorem dX3_lease_55 : decode cX3_lease 55 = .ok (.invokestatic 187, 3) := by decide +kernel
theorem dX3_lease_58 : decode cX3_lease 58 = .ok (.aload_n 0, 1) := by decide +kernel
theorem dX3_lease_59 : decode cX3_lease 59 = .ok (.getfield 10, 3) := by decide +kernel
theorem dX3_lease_62 : decode cX3_lease 62 = .ok (.getfield 101, 3) := by decide +kernel
theorem dX3_lease_65 : decode cX3_lease 65 = .ok (.getfield 84, 3) := by decide +kernel
theorem dX3_lease_68 : decode cX3_lease 68 = .ok (.bipush 8, 2) := by decide +kernel
theorem dX3_lease_70 : decode cX3_lease 70 = .ok (.if_icmp .lt 13, 3) := by decide +kernel
theorem dX3_lease_73 : decode cX3_lease 73 = .ok (.new 227, 3) := by decide +kernel
theorem dX3_lease_76 : decode cX3_lease 76 = .ok (.dup, 1) := by decide +kernel
theorem dX3_lease_77 : decode cX3_lease 77 = .ok (.ldc 229, 2) := by decide +kernel
theorem dX3_lease_79 : decode cX3_lease 79 = .ok (.invokespecial 231, 3) := by decide +kernel
theorem dX3_lease_82 : decode cX3_lease 82 = .ok (.athrow, 1) := by decide +kernel
theorem dX3_lease_83 : decode cX3_lease 83 = .ok (.aload_n 0, 1) := by decide +kernel
theorem dX3_lease_84 : decode cX3_lease 84 = .ok (.invokevirtual 224, 3) := by decide +kernel
theorem dX3_lease_87 : decode cX3_lease 87 = .ok (.aload_n 0, 1) := by decide +kernel
theorem dX3_lease_88 : decode cX3_lease 88 = .ok (.getfield 10, 3) := by decide +kernel
theorem dX3_lease_91 : decode cX3_lease 91 = .ok (.iload_n 1, 1) := by decide +kernel
theorem dX3_lease_92 : decode cX3_lease 92 = .ok (.iload_n 2, 1) := by decide +kernel
theorem dX3_lease_93 : decode cX3_lease 93 = .ok (.iload_n 3, 1) := by decide +kernel
theorem dX3_lease_94 : decode cX3_lease 94 = .ok (.iload 4, 2) := by decide +kernel
theorem dX3_lease_96 : decode cX3_lease 96 = .ok (.iload 5, 2) := by decide +kernel
theorem dX3_lease_98 : decode cX3_lease 98 = .ok (.iload 6, 2) := by decide +kernel
theorem dX3_lease_100 : decode cX3_lease 100 = .ok (.invokevirtual 213, 3) := by decide +kernel
theorem dX3_lease_103 : decode cX3_lease 103 = .ok (.ireturn, 1) := by decide +kernel
theorem dX3_endLease_0 : decode cX3_endLease 0 = .ok (.aload_n 0, 1) := by decide +kernel
theorem dX3_endLease_1 : decode cX3_endLease 1 = .ok (.getfield 10, 3) := by decide +kernel
theorem dX3_endLease_4 : decode cX3_endLease 4 = .ok (.getfield 101, 3) := by decide +kernel
theorem dX3_endLease_7 : decode cX3_endLease 7 = .ok (.iload_n 1, 1) := by decide +kernel
theorem dX3_endLease_8 : decode cX3_endLease 8 = .ok (.invokestatic 134, 3) := by decide +kernel
theorem dX3_endLease_11 : decode cX3_endLease 11 = .ok (.aload_n 0, 1) := by decide +kernel
theorem dX3_endLease_12 : decode cX3_endLease 12 = .ok (.invokevirtual 224, 3) := by decide +kernel
theorem dX3_endLease_15 : decode cX3_endLease 15 = .ok (.aload_n 0, 1) := by decide +kernel
theorem dX3_endLease_16 : decode cX3_endLease 16 = .ok (.getfield 10, 3) := by decide +kernel
theorem dX3_endLease_19 : decode cX3_endLease 19 = .ok (.getfield 101, 3) := by decide +kernel
theorem dX3_endLease_22 : decode cX3_endLease 22 = .ok (.iload_n 1, 1) := by decide +kernel
theorem dX3_endLease_23 : decode cX3_endLease 23 = .ok (.iconst 5, 1) := by decide +kernel
theorem dX3_endLease_24 : decode cX3_endLease 24 = .ok (.invokevirtual 138, 3) := by decide +kernel
theorem dX3_endLease_27 : decode cX3_endLease 27 = .ok (.istore_n 2, 1) := by decide +kernel
theorem dX3_endLease_28 : decode cX3_endLease 28 = .ok (.aload_n 0, 1) := by decide +kernel
theorem dX3_endLease_29 : decode cX3_endLease 29 = .ok (.getfield 10, 3) := by decide +kernel
theorem dX3_endLease_32 : decode cX3_endLease 32 = .ok (.getfield 101, 3) := by decide +kernel
theorem dX3_endLease_35 : decode cX3_endLease 35 = .ok (.iload_n 1, 1) := by decide +kernel
theorem dX3_endLease_36 : decode cX3_endLease 36 = .ok (.invokevirtual 232, 3) := by decide +kernel
theorem dX3_endLease_39 : decode cX3_endLease 39 = .ok (.iload_n 2, 1) := by decide +kernel
theorem dX3_endLease_40 : decode cX3_endLease 40 = .ok (.ireturn, 1) := by decide +kernel
theorem dX3_release_0 : decode cX3_release 0 = .ok (.aload_n 0, 1) := by decide +kernel
theorem dX3_release_1 : decode cX3_release 1 = .ok (.getfield 10, 3) := by decide +kernel
theorem dX3_release_4 : decode cX3_release 4 = .ok (.getfield 98, 3) := by decide +kernel
theorem dX3_release_7 : decode cX3_release 7 = .ok (.iload_n 1, 1) := by decide +kernel
theorem dX3_release_8 : decode cX3_release 8 = .ok (.invokestatic 134, 3) := by decide +kernel
theorem dX3_release_11 : decode cX3_release 11 = .ok (.aload_n 0, 1) := by decide +kernel
theorem dX3_release_12 : decode cX3_release 12 = .ok (.getfield 10, 3) := by decide +kernel
theorem dX3_release_15 : decode cX3_release 15 = .ok (.getfield 95, 3) := by decide +kernel
theorem dX3_release_18 : decode cX3_release 18 = .ok (.iload_n 2, 1) := by decide +kernel
theorem dX3_release_19 : decode cX3_release 19 = .ok (.invokestatic 134, 3) := by decide +kernel
theorem dX3_release_22 : decode cX3_release 22 = .ok (.iload_n 3, 1) := by decide +kernel
theorem dX3_release_23 : decode cX3_release 23 = .ok (.iconst 1, 1) := by decide +kernel
theorem dX3_release_24 : decode cX3_release 24 = .ok (.if_icmp .ge 13, 3) := by decide +kernel
theorem dX3_release_27 : decode cX3_release 27 = .ok (.new 63, 3) := by decide +kernel
theorem dX3_release_30 : decode cX3_release 30 = .ok (.dup, 1) := by decide +kernel
theorem dX3_release_31 : decode cX3_release 31 = .ok (.ldc 235, 2) := by decide +kernel
theorem dX3_release_33 : decode cX3_release 33 = .ok (.invokespecial 67, 3) := by decide +kernel
theorem dX3_release_36 : decode cX3_release 36 = .ok (.athrow, 1) := by decide +kernel
theorem dX3_release_37 : decode cX3_release 37 = .ok (.aload_n 0, 1) := by decide +kernel
theorem dX3_release_38 : decode cX3_release 38 = .ok (.getfield 10, 3) := by decide +kernel
theorem dX3_release_41 : decode cX3_release 41 = .ok (.getfield 98, 3) := by decide +kernel
theorem dX3_release_44 : decode cX3_release 44 = .ok (.iload_n 1, 1) := by decide +kernel
theorem dX3_release_45 : decode cX3_release 45 = .ok (.iconst 0, 1) := by decide +kernel
theorem dX3_release_46 : decode cX3_release 46 = .ok (.invokevirtual 138, 3) := by decide +kernel
theorem dX3_release_49 : decode cX3_release 49 = .ok (.iload_n 3, 1) := by decide +kernel
theorem dX3_release_50 : decode cX3_release 50 = .ok (.if_icmp .ge 13, 3) := by decide +kernel
theorem dX3_release_53 : decode cX3_release 53 = .ok (.new 227, 3) := by decide +kernel
theorem dX3_release_56 : decode cX3_release 56 = .ok (.dup, 1) := by decide +kernel
theorem dX3_release_57 : decode cX3_release 57 = .ok (.ldc 237, 2) := by decide +kernel
theorem dX3_release_59 : decode cX3_release 59 = .ok (.invokespecial 231, 3) := by decide +kernel
theorem dX3_release_62 : decode cX3_release 62 = .ok (.athrow, 1) := by decide +kernel
theorem dX3_release_63 : decode cX3_release 63 = .ok (.aload_n 0, 1) := by decide +kernel
theorem dX3_release_64 : decode cX3_release 64 = .ok (.invokevirtual 224, 3) := by decide +kernel
theorem dX3_release_67 : decode cX3_release 67 = .ok (.aload_n 0, 1) := by decide +kernel
theorem dX3_release_68 : decode cX3_release 68 = .ok (.getfield 10, 3) := by decide +kernel
theorem dX3_release_71 : decode cX3_release 71 = .ok (.getfield 98, 3) := by decide +kernel
theorem dX3_release_74 : decode cX3_release 74 = .ok (.iload_n 1, 1) := by decide +kernel
theorem dX3_release_75 : decode cX3_release 75 = .ok (.iconst 0, 1) := by decide +kernel
theorem dX3_release_76 : decode cX3_release 76 = .ok (.iload_n 3, 1) := by decide +kernel
theorem dX3_release_77 : decode cX3_release 77 = .ok (.ineg, 1) := by decide +kernel
theorem dX3_release_78 : decode cX3_release 78 = .ok (.invokevirtual 239, 3) := by decide +kernel
theorem dX3_release_81 : decode cX3_release 81 = .ok (.aload_n 0, 1) := by decide +kernel
theorem dX3_release_82 : decode cX3_release 82 = .ok (.getfield 10, 3) := by decide +kernel
theorem dX3_release_85 : decode cX3_release 85 = .ok (.getfield 95, 3) := by decide +kernel
theorem dX3_release_88 : decode cX3_release 88 = .ok (.iload_n 2, 1) := by decide +kernel
theorem dX3_release_89 : decode cX3_release 89 = .ok (.iconst 2, 1) := by decide +kernel
theorem dX3_release_90 : decode cX3_release 90 = .ok (.iload_n 3, 1) := by decide +kernel
theorem dX3_release_91 : decode cX3_release 91 = .ok (.invokevirtual 239, 3) := by decide +kernel
theorem dX3_release_94 : decode cX3_release 94 = .ok (.aload_n 0, 1) := by decide +kernel
theorem dX3_release_95 : decode cX3_release 95 = .ok (.getfield 10, 3) := by decide +kernel
theorem dX3_release_98 : decode cX3_release 98 = .ok (.dup, 1) := by decide +kernel
theorem dX3_release_99 : decode cX3_release 99 = .ok (.getfield 184, 3) := by decide +kernel
theorem dX3_release_102 : decode cX3_release 102 = .ok (.iload_n 3, 1) := by decide +kernel
theorem dX3_release_103 : decode cX3_release 103 = .ok (.iadd, 1) := by decide +kernel
theorem dX3_release_104 : decode cX3_release 104 = .ok (.putfield 184, 3) := by decide +kernel
theorem dX3_release_107 : decode cX3_release 107 = .ok (.aload_n 0, 1) := by decide +kernel
theorem dX3_release_108 : decode cX3_release 108 = .ok (.getfield 10, 3) := by decide +kernel
theorem dX3_release_111 : decode cX3_release 111 = .ok (.getfield 98, 3) := by decide +kernel
theorem dX3_release_114 : decode cX3_release 114 = .ok (.iload_n 1, 1) := by decide +kernel
theorem dX3_release_115 : decode cX3_release 115 = .ok (.iconst 0, 1) := by decide +kernel
theorem dX3_release_116 : decode cX3_release 116 = .ok (.invokevirtual 138, 3) := by decide +kernel
theorem dX3_release_119 : decode cX3_release 119 = .ok (.ireturn, 1) := by decide +kernel
theorem dX3_setKeep_0 : decode cX3_setKeep 0 = .ok (.aload_n 0, 1) := by decide +kernel
theorem dX3_setKeep_1 : decode cX3_setKeep 1 = .ok (.getfield 10, 3) := by decide +kernel
theorem dX3_setKeep_4 : decode cX3_setKeep 4 = .ok (.getfield 80, 3) := by decide +kernel
theorem dX3_setKeep_7 : decode cX3_setKeep 7 = .ok (.iload_n 1, 1) := by decide +kernel
theorem dX3_setKeep_8 : decode cX3_setKeep 8 = .ok (.invokestatic 134, 3) := by decide +kernel
theorem dX3_setKeep_11 : decode cX3_setKeep 11 = .ok (.iload_n 2, 1) := by decide +kernel
theorem dX3_setKeep_12 : decode cX3_setKeep 12 = .ok (.iconst 0, 1) := by decide +kernel
theorem dX3_setKeep_13 : decode cX3_setKeep 13 = .ok (.bipush 100, 2) := by decide +kernel
theorem dX3_setKeep_15 : decode cX3_setKeep 15 = .ok (.invokestatic 187, 3) := by decide +kernel
theorem dX3_setKeep_18 : decode cX3_setKeep 18 = .ok (.aload_n 0, 1) := by decide +kernel
theorem dX3_setKeep_19 : decode cX3_setKeep 19 = .ok (.invokevirtual 224, 3) := by decide +kernel
theorem dX3_setKeep_22 : decode cX3_setKeep 22 = .ok (.aload_n 0, 1) := by decide +kernel
theorem dX3_setKeep_23 : decode cX3_setKeep 23 = .ok (.getfield 10, 3) := by decide +kernel
theorem dX3_setKeep_26 : decode cX3_setKeep 26 = .ok (.getfield 80, 3) := by decide +kernel
theorem dX3_setKeep_29 : decode cX3_setKeep 29 = .ok (.iload_n 1, 1) := by decide +kernel
theorem dX3_setKeep_30 : decode cX3_setKeep 30 = .ok (.bipush 6, 2) := by decide +kernel
theorem dX3_setKeep_32 : decode cX3_setKeep 32 = .ok (.invokevirtual 138, 3) := by decide +kernel
theorem dX3_setKeep_35 : decode cX3_setKeep 35 = .ok (.istore_n 3, 1) := by decide +kernel
theorem dX3_setKeep_36 : decode cX3_setKeep 36 = .ok (.aload_n 0, 1) := by decide +kernel
theorem dX3_setKeep_37 : decode cX3_setKeep 37 = .ok (.getfield 10, 3) := by decide +kernel
theorem dX3_setKeep_40 : decode cX3_setKeep 40 = .ok (.getfield 80, 3) := by decide +kernel
theorem dX3_setKeep_43 : decode cX3_setKeep 43 = .ok (.iload_n 1, 1) := by decide +kernel
theorem dX3_setKeep_44 : decode cX3_setKeep 44 = .ok (.bipush 6, 2) := by decide +kernel
theorem dX3_setKeep_46 : decode cX3_setKeep 46 = .ok (.iload_n 2, 1) := by decide +kernel
theorem dX3_setKeep_47 : decode cX3_setKeep 47 = .ok (.invokevirtual 242, 3) := by decide +kernel
theorem dX3_setKeep_50 : decode cX3_setKeep 50 = .ok (.iload_n 3, 1) := by decide +kernel
theorem dX3_setKeep_51 : decode cX3_setKeep 51 = .ok (.ireturn, 1) := by decide +kernel
theorem dX3_setMinimum_0 : decode cX3_setMinimum 0 = .ok (.aload_n 0, 1) := by decide +kernel
theorem dX3_setMinimum_1 : decode cX3_setMinimum 1 = .ok (.getfield 10, 3) := by decide +kernel
theorem dX3_setMinimum_4 : decode cX3_setMinimum 4 = .ok (.getfield 95, 3) := by decide +kernel
theorem dX3_setMinimum_7 : decode cX3_setMinimum 7 = .ok (.iload_n 1, 1) := by decide +kernel
theorem dX3_setMinimum_8 : decode cX3_setMinimum 8 = .ok (.invokestatic 134, 3) := by decide +kernel
theorem dX3_setMinimum_11 : decode cX3_setMinimum 11 = .ok (.iload_n 2, 1) := by decide +kernel
theorem dX3_setMinimum_12 : decode cX3_setMinimum 12 = .ok (.iconst 0, 1) := by decide +kernel
theorem dX3_setMinimum_13 : decode cX3_setMinimum 13 = .ok (.sipush 999, 3) := by decide +kernel
theorem dX3_setMinimum_16 : decode cX3_setMinimum 16 = .ok (.invokestatic 187, 3) := by decide +kernel
theorem dX3_setMinimum_19 : decode cX3_setMinimum 19 = .ok (.aload_n 0, 1) := by decide +kernel
theorem dX3_setMinimum_20 : decode cX3_setMinimum 20 = .ok (.invokevirtual 224, 3) := by decide +kernel
theorem dX3_setMinimum_23 : decode cX3_setMinimum 23 = .ok (.aload_n 0, 1) := by decide +kernel
theorem dX3_setMinimum_24 : decode cX3_setMinimum 24 = .ok (.getfield 10, 3) := by decide +kernel
theorem dX3_setMinimum_27 : decode cX3_setMinimum 27 = .ok (.getfield 95, 3) := by decide +kernel
theorem dX3_setMinimum_30 : decode cX3_setMinimum 30 = .ok (.iload_n 1, 1) := by decide +kernel
theorem dX3_setMinimum_31 : decode cX3_setMinimum 31 = .ok (.iconst 1, 1) := by decide +kernel
theorem dX3_setMinimum_32 : decode cX3_setMinimum 32 = .ok (.invokevirtual 138, 3) := by decide +kernel
theorem dX3_setMinimum_35 : decode cX3_setMinimum 35 = .ok (.istore_n 3, 1) := by decide +kernel
theorem dX3_setMinimum_36 : decode cX3_setMinimum 36 = .ok (.aload_n 0, 1) := by decide +kernel
theorem dX3_setMinimum_37 : decode cX3_setMinimum 37 = .ok (.getfield 10, 3) := by decide +kernel
theorem dX3_setMinimum_40 : decode cX3_setMinimum 40 = .ok (.getfield 95, 3) := by decide +kernel
theorem dX3_setMinimum_43 : decode cX3_setMinimum 43 = .ok (.iload_n 1, 1) := by decide +kernel
theorem dX3_setMinimum_44 : decode cX3_setMinimum 44 = .ok (.iconst 1, 1) := by decide +kernel
theorem dX3_setMinimum_45 : decode cX3_setMinimum 45 = .ok (.iload_n 2, 1) := by decide +kernel
theorem dX3_setMinimum_46 : decode cX3_setMinimum 46 = .ok (.invokevirtual 242, 3) := by decide +kernel
theorem dX3_setMinimum_49 : decode cX3_setMinimum 49 = .ok (.iload_n 3, 1) := by decide +kernel
theorem dX3_setMinimum_50 : decode cX3_setMinimum 50 = .ok (.ireturn, 1) := by decide +kernel
theorem dX3_transfer_0 : decode cX3_transfer 0 = .ok (.aload_n 0, 1) := by decide +kernel
theorem dX3_transfer_1 : decode cX3_transfer 1 = .ok (.getfield 10, 3) := by decide +kernel
theorem dX3_transfer_4 : decode cX3_transfer 4 = .ok (.getfield 80, 3) := by decide +kernel
theorem dX3_transfer_7 : decode cX3_transfer 7 = .ok (.iload_n 1, 1) := by decide +kernel
theorem dX3_transfer_8 : decode cX3_transfer 8 = .ok (.invokestatic 134, 3) := by decide +kernel
theorem dX3_transfer_11 : decode cX3_transfer 11 = .ok (.aload_n 0, 1) := by decide +kernel
theorem dX3_transfer_12 : decode cX3_transfer 12 = .ok (.getfield 10, 3) := by decide +kernel
theorem dX3_transfer_15 : decode cX3_transfer 15 = .ok (.getfield 98, 3) := by decide +kernel
theorem dX3_transfer_18 : decode cX3_transfer 18 = .ok (.iload_n 2, 1) := by decide +kernel
theorem dX3_transfer_19 : decode cX3_transfer 19 = .ok (.invokestatic 134, 3) := by decide +kernel
theorem dX3_transfer_22 : decode cX3_transfer 22 = .ok (.iload_n 3, 1) := by decide +kernel
theorem dX3_transfer_23 : decode cX3_transfer 23 = .ok (.iconst 0, 1) := by decide +kernel
theorem dX3_transfer_24 : decode cX3_transfer 24 = .ok (.sipush 9999, 3) := by decide +kernel
theorem dX3_transfer_27 : decode cX3_transfer 27 = .ok (.invokestatic 187, 3) := by decide +kernel
theorem dX3_transfer_30 : decode cX3_transfer 30 = .ok (.aload_n 0, 1) := by decide +kernel
theorem dX3_transfer_31 : decode cX3_transfer 31 = .ok (.invokevirtual 224, 3) := by decide +kernel
theorem dX3_transfer_34 : decode cX3_transfer 34 = .ok (.aload_n 0, 1) := by decide +kernel
theorem dX3_transfer_35 : decode cX3_transfer 35 = .ok (.getfield 10, 3) := by decide +kernel
theorem dX3_transfer_38 : decode cX3_transfer 38 = .ok (.getfield 80, 3) := by decide +kernel
theorem dX3_transfer_41 : decode cX3_transfer 41 = .ok (.iload_n 1, 1) := by decide +kernel
theorem dX3_transfer_42 : decode cX3_transfer 42 = .ok (.iconst 0, 1) := by decide +kernel
theorem dX3_transfer_43 : decode cX3_transfer 43 = .ok (.invokevirtual 138, 3) := by decide +kernel
theorem dX3_transfer_46 : decode cX3_transfer 46 = .ok (.istore 4, 2) := by decide +kernel
theorem dX3_transfer_48 : decode cX3_transfer 48 = .ok (.aload_n 0, 1) := by decide +kernel
theorem dX3_transfer_49 : decode cX3_transfer 49 = .ok (.getfield 10, 3) := by decide +kernel
theorem dX3_transfer_52 : decode cX3_transfer 52 = .ok (.iload_n 2, 1) := by decide +kernel
theorem dX3_transfer_53 : decode cX3_transfer 53 = .ok (.iload 4, 2) := by decide +kernel
theorem dX3_transfer_55 : decode cX3_transfer 55 = .ok (.iload_n 3, 1) := by decide +kernel
theorem dX3_transfer_56 : decode cX3_transfer 56 = .ok (.invokevirtual 245, 3) := by decide +kernel
theorem dX3_transfer_59 : decode cX3_transfer 59 = .ok (.aload_n 0, 1) := by decide +kernel
theorem dX3_transfer_60 : decode cX3_transfer 60 = .ok (.getfield 10, 3) := by decide +kernel
theorem dX3_transfer_63 : decode cX3_transfer 63 = .ok (.getfield 80, 3) := by decide +kernel
theorem dX3_transfer_66 : decode cX3_transfer 66 = .ok (.iload_n 1, 1) := by decide +kernel
theorem dX3_transfer_67 : decode cX3_transfer 67 = .ok (.iconst 0, 1) := by decide +kernel
theorem dX3_transfer_68 : decode cX3_transfer 68 = .ok (.iload_n 2, 1) := by decide +kernel
theorem dX3_transfer_69 : decode cX3_transfer 69 = .ok (.invokevirtual 242, 3) := by decide +kernel
theorem dX3_transfer_72 : decode cX3_transfer 72 = .ok (.iload 4, 2) := by decide +kernel
theorem dX3_transfer_74 : decode cX3_transfer 74 = .ok (.ireturn, 1) := by decide +kernel
theorem dX3_swap_0 : decode cX3_swap 0 = .ok (.aload_n 0, 1) := by decide +kernel
theorem dX3_swap_1 : decode cX3_swap 1 = .ok (.getfield 10, 3) := by decide +kernel
theorem dX3_swap_4 : decode cX3_swap 4 = .ok (.getfield 80, 3) := by decide +kernel
theorem dX3_swap_7 : decode cX3_swap 7 = .ok (.iload_n 1, 1) := by decide +kernel
theorem dX3_swap_8 : decode cX3_swap 8 = .ok (.invokestatic 134, 3) := by decide +kernel
theorem dX3_swap_11 : decode cX3_swap 11 = .ok (.aload_n 0, 1) := by decide +kernel
theorem dX3_swap_12 : decode cX3_swap 12 = .ok (.getfield 10, 3) := by decide +kernel
theorem dX3_swap_15 : decode cX3_swap 15 = .ok (.getfield 80, 3) := by decide +kernel
theorem dX3_swap_18 : decode cX3_swap 18 = .ok (.iload_n 2, 1) := by decide +kernel
theorem dX3_swap_19 : decode cX3_swap 19 = .ok (.invokestatic 134, 3) := by decide +kernel
theorem dX3_swap_22 : decode cX3_swap 22 = .ok (.aload_n 0, 1) := by decide +kernel
theorem dX3_swap_23 : decode cX3_swap 23 = .ok (.getfield 10, 3) := by decide +kernel
theorem dX3_swap_26 : decode cX3_swap 26 = .ok (.getfield 80, 3) := by decide +kernel
theorem dX3_swap_29 : decode cX3_swap 29 = .ok (.iload_n 1, 1) := by decide +kernel
theorem dX3_swap_30 : decode cX3_swap 30 = .ok (.iconst 0, 1) := by decide +kernel
theorem dX3_swap_31 : decode cX3_swap 31 = .ok (.invokevirtual 138, 3) := by decide +kernel
theorem dX3_swap_34 : decode cX3_swap 34 = .ok (.aload_n 0, 1) := by decide +kernel
theorem dX3_swap_35 : decode cX3_swap 35 = .ok (.getfield 10, 3) := by decide +kernel
theorem dX3_swap_38 : decode cX3_swap 38 = .ok (.getfield 80, 3) := by decide +kernel
theorem dX3_swap_41 : decode cX3_swap 41 = .ok (.iload_n 2, 1) := by decide +kernel
theorem dX3_swap_42 : decode cX3_swap 42 = .ok (.iconst 0, 1) := by decide +kernel
theorem dX3_swap_43 : decode cX3_swap 43 = .ok (.invokevirtual 138, 3) := by decide +kernel
theorem dX3_swap_46 : decode cX3_swap 46 = .ok (.if_icmp .eq 13, 3) := by decide +kernel
theorem dX3_swap_49 : decode cX3_swap 49 = .ok (.new 227, 3) := by decide +kernel
theorem dX3_swap_52 : decode cX3_swap 52 = .ok (.dup, 1) := by decide +kernel
theorem dX3_swap_53 : decode cX3_swap 53 = .ok (.ldc 248, 2) := by decide +kernel
theorem dX3_swap_55 : decode cX3_swap 55 = .ok (.invokespecial 231, 3) := by decide +kernel
theorem dX3_swap_58 : decode cX3_swap 58 = .ok (.athrow, 1) := by decide +kernel
theorem dX3_swap_59 : decode cX3_swap 59 = .ok (.aload_n 0, 1) := by decide +kernel
theorem dX3_swap_60 : decode cX3_swap 60 = .ok (.invokevirtual 224, 3) := by decide +kernel
theorem dX3_swap_63 : decode cX3_swap 63 = .ok (.aload_n 0, 1) := by decide +kernel
theorem dX3_swap_64 : decode cX3_swap 64 = .ok (.getfield 10, 3) := by decide +kernel
theorem dX3_swap_67 : decode cX3_swap 67 = .ok (.getfield 80, 3) := by decide +kernel
theorem dX3_swap_70 : decode cX3_swap 70 = .ok (.iload_n 1, 1) := by decide +kernel
theorem dX3_swap_71 : decode cX3_swap 71 = .ok (.iconst 2, 1) := by decide +kernel
theorem dX3_swap_72 : decode cX3_swap 72 = .ok (.invokevirtual 138, 3) := by decide +kernel
theorem dX3_swap_75 : decode cX3_swap 75 = .ok (.istore_n 3, 1) := by decide +kernel
theorem dX3_swap_76 : decode cX3_swap 76 = .ok (.aload_n 0, 1) := by decide +kernel
theorem dX3_swap_77 : decode cX3_swap 77 = .ok (.getfield 10, 3) := by decide +kernel
theorem dX3_swap_80 : decode cX3_swap 80 = .ok (.getfield 80, 3) := by decide +kernel
theorem dX3_swap_83 : decode cX3_swap 83 = .ok (.iload_n 1, 1) := by decide +kernel
theorem dX3_swap_84 : decode cX3_swap 84 = .ok (.iconst 2, 1) := by decide +kernel
theorem dX3_swap_85 : decode cX3_swap 85 = .ok (.aload_n 0, 1) := by decide +kernel
theorem dX3_swap_86 : decode cX3_swap 86 = .ok (.getfield 10, 3) := by decide +kernel
theorem dX3_swap_89 : decode cX3_swap 89 = .ok (.getfield 80, 3) := by decide +kernel
theorem dX3_swap_92 : decode cX3_swap 92 = .ok (.iload_n 2, 1) := by decide +kernel
theorem dX3_swap_93 : decode cX3_swap 93 = .ok (.iconst 2, 1) := by decide +kernel
theorem dX3_swap_94 : decode cX3_swap 94 = .ok (.invokevirtual 138, 3) := by decide +kernel
theorem dX3_swap_97 : decode cX3_swap 97 = .ok (.invokevirtual 242, 3) := by decide +kernel
theorem dX3_swap_100 : decode cX3_swap 100 = .ok (.aload_n 0, 1) := by decide +kernel
theorem dX3_swap_101 : decode cX3_swap 101 = .ok (.getfield 10, 3) := by decide +kernel
theorem dX3_swap_104 : decode cX3_swap 104 = .ok (.getfield 80, 3) := by decide +kernel
theorem dX3_swap_107 : decode cX3_swap 107 = .ok (.iload_n 2, 1) := by decide +kernel
theorem dX3_swap_108 : decode cX3_swap 108 = .ok (.iconst 2, 1) := by decide +kernel
theorem dX3_swap_109 : decode cX3_swap 109 = .ok (.iload_n 3, 1) := by decide +kernel
theorem dX3_swap_110 : decode cX3_swap 110 = .ok (.invokevirtual 242, 3) := by decide +kernel
theorem dX3_swap_113 : decode cX3_swap 113 = .ok (.aload_n 0, 1) := by decide +kernel
theorem dX3_swap_114 : decode cX3_swap 114 = .ok (.getfield 10, 3) := by decide +kernel
theorem dX3_swap_117 : decode cX3_swap 117 = .ok (.invokevirtual 250, 3) := by decide +kernel
theorem dX3_swap_120 : decode cX3_swap 120 = .ok (.aload_n 0, 1) := by decide +kernel
theorem dX3_swap_121 : decode cX3_swap 121 = .ok (.getfield 10, 3) := by decide +kernel
theorem dX3_swap_124 : decode cX3_swap 124 = .ok (.getfield 80, 3) := by decide +kernel
theorem dX3_swap_127 : decode cX3_swap 127 = .ok (.iload_n 1, 1) := by decide +kernel
theorem dX3_swap_128 : decode cX3_swap 128 = .ok (.iconst 2, 1) := by decide +kernel
theorem dX3_swap_129 : decode cX3_swap 129 = .ok (.invokevirtual 138, 3) := by decide +kernel
theorem dX3_swap_132 : decode cX3_swap 132 = .ok (.ireturn, 1) := by decide +kernel
theorem dX3_undo_0 : decode cX3_undo 0 = .ok (.aload_n 0, 1) := by decide +kernel
theorem dX3_undo_1 : decode cX3_undo 1 = .ok (.getfield 77, 3) := by decide +kernel
theorem dX3_undo_4 : decode cX3_undo 4 = .ok (.ifCond .le 12, 3) := by decide +kernel
theorem dX3_undo_7 : decode cX3_undo 7 = .ok (.aload_n 0, 1) := by decide +kernel
theorem dX3_undo_8 : decode cX3_undo 8 = .ok (.getfield 77, 3) := by decide +kernel
theorem dX3_undo_11 : decode cX3_undo 11 = .ok (.bipush 8, 2) := by decide +kernel
theorem dX3_undo_13 : decode cX3_undo 13 = .ok (.if_icmp .le 5, 3) := by decide +kernel
theorem dX3_undo_16 : decode cX3_undo 16 = .ok (.iconst (-1), 1) := by decide +kernel
theorem dX3_undo_17 : decode cX3_undo 17 = .ok (.ireturn, 1) := by decide +kernel
theorem dX3_undo_18 : decode cX3_undo 18 = .ok (.aload_n 0, 1) := by decide +kernel
theorem dX3_undo_19 : decode cX3_undo 19 = .ok (.dup, 1) := by decide +kernel
theorem dX3_undo_20 : decode cX3_undo 20 = .ok (.getfield 77, 3) := by decide +kernel
theorem dX3_undo_23 : decode cX3_undo 23 = .ok (.iconst 1, 1) := by decide +kernel
theorem dX3_undo_24 : decode cX3_undo 24 = .ok (.isub, 1) := by decide +kernel
theorem dX3_undo_25 : decode cX3_undo 25 = .ok (.putfield 77, 3) := by decide +kernel
theorem dX3_undo_28 : decode cX3_undo 28 = .ok (.aload_n 0, 1) := by decide +kernel
theorem dX3_undo_29 : decode cX3_undo 29 = .ok (.getfield 10, 3) := by decide +kernel
theorem dX3_undo_32 : decode cX3_undo 32 = .ok (.aload_n 0, 1) := by decide +kernel
theorem dX3_undo_33 : decode cX3_undo 33 = .ok (.getfield 30, 3) := by decide +kernel
theorem dX3_undo_36 : decode cX3_undo 36 = .ok (.aload_n 0, 1) := by decide +kernel
theorem dX3_undo_37 : decode cX3_undo 37 = .ok (.getfield 77, 3) := by decide +kernel
theorem dX3_undo_40 : decode cX3_undo 40 = .ok (.aaload, 1) := by decide +kernel
theorem dX3_undo_41 : decode cX3_undo 41 = .ok (.invokevirtual 73, 3) := by decide +kernel
theorem dX3_undo_44 : decode cX3_undo 44 = .ok (.aload_n 0, 1) := by decide +kernel
theorem dX3_undo_45 : decode cX3_undo 45 = .ok (.getfield 77, 3) := by decide +kernel
theorem dX3_undo_48 : decode cX3_undo 48 = .ok (.ireturn, 1) := by decide +kernel
theorem dX3_undoDepth_0 : decode cX3_undoDepth 0 = .ok (.aload_n 0, 1) := by decide +kernel
theorem dX3_undoDepth_1 : decode cX3_undoDepth 1 = .ok (.getfield 77, 3) := by decide +kernel
theorem dX3_undoDepth_4 : decode cX3_undoDepth 4 = .ok (.ireturn, 1) := by decide +kernel
theorem dX3_save_0 : decode cX3_save 0 = .ok (.iload_n 1, 1) := by decide +kernel
theorem dX3_save_1 : decode cX3_save 1 = .ok (.invokestatic 253, 3) := by decide +kernel
theorem dX3_save_4 : decode cX3_save 4 = .ok (.aload_n 0, 1) := by decide +kernel
theorem dX3_save_5 : decode cX3_save 5 = .ok (.getfield 37, 3) := by decide +kernel
theorem dX3_save_8 : decode cX3_save 8 = .ok (.iload_n 1, 1) := by decide +kernel
theorem dX3_save_9 : decode cX3_save 9 = .ok (.baload, 1) := by decide +kernel
theorem dX3_save_10 : decode cX3_save 10 = .ok (.istore_n 2, 1) := by decide +kernel
theorem dX3_save_11 : decode cX3_save 11 = .ok (.aload_n 0, 1) := by decide +kernel
theorem dX3_save_12 : decode cX3_save 12 = .ok (.getfield 34, 3) := by decide +kernel
theorem dX3_save_15 : decode cX3_save 15 = .ok (.iload_n 1, 1) := by decide +kernel
theorem dX3_save_16 : decode cX3_save 16 = .ok (.aaload, 1) := by decide +kernel
theorem dX3_save_17 : decode cX3_save 17 = .ok (.aload_n 0, 1) := by decide +kernel
theorem dX3_save_18 : decode cX3_save 18 = .ok (.getfield 10, 3) := by decide +kernel
theorem dX3_save_21 : decode cX3_save 21 = .ok (.invokevirtual 73, 3) := by decide +kernel
theorem dX3_save_24 : decode cX3_save 24 = .ok (.aload_n 0, 1) := by decide +kernel
theorem dX3_save_25 : decode cX3_save 25 = .ok (.getfield 37, 3) := by decide +kernel
theorem dX3_save_28 : decode cX3_save 28 = .ok (.iload_n 1, 1) := by decide +kernel
theorem dX3_save_29 : decode cX3_save 29 = .ok (.iconst 1, 1) := by decide +kernel
theorem dX3_save_30 : decode cX3_save 30 = .ok (.bastore, 1) := by decide +kernel
theorem dX3_save_31 : decode cX3_save 31 = .ok (.iload_n 2, 1) := by decide +kernel
theorem dX3_save_32 : decode cX3_save 32 = .ok (.ireturn, 1) := by decide +kernel
theorem dX3_restore_0 : decode cX3_restore 0 = .ok (.iload_n 1, 1) := by decide +kernel
theorem dX3_restore_1 : decode cX3_restore 1 = .ok (.invokestatic 253, 3) := by decide +kernel
theorem dX3_restore_4 : decode cX3_restore 4 = .ok (.aload_n 0, 1) := by decide +kernel
theorem dX3_restore_5 : decode cX3_restore 5 = .ok (.getfield 37, 3) := by decide +kernel
theorem dX3_restore_8 : decode cX3_restore 8 = .ok (.iload_n 1, 1) := by decide +kernel
theorem dX3_restore_9 : decode cX3_restore 9 = .ok (.baload, 1) := by decide +kernel
theorem dX3_restore_10 : decode cX3_restore 10 = .ok (.ifCond .ne 14, 3) := by decide +kernel
theorem dX3_restore_13 : decode cX3_restore 13 = .ok (.new 227, 3) := by decide +kernel
theorem dX3_restore_16 : decode cX3_restore 16 = .ok (.dup, 1) := by decide +kernel
theorem dX3_restore_17 : decode cX3_restore 17 = .ok (.ldc_w 256, 3) := by decide +kernel
theorem dX3_restore_20 : decode cX3_restore 20 = .ok (.invokespecial 231, 3) := by decide +kernel
theorem dX3_restore_23 : decode cX3_restore 23 = .ok (.athrow, 1) := by decide +kernel
theorem dX3_restore_24 : decode cX3_restore 24 = .ok (.aload_n 0, 1) := by decide +kernel
theorem dX3_restore_25 : decode cX3_restore 25 = .ok (.getfield 10, 3) := by decide +kernel
theorem dX3_restore_28 : decode cX3_restore 28 = .ok (.aload_n 0, 1) := by decide +kernel
theorem dX3_restore_29 : decode cX3_restore 29 = .ok (.getfield 34, 3) := by decide +kernel
theorem dX3_restore_32 : decode cX3_restore 32 = .ok (.iload_n 1, 1) := by decide +kernel
theorem dX3_restore_33 : decode cX3_restore 33 = .ok (.aaload, 1) := by decide +kernel
theorem dX3_restore_34 : decode cX3_restore 34 = .ok (.invokevirtual 73, 3) := by decide +kernel
theorem dX3_restore_37 : decode cX3_restore 37 = .ok (.aload_n 0, 1) := by decide +kernel
theorem dX3_restore_38 : decode cX3_restore 38 = .ok (.iconst 0, 1) := by decide +kernel
theorem dX3_restore_39 : decode cX3_restore 39 = .ok (.putfield 77, 3) := by decide +kernel
theorem dX3_restore_42 : decode cX3_restore 42 = .ok (.aload_n 0, 1) := by decide +kernel
theorem dX3_restore_43 : decode cX3_restore 43 = .ok (.getfield 10, 3) := by decide +kernel
theorem dX3_restore_46 : decode cX3_restore 46 = .ok (.getfield 107, 3) := by decide +kernel
theorem dX3_restore_49 : decode cX3_restore 49 = .ok (.ireturn, 1) := by decide +kernel
theorem dX3_record_0 : decode cX3_record 0 = .ok (.aload_n 0, 1) := by decide +kernel
theorem dX3_record_1 : decode cX3_record 1 = .ok (.getfield 77, 3) := by decide +kernel
theorem dX3_record_4 : decode cX3_record 4 = .ok (.bipush 8, 2) := by decide +kernel
theorem dX3_record_6 : decode cX3_record 6 = .ok (.if_icmp .lt 52, 3) := by decide +kernel
theorem dX3_record_9 : decode cX3_record 9 = .ok (.aload_n 0, 1) := by decide +kernel
theorem dX3_record_10 : decode cX3_record 10 = .ok (.getfield 30, 3) := by decide +kernel
theorem dX3_record_13 : decode cX3_record 13 = .ok (.iconst 0, 1) := by decide +kernel
theorem dX3_record_14 : decode cX3_record 14 = .ok (.aaload, 1) := by decide +kernel
theorem dX3_record_15 : decode cX3_record 15 = .ok (.astore_n 1, 1) := by decide +kernel
theorem dX3_record_16 : decode cX3_record 16 = .ok (.iconst 1, 1) := by decide +kernel
theorem dX3_record_17 : decode cX3_record 17 = .ok (.istore_n 2, 1) := by decide +kernel
theorem dX3_record_18 : decode cX3_record 18 = .ok (.iload_n 2, 1) := by decide +kernel
theorem dX3_record_19 : decode cX3_record 19 = .ok (.bipush 8, 2) := by decide +kernel
theorem dX3_record_21 : decode cX3_record 21 = .ok (.if_icmp .ge 23, 3) := by decide +kernel
theorem dX3_record_24 : decode cX3_record 24 = .ok (.aload_n 0, 1) := by decide +kernel
theorem dX3_record_25 : decode cX3_record 25 = .ok (.getfield 30, 3) := by decide +kernel
theorem dX3_record_28 : decode cX3_record 28 = .ok (.iload_n 2, 1) := by decide +kernel
theorem dX3_record_29 : decode cX3_record 29 = .ok (.iconst 1, 1) := by decide +kernel
theorem dX3_record_30 : decode cX3_record 30 = .ok (.isub, 1) := by decide +kernel
theorem dX3_record_31 : decode cX3_record 31 = .ok (.aload_n 0, 1) := by decide +kernel
theorem dX3_record_32 : decode cX3_record 32 = .ok (.getfield 30, 3) := by decide +kernel
theorem dX3_record_35 : decode cX3_record 35 = .ok (.iload_n 2, 1) := by decide +kernel
theorem dX3_record_36 : decode cX3_record 36 = .ok (.aaload, 1) := by decide +kernel
theorem dX3_record_37 : decode cX3_record 37 = .ok (.aastore, 1) := by decide +kernel
theorem dX3_record_38 : decode cX3_record 38 = .ok (.iinc 2 1, 3) := by decide +kernel
theorem dX3_record_41 : decode cX3_record 41 = .ok (.goto (-23), 3) := by decide +kernel
theorem dX3_record_44 : decode cX3_record 44 = .ok (.aload_n 0, 1) := by decide +kernel
theorem dX3_record_45 : decode cX3_record 45 = .ok (.getfield 30, 3) := by decide +kernel
theorem dX3_record_48 : decode cX3_record 48 = .ok (.bipush 7, 2) := by decide +kernel
theorem dX3_record_50 : decode cX3_record 50 = .ok (.aload_n 1, 1) := by decide +kernel
theorem dX3_record_51 : decode cX3_record 51 = .ok (.aastore, 1) := by decide +kernel
theorem dX3_record_52 : decode cX3_record 52 = .ok (.aload_n 0, 1) := by decide +kernel
theorem dX3_record_53 : decode cX3_record 53 = .ok (.bipush 7, 2) := by decide +kernel
theorem dX3_record_55 : decode cX3_record 55 = .ok (.putfield 77, 3) := by decide +kernel
theorem dX3_record_58 : decode cX3_record 58 = .ok (.aload_n 0, 1) := by decide +kernel
theorem dX3_record_59 : decode cX3_record 59 = .ok (.getfield 30, 3) := by decide +kernel
theorem dX3_record_62 : decode cX3_record 62 = .ok (.aload_n 0, 1) := by decide +kernel
theorem dX3_record_63 : decode cX3_record 63 = .ok (.getfield 77, 3) := by decide +kernel
theorem dX3_record_66 : decode cX3_record 66 = .ok (.aaload, 1) := by decide +kernel
theorem dX3_record_67 : decode cX3_record 67 = .ok (.aload_n 0, 1) := by decide +kernel
theorem dX3_record_68 : decode cX3_record 68 = .ok (.getfield 10, 3) := by decide +kernel
theorem dX3_record_71 : decode cX3_record 71 = .ok (.invokevirtual 73, 3) := by decide +kernel
theorem dX3_record_74 : decode cX3_record 74 = .ok (.aload_n 0, 1) := by decide +kernel
theorem dX3_record_75 : decode cX3_record 75 = .ok (.dup, 1) := by decide +kernel
theorem dX3_record_76 : decode cX3_record 76 = .ok (.getfield 77, 3) := by decide +kernel
theorem dX3_record_79 : decode cX3_record 79 = .ok (.iconst 1, 1) := by decide +kernel
theorem dX3_record_80 : decode cX3_record 80 = .ok (.iadd, 1) := by decide +kernel
theorem dX3_record_81 : decode cX3_record 81 = .ok (.putfield 77, 3) := by decide +kernel
theorem dX3_record_84 : decode cX3_record 84 = .ok (.return_, 1) := by decide +kernel
theorem dX3_formatClaims_0 : decode cX3_formatClaims 0 = .ok (.aload_n 0, 1) := by decide +kernel
theorem dX3_formatClaims_1 : decode cX3_formatClaims 1 = .ok (.getfield 44, 3) := by decide +kernel
theorem dX3_formatClaims_4 : decode cX3_formatClaims 4 = .ok (.iconst 0, 1) := by decide +kernel
theorem dX3_formatClaims_5 : decode cX3_formatClaims 5 = .ok (.invokevirtual 258, 3) := by decide +kernel
theorem dX3_formatClaims_8 : decode cX3_formatClaims 8 = .ok (.iconst 0, 1) := by decide +kernel
theorem dX3_formatClaims_9 : decode cX3_formatClaims 9 = .ok (.istore_n 1, 1) := by decide +kernel
theorem dX3_formatClaims_10 : decode cX3_formatClaims 10 = .ok (.iload_n 1, 1) := by decide +kernel
theorem dX3_formatClaims_11 : decode cX3_formatClaims 11 = .ok (.aload_n 0, 1) := by decide +kernel
theorem dX3_formatClaims_12 : decode cX3_formatClaims 12 = .ok (.getfield 10, 3) := by decide +kernel
theorem dX3_formatClaims_15 : decode cX3_formatClaims 15 = .ok (.getfield 156, 3) := by decide +kernel
theorem dX3_formatClaims_18 : decode cX3_formatClaims 18 = .ok (.getfield 84, 3) := by decide +kernel
theorem dX3_formatClaims_21 : decode cX3_formatClaims 21 = .ok (.if_icmp .ge 126, 3) := by decide +kernel
theorem dX3_formatClaims_24 : decode cX3_formatClaims 24 = .ok (.iload_n 1, 1) := by decide +kernel
theorem dX3_formatClaims_25 : decode cX3_formatClaims 25 = .ok (.ifCond .le 13, 3) := by decide +kernel
theorem dX3_formatClaims_28 : decode cX3_formatClaims 28 = .ok (.aload_n 0, 1) := by decide +kernel
theorem dX3_formatClaims_29 : decode cX3_formatClaims 29 = .ok (.getfield 44, 3) := by decide +kernel
theorem dX3_formatClaims_32 : decode cX3_formatClaims 32 = .ok (.bipush 32, 2) := by decide +kernel
theorem dX3_formatClaims_34 : decode cX3_formatClaims 34 = .ok (.invokevirtual 261, 3) := by decide +kernel
theorem dX3_formatClaims_37 : decode cX3_formatClaims 37 = .ok (.pop, 1) := by decide +kernel
theorem dX3_formatClaims_38 : decode cX3_formatClaims 38 = .ok (.aload_n 0, 1) := by decide +kernel
theorem dX3_formatClaims_39 : decode cX3_formatClaims 39 = .ok (.getfield 44, 3) := by decide +kernel
theorem dX3_formatClaims_42 : decode cX3_formatClaims 42 = .ok (.aload_n 0, 1) := by decide +kernel
theorem dX3_formatClaims_43 : decode cX3_formatClaims 43 = .ok (.getfield 10, 3) := by decide +kernel
theorem dX3_formatClaims_46 : decode cX3_formatClaims 46 = .ok (.getfield 156, 3) := by decide +kernel
theorem dX3_formatClaims_49 : decode cX3_formatClaims 49 = .ok (.iload_n 1, 1) := by decide +kernel
theorem dX3_formatClaims_50 : decode cX3_formatClaims 50 = .ok (.iconst 0, 1) := by decide +kernel
theorem dX3_formatClaims_51 : decode cX3_formatClaims 51 = .ok (.invokevirtual 138, 3) := by decide +kernel
theorem dX3_formatClaims_54 : decode cX3_formatClaims 54 = .ok (.invokestatic 265, 3) := by decide +kernel
theorem dX3_formatClaims_57 : decode cX3_formatClaims 57 = .ok (.invokevirtual 261, 3) := by decide +kernel
theorem dX3_formatClaims_60 : decode cX3_formatClaims 60 = .ok (.pop, 1) := by decide +kernel
theorem dX3_formatClaims_61 : decode cX3_formatClaims 61 = .ok (.aload_n 0, 1) := by decide +kernel
theorem dX3_formatClaims_62 : decode cX3_formatClaims 62 = .ok (.getfield 44, 3) := by decide +kernel
theorem dX3_formatClaims_65 : decode cX3_formatClaims 65 = .ok (.aload_n 0, 1) := by decide +kernel
theorem dX3_formatClaims_66 : decode cX3_formatClaims 66 = .ok (.getfield 10, 3) := by decide +kernel
theorem dX3_formatClaims_69 : decode cX3_formatClaims 69 = .ok (.getfield 156, 3) := by decide +kernel
theorem dX3_formatClaims_72 : decode cX3_formatClaims 72 = .ok (.iload_n 1, 1) := by decide +kernel
theorem dX3_formatClaims_73 : decode cX3_formatClaims 73 = .ok (.iconst 1, 1) := by decide +kernel
theorem dX3_formatClaims_74 : decode cX3_formatClaims 74 = .ok (.invokevirtual 138, 3) := by decide +kernel
theorem dX3_formatClaims_77 : decode cX3_formatClaims 77 = .ok (.invokevirtual 269, 3) := by decide +kernel
theorem dX3_formatClaims_80 : decode cX3_formatClaims 80 = .ok (.pop, 1) := by decide +kernel
theorem dX3_formatClaims_81 : decode cX3_formatClaims 81 = .ok (.aload_n 0, 1) := by decide +kernel
theorem dX3_formatClaims_82 : decode cX3_formatClaims 82 = .ok (.getfield 44, 3) := by decide +kernel
theorem dX3_formatClaims_85 : decode cX3_formatClaims 85 = .ok (.bipush 58, 2) := by decide +kernel
theorem dX3_formatClaims_87 : decode cX3_formatClaims 87 = .ok (.invokevirtual 261, 3) := by decide +kernel
theorem dX3_formatClaims_90 : decode cX3_formatClaims 90 = .ok (.pop, 1) := by decide +kernel
theorem dX3_formatClaims_91 : decode cX3_formatClaims 91 = .ok (.aload_n 0, 1) := by decide +kernel
theorem dX3_formatClaims_92 : decode cX3_formatClaims 92 = .ok (.getfield 44, 3) := by decide +kernel
theorem dX3_formatClaims_95 : decode cX3_formatClaims 95 = .ok (.aload_n 0, 1) := by decide +kernel
theorem dX3_formatClaims_96 : decode cX3_formatClaims 96 = .ok (.getfield 10, 3) := by decide +kernel
theorem dX3_formatClaims_99 : decode cX3_formatClaims 99 = .ok (.getfield 156, 3) := by decide +kernel
theorem dX3_formatClaims_102 : decode cX3_formatClaims 102 = .ok (.iload_n 1, 1) := by decide +kernel
theorem dX3_formatClaims_103 : decode cX3_formatClaims 103 = .ok (.iconst 5, 1) := by decide +kernel
theorem dX3_formatClaims_104 : decode cX3_formatClaims 104 = .ok (.invokevirtual 138, 3) := by decide +kernel
theorem dX3_formatClaims_107 : decode cX3_formatClaims 107 = .ok (.invokevirtual 269, 3) := by decide +kernel
theorem dX3_formatClaims_110 : decode cX3_formatClaims 110 = .ok (.pop, 1) := by decide +kernel
theorem dX3_formatClaims_111 : decode cX3_formatClaims 111 = .ok (.aload_n 0, 1) := by decide +kernel
theorem dX3_formatClaims_112 : decode cX3_formatClaims 112 = .ok (.getfield 44, 3) := by decide +kernel
theorem dX3_formatClaims_115 : decode cX3_formatClaims 115 = .ok (.bipush 47, 2) := by decide +kernel
theorem dX3_formatClaims_117 : decode cX3_formatClaims 117 = .ok (.invokevirtual 261, 3) := by decide +kernel
theorem dX3_formatClaims_120 : decode cX3_formatClaims 120 = .ok (.pop, 1) := by decide +kernel
theorem dX3_formatClaims_121 : decode cX3_formatClaims 121 = .ok (.aload_n 0, 1) := by decide +kernel
theorem dX3_formatClaims_122 : decode cX3_formatClaims 122 = .ok (.getfield 44, 3) := by decide +kernel
theorem dX3_formatClaims_125 : decode cX3_formatClaims 125 = .ok (.aload_n 0, 1) := by decide +kernel
theorem dX3_formatClaims_126 : decode cX3_formatClaims 126 = .ok (.getfield 10, 3) := by decide +kernel
theorem dX3_formatClaims_129 : decode cX3_formatClaims 129 = .ok (.getfield 156, 3) := by decide +kernel
theorem dX3_formatClaims_132 : decode cX3_formatClaims 132 = .ok (.iload_n 1, 1) := by decide +kernel
theorem dX3_formatClaims_133 : decode cX3_formatClaims 133 = .ok (.iconst 4, 1) := by decide +kernel
theorem dX3_formatClaims_134 : decode cX3_formatClaims 134 = .ok (.invokevirtual 138, 3) := by decide +kernel
theorem dX3_formatClaims_137 : decode cX3_formatClaims 137 = .ok (.invokevirtual 269, 3) := by decide +kernel
theorem dX3_formatClaims_140 : decode cX3_formatClaims 140 = .ok (.pop, 1) := by decide +kernel
theorem dX3_formatClaims_141 : decode cX3_formatClaims 141 = .ok (.iinc 1 1, 3) := by decide +kernel
theorem dX3_formatClaims_144 : decode cX3_formatClaims 144 = .ok (.goto (-134), 3) := by decide +kernel
theorem dX3_formatClaims_147 : decode cX3_formatClaims 147 = .ok (.aload_n 0, 1) := by decide +kernel
theorem dX3_formatClaims_148 : decode cX3_formatClaims 148 = .ok (.getfield 44, 3) := by decide +kernel
theorem dX3_formatClaims_151 : decode cX3_formatClaims 151 = .ok (.invokevirtual 272, 3) := by decide +kernel
theorem dX3_formatClaims_154 : decode cX3_formatClaims 154 = .ok (.ireturn, 1) := by decide +kernel
theorem dX3_letterOf_0 : decode cX3_letterOf 0 = .ok (.iload_n 0, 1) := by decide +kernel
theorem dX3_letterOf_1 : decode cX3_letterOf 1 = .ok (.iconst 1, 1) := by decide +kernel
theorem dX3_letterOf_2 : decode cX3_letterOf 2 = .ok (.if_icmp .ne 6, 3) := by decide +kernel
theorem dX3_letterOf_5 : decode cX3_letterOf 5 = .ok (.bipush 108, 2) := by decide +kernel
theorem dX3_letterOf_7 : decode cX3_letterOf 7 = .ok (.ireturn, 1) := by decide +kernel
theorem dX3_letterOf_8 : decode cX3_letterOf 8 = .ok (.iload_n 0, 1) := by decide +kernel
theorem dX3_letterOf_9 : decode cX3_letterOf 9 = .ok (.iconst 2, 1) := by decide +kernel
theorem dX3_letterOf_10 : decode cX3_letterOf 10 = .ok (.if_icmp .ne 8, 3) := by decide +kernel
theorem dX3_letterOf_13 : decode cX3_letterOf 13 = .ok (.bipush 111, 2) := by decide +kernel
theorem dX3_letterOf_15 : decode cX3_letterOf 15 = .ok (.goto 5, 3) := by decide +kernel
theorem dX3_letterOf_18 : decode cX3_letterOf 18 = .ok (.bipush 114, 2) := by decide +kernel
theorem dX3_letterOf_20 : decode cX3_letterOf 20 = .ok (.ireturn, 1) := by decide +kernel
theorem dX3_formatRiver_0 : decode cX3_formatRiver 0 = .ok (.aload_n 0, 1) := by decide +kernel
theorem dX3_formatRiver_1 : decode cX3_formatRiver 1 = .ok (.getfield 44, 3) := by decide +kernel
theorem dX3_formatRiver_4 : decode cX3_formatRiver 4 = .ok (.iconst 0, 1) := by decide +kernel
theorem dX3_formatRiver_5 : decode cX3_formatRiver 5 = .ok (.invokevirtual 258, 3) := by decide +kernel
theorem dX3_formatRiver_8 : decode cX3_formatRiver 8 = .ok (.iconst 0, 1) := by decide +kernel
theorem dX3_formatRiver_9 : decode cX3_formatRiver 9 = .ok (.istore_n 1, 1) := by decide +kernel
theorem dX3_formatRiver_10 : decode cX3_formatRiver 10 = .ok (.iload_n 1, 1) := by decide +kernel
theorem dX3_formatRiver_11 : decode cX3_formatRiver 11 = .ok (.aload_n 0, 1) := by decide +kernel
theorem dX3_formatRiver_12 : decode cX3_formatRiver 12 = .ok (.getfield 10, 3) := by decide +kernel
theorem dX3_formatRiver_15 : decode cX3_formatRiver 15 = .ok (.getfield 95, 3) := by decide +kernel
theorem dX3_formatRiver_18 : decode cX3_formatRiver 18 = .ok (.getfield 84, 3) := by decide +kernel
theorem dX3_formatRiver_21 : decode cX3_formatRiver 21 = .ok (.if_icmp .ge 43, 3) := by decide +kernel
theorem dX3_formatRiver_24 : decode cX3_formatRiver 24 = .ok (.iload_n 1, 1) := by decide +kernel
theorem dX3_formatRiver_25 : decode cX3_formatRiver 25 = .ok (.ifCond .le 13, 3) := by decide +kernel
theorem dX3_formatRiver_28 : decode cX3_formatRiver 28 = .ok (.aload_n 0, 1) := by decide +kernel
theorem dX3_formatRiver_29 : decode cX3_formatRiver 29 = .ok (.getfield 44, 3) := by decide +kernel
theorem dX3_formatRiver_32 : decode cX3_formatRiver 32 = .ok (.bipush 62, 2) := by decide +kernel
theorem dX3_formatRiver_34 : decode cX3_formatRiver 34 = .ok (.invokevirtual 261, 3) := by decide +kernel
theorem dX3_formatRiver_37 : decode cX3_formatRiver 37 = .ok (.pop, 1) := by decide +kernel
theorem dX3_formatRiver_38 : decode cX3_formatRiver 38 = .ok (.aload_n 0, 1) := by decide +kernel
theorem dX3_formatRiver_39 : decode cX3_formatRiver 39 = .ok (.getfield 44, 3) := by decide +kernel
theorem dX3_formatRiver_42 : decode cX3_formatRiver 42 = .ok (.aload_n 0, 1) := by decide +kernel
theorem dX3_formatRiver_43 : decode cX3_formatRiver 43 = .ok (.getfield 10, 3) := by decide +kernel
theorem dX3_formatRiver_46 : decode cX3_formatRiver 46 = .ok (.getfield 159, 3) := by decide +kernel
theorem dX3_formatRiver_49 : decode cX3_formatRiver 49 = .ok (.iload_n 1, 1) := by decide +kernel
theorem dX3_formatRiver_50 : decode cX3_formatRiver 50 = .ok (.iconst 2, 1) := by decide +kernel
theorem dX3_formatRiver_51 : decode cX3_formatRiver 51 = .ok (.invokevirtual 138, 3) := by decide +kernel
theorem dX3_formatRiver_54 : decode cX3_formatRiver 54 = .ok (.invokevirtual 269, 3) := by decide +kernel
theorem dX3_formatRiver_57 : decode cX3_formatRiver 57 = .ok (.pop, 1) := by decide +kernel
theorem dX3_formatRiver_58 : decode cX3_formatRiver 58 = .ok (.iinc 1 1, 3) := by decide +kernel
theorem dX3_formatRiver_61 : decode cX3_formatRiver 61 = .ok (.goto (-51), 3) := by decide +kernel
theorem dX3_formatRiver_64 : decode cX3_formatRiver 64 = .ok (.aload_n 0, 1) := by decide +kernel
theorem dX3_formatRiver_65 : decode cX3_formatRiver 65 = .ok (.getfield 44, 3) := by decide +kernel
theorem dX3_formatRiver_68 : decode cX3_formatRiver 68 = .ok (.invokevirtual 272, 3) := by decide +kernel
theorem dX3_formatRiver_71 : decode cX3_formatRiver 71 = .ok (.ireturn, 1) := by decide +kernel
theorem dX3_formattedByte_0 : decode cX3_formattedByte 0 = .ok (.iload_n 1, 1) := by decide +kernel
theorem dX3_formattedByte_1 : decode cX3_formattedByte 1 = .ok (.ifCond .lt 14, 3) := by decide +kernel
theorem dX3_formattedByte_4 : decode cX3_formattedByte 4 = .ok (.iload_n 1, 1) := by decide +kernel
theorem dX3_formattedByte_5 : decode cX3_formattedByte 5 = .ok (.aload_n 0, 1) := by decide +kernel
theorem dX3_formattedByte_6 : decode cX3_formattedByte 6 = .ok (.getfield 44, 3) := by decide +kernel
theorem dX3_formattedByte_9 : decode cX3_formattedByte 9 = .ok (.invokevirtual 272, 3) := by decide +kernel
theorem dX3_formattedByte_12 : decode cX3_formattedByte 12 = .ok (.if_icmp .lt 5, 3) := by decide +kernel
theorem dX3_formattedByte_15 : decode cX3_formattedByte 15 = .ok (.iconst (-1), 1) := by decide +kernel
theorem dX3_formattedByte_16 : decode cX3_formattedByte 16 = .ok (.ireturn, 1) := by decide +kernel
theorem dX3_formattedByte_17 : decode cX3_formattedByte 17 = .ok (.aload_n 0, 1) := by decide +kernel
theorem dX3_formattedByte_18 : decode cX3_formattedByte 18 = .ok (.getfield 44, 3) := by decide +kernel
theorem dX3_formattedByte_21 : decode cX3_formattedByte 21 = .ok (.iload_n 1, 1) := by decide +kernel
theorem dX3_formattedByte_22 : decode cX3_formattedByte 22 = .ok (.invokevirtual 274, 3) := by decide +kernel
theorem dX3_formattedByte_25 : decode cX3_formattedByte 25 = .ok (.ireturn, 1) := by decide +kernel
theorem dX3_needRow_0 : decode cX3_needRow 0 = .ok (.aload_n 0, 1) := by decide +kernel
theorem dX3_needRow_1 : decode cX3_needRow 1 = .ok (.iload_n 1, 1) := by decide +kernel
theorem dX3_needRow_2 : decode cX3_needRow 2 = .ok (.invokevirtual 277, 3) := by decide +kernel
theorem dX3_needRow_5 : decode cX3_needRow 5 = .ok (.ifCond .ne 14, 3) := by decide +kernel
theorem dX3_needRow_8 : decode cX3_needRow 8 = .ok (.new 281, 3) := by decide +kernel
theorem dX3_needRow_11 : decode cX3_needRow 11 = .ok (.dup, 1) := by decide +kernel
theorem dX3_needRow_12 : decode cX3_needRow 12 = .ok (.ldc_w 283, 3) := by decide +kernel
theorem dX3_needRow_15 : decode cX3_needRow 15 = .ok (.invokespecial 285, 3) := by decide +kernel
theorem dX3_needRow_18 : decode cX3_needRow 18 = .ok (.athrow, 1) := by decide +kernel
theorem dX3_needRow_19 : decode cX3_needRow 19 = .ok (.return_, 1) := by decide +kernel
theorem dX3_needSlot_0 : decode cX3_needSlot 0 = .ok (.iload_n 0, 1) := by decide +kernel
theorem dX3_needSlot_1 : decode cX3_needSlot 1 = .ok (.ifCond .lt 8, 3) := by decide +kernel
theorem dX3_needSlot_4 : decode cX3_needSlot 4 = .ok (.iload_n 0, 1) := by decide +kernel
theorem dX3_needSlot_5 : decode cX3_needSlot 5 = .ok (.iconst 2, 1) := by decide +kernel
theorem dX3_needSlot_6 : decode cX3_needSlot 6 = .ok (.if_icmp .lt 14, 3) := by decide +kernel
theorem dX3_needSlot_9 : decode cX3_needSlot 9 = .ok (.new 281, 3) := by decide +kernel
theorem dX3_needSlot_12 : decode cX3_needSlot 12 = .ok (.dup, 1) := by decide +kernel
theorem dX3_needSlot_13 : decode cX3_needSlot 13 = .ok (.ldc_w 286, 3) := by decide +kernel
theorem dX3_needSlot_16 : decode cX3_needSlot 16 = .ok (.invokespecial 285, 3) := by decide +kernel
theorem dX3_needSlot_19 : decode cX3_needSlot 19 = .ok (.athrow, 1) := by decide +kernel
theorem dX3_needSlot_20 : decode cX3_needSlot 20 = .ok (.return_, 1) := by decide +kernel
theorem dX3_needWhat_0 : decode cX3_needWhat 0 = .ok (.iload_n 0, 1) := by decide +kernel
theorem dX3_needWhat_1 : decode cX3_needWhat 1 = .ok (.ifCond .lt 8, 3) := by decide +kernel
theorem dX3_needWhat_4 : decode cX3_needWhat 4 = .ok (.iload_n 0, 1) := by decide +kernel
theorem dX3_needWhat_5 : decode cX3_needWhat 5 = .ok (.iload_n 1, 1) := by decide +kernel
theorem dX3_needWhat_6 : decode cX3_needWhat 6 = .ok (.if_icmp .lt 14, 3) := by decide +kernel
theorem dX3_needWhat_9 : decode cX3_needWhat 9 = .ok (.new 116, 3) := by decide +kernel
theorem dX3_needWhat_12 : decode cX3_needWhat 12 = .ok (.dup, 1) := by decide +kernel
theorem dX3_needWhat_13 : decode cX3_needWhat 13 = .ok (.ldc_w 288, 3) := by decide +kernel
theorem dX3_needWhat_16 : decode cX3_needWhat 16 = .ok (.invokespecial 120, 3) := by decide +kernel
theorem dX3_needWhat_19 : decode cX3_needWhat 19 = .ok (.athrow, 1) := by decide +kernel
theorem dX3_needWhat_20 : decode cX3_needWhat 20 = .ok (.return_, 1) := by decide +kernel
theorem dX3_needRange_0 : decode cX3_needRange 0 = .ok (.iload_n 0, 1) := by decide +kernel
theorem dX3_needRange_1 : decode cX3_needRange 1 = .ok (.iload_n 1, 1) := by decide +kernel
theorem dX3_needRange_2 : decode cX3_needRange 2 = .ok (.if_icmp .lt 8, 3) := by decide +kernel
theorem dX3_needRange_5 : decode cX3_needRange 5 = .ok (.iload_n 0, 1) := by decide +kernel
theorem dX3_needRange_6 : decode cX3_needRange 6 = .ok (.iload_n 2, 1) := by decide +kernel
theorem dX3_needRange_7 : decode cX3_needRange 7 = .ok (.if_icmp .le 13, 3) := by decide +kernel
theorem dX3_needRange_10 : decode cX3_needRange 10 = .ok (.new 63, 3) := by decide +kernel
theorem dX3_needRange_13 : decode cX3_needRange 13 = .ok (.dup, 1) := by decide +kernel
theorem dX3_needRange_14 : decode cX3_needRange 14 = .ok (.ldc 235, 2) := by decide +kernel
theorem dX3_needRange_16 : decode cX3_needRange 16 = .ok (.invokespecial 67, 3) := by decide +kernel
theorem dX3_needRange_19 : decode cX3_needRange 19 = .ok (.athrow, 1) := by decide +kernel
theorem dX3_needRange_20 : decode cX3_needRange 20 = .ok (.return_, 1) := by decide +kernel
theorem dX3_needReaches_0 : decode cX3_needReaches 0 = .ok (.aload_n 0, 1) := by decide +kernel
theorem dX3_needReaches_1 : decode cX3_needReaches 1 = .ok (.getfield 10, 3) := by decide +kernel
theorem dX3_needReaches_4 : decode cX3_needReaches 4 = .ok (.getfield 95, 3) := by decide +kernel
theorem dX3_needReaches_7 : decode cX3_needReaches 7 = .ok (.getfield 84, 3) := by decide +kernel
theorem dX3_needReaches_10 : decode cX3_needReaches 10 = .ok (.ifCond .ne 14, 3) := by decide +kernel
theorem dX3_needReaches_13 : decode cX3_needReaches 13 = .ok (.new 227, 3) := by decide +kernel
theorem dX3_needReaches_16 : decode cX3_needReaches 16 = .ok (.dup, 1) := by decide +kernel
theorem dX3_needReaches_17 : decode cX3_needReaches 17 = .ok (.ldc_w 290, 3) := by decide +kernel
theorem dX3_needReaches_20 : decode cX3_needReaches 20 = .ok (.invokespecial 231, 3) := by decide +kernel
theorem dX3_needReaches_23 : decode cX3_needReaches 23 = .ok (.athrow, 1) := by decide +kernel
theorem dX3_needReaches_24 : decode cX3_needReaches 24 = .ok (.return_, 1) := by decide +kernel
theorem dX4_init_0 : decode cX4_init 0 = .ok (.aload_n 0, 1) := by decide +kernel
theorem dX4_init_1 : decode cX4_init 1 = .ok (.invokespecial 1, 3) := by decide +kernel
theorem dX4_init_4 : decode cX4_init 4 = .ok (.aload_n 0, 1) := by decide +kernel
theorem dX4_init_5 : decode cX4_init 5 = .ok (.sipush 521, 3) := by decide +kernel
theorem dX4_init_8 : decode cX4_init 8 = .ok (.newarray .int, 2) := by decide +kernel
theorem dX4_init_10 : decode cX4_init 10 = .ok (.putfield 7, 3) := by decide +kernel
theorem dX4_init_13 : decode cX4_init 13 = .ok (.aload_n 0, 1) := by decide +kernel
theorem dX4_init_14 : decode cX4_init 14 = .ok (.sipush 521, 3) := by decide +kernel
theorem dX4_init_17 : decode cX4_init 17 = .ok (.newarray .int, 2) := by decide +kernel
theorem dX4_init_19 : decode cX4_init 19 = .ok (.putfield 13, 3) := by decide +kernel
theorem dX4_init_22 : decode cX4_init 22 = .ok (.aload_n 0, 1) := by decide +kernel
theorem dX4_init_23 : decode cX4_init 23 = .ok (.sipush 521, 3) := by decide +kernel
theorem dX4_init_26 : decode cX4_init 26 = .ok (.newarray .int, 2) := by decide +kernel
theorem dX4_init_28 : decode cX4_init 28 = .ok (.putfield 16, 3) := by decide +kernel
theorem dX4_init_31 : decode cX4_init 31 = .ok (.aload_n 0, 1) := by decide +kernel
theorem dX4_init_32 : decode cX4_init 32 = .ok (.sipush 4168, 3) := by decide +kernel
theorem dX4_init_35 : decode cX4_init 35 = .ok (.newarray .int, 2) := by decide +kernel
theorem dX4_init_37 : decode cX4_init 37 = .ok (.putfield 19, 3) := by decide +kernel
theorem dX4_init_40 : decode cX4_init 40 = .ok (.aload_n 0, 1) := by decide +kernel
theorem dX4_init_41 : decode cX4_init 41 = .ok (.bipush 15, 2) := by decide +kernel
theorem dX4_init_43 : decode cX4_init 43 = .ok (.newarray .long, 2) := by decide +kernel
theorem dX4_init_45 : decode cX4_init 45 = .ok (.putfield 22, 3) := by decide +kernel
theorem dX4_init_48 : decode cX4_init 48 = .ok (.aload_n 0, 1) := by decide +kernel
theorem dX4_init_49 : decode cX4_init 49 = .ok (.bipush 15, 2) := by decide +kernel
theorem dX4_init_51 : decode cX4_init 51 = .ok (.newarray .long, 2) := by decide +kernel
theorem dX4_init_53 : decode cX4_init 53 = .ok (.putfield 26, 3) := by decide +kernel
theorem dX4_init_56 : decode cX4_init 56 = .ok (.aload_n 0, 1) := by decide +kernel
theorem dX4_init_57 : decode cX4_init 57 = .ok (.bipush 120, 2) := by decide +kernel
theorem dX4_init_59 : decode cX4_init 59 = .ok (.newarray .long, 2) := by decide +kernel
theorem dX4_init_61 : decode cX4_init 61 = .ok (.putfield 29, 3) := by decide +kernel
theorem dX4_init_64 : decode cX4_init 64 = .ok (.aload_n 0, 1) := by decide +kernel
theorem dX4_init_65 : decode cX4_init 65 = .ok (.sipush 1042, 3) := by decide +kernel
theorem dX4_init_68 : decode cX4_init 68 = .ok (.newarray .int, 2) := by decide +kernel
theorem dX4_init_70 : decode cX4_init 70 = .ok (.putfield 32, 3) := by decide +kernel
theorem dX4_init_73 : decode cX4_init 73 = .ok (.aload_n 0, 1) := by decide +kernel
theorem dX4_init_74 : decode cX4_init 74 = .ok (.bipush 30, 2) := by decide +kernel
theorem dX4_init_76 : decode cX4_init 76 = .ok (.newarray .long, 2) := by decide +kernel
theorem dX4_init_78 : decode cX4_init 78 = .ok (.putfield 35, 3) := by decide +kernel
theorem dX4_init_81 : decode cX4_init 81 = .ok (.aload_n 0, 1) := by decide +kernel
theorem dX4_init_82 : decode cX4_init 82 = .ok (.iconst 2, 1) := by decide +kernel
theorem dX4_init_83 : decode cX4_init 83 = .ok (.newarray .boolean, 2) := by decide +kernel
theorem dX4_init_85 : decode cX4_init 85 = .ok (.putfield 38, 3) := by decide +kernel
theorem dX4_init_88 : decode cX4_init 88 = .ok (.aload_n 0, 1) := by decide +kernel
theorem dX4_init_89 : decode cX4_init 89 = .ok (.sipush 900, 3) := by decide +kernel
theorem dX4_init_92 : decode cX4_init 92 = .ok (.newarray .byte, 2) := by decide +kernel
theorem dX4_init_94 : decode cX4_init 94 = .ok (.putfield 42, 3) := by decide +kernel
theorem dX4_init_97 : decode cX4_init 97 = .ok (.aload_n 0, 1) := by decide +kernel
theorem dX4_init_98 : decode cX4_init 98 = .ok (.iconst (-1), 1) := by decide +kernel
theorem dX4_init_99 : decode cX4_init 99 = .ok (.putfield 46, 3) := by decide +kernel
theorem dX4_init_102 : decode cX4_init 102 = .ok (.aload_n 0, 1) := by decide +kernel
theorem dX4_init_103 : decode cX4_init 103 = .ok (.bipush 6, 2) := by decide +kernel
theorem dX4_init_105 : decode cX4_init 105 = .ok (.newarray .int, 2) := by decide +kernel
theorem dX4_init_107 : decode cX4_init 107 = .ok (.putfield 50, 3) := by decide +kernel
theorem dX4_init_110 : decode cX4_init 110 = .ok (.aload_n 0, 1) := by decide +kernel
theorem dX4_init_111 : decode cX4_init 111 = .ok (.bipush 10, 2) := by decide +kernel
theorem dX4_init_113 : decode cX4_init 113 = .ok (.newarray .boolean, 2) := by decide +kernel
theorem dX4_init_115 : decode cX4_init 115 = .ok (.putfield 53, 3) := by decide +kernel
theorem dX4_init_118 : decode cX4_init 118 = .ok (.aload_n 0, 1) := by decide +kernel
theorem dX4_init_119 : decode cX4_init 119 = .ok (.iconst (-1), 1) := by decide +kernel
theorem dX4_init_120 : decode cX4_init 120 = .ok (.putfield 56, 3) := by decide +kernel
theorem dX4_init_123 : decode cX4_init 123 = .ok (.aload_n 0, 1) := by decide +kernel
theorem dX4_init_124 : decode cX4_init 124 = .ok (.iconst (-1), 1) := by decide +kernel
theorem dX4_init_125 : decode cX4_init 125 = .ok (.putfield 59, 3) := by decide +kernel
theorem dX4_init_128 : decode cX4_init 128 = .ok (.aload_n 0, 1) := by decide +kernel
theorem dX4_init_129 : decode cX4_init 129 = .ok (.iconst (-1), 1) := by decide +kernel
theorem dX4_init_130 : decode cX4_init 130 = .ok (.putfield 62, 3) := by decide +kernel
theorem dX4_init_133 : decode cX4_init 133 = .ok (.aload_n 0, 1) := by decide +kernel
theorem dX4_init_134 : decode cX4_init 134 = .ok (.bipush 10, 2) := by decide +kernel
theorem dX4_init_136 : decode cX4_init 136 = .ok (.newarray .int, 2) := by decide +kernel
theorem dX4_init_138 : decode cX4_init 138 = .ok (.putfield 65, 3) := by decide +kernel
theorem dX4_init_141 : decode cX4_init 141 = .ok (.aload_n 0, 1) := by decide +kernel
theorem dX4_init_142 : decode cX4_init 142 = .ok (.sipush 400, 3) := by decide +kernel
theorem dX4_init_145 : decode cX4_init 145 = .ok (.newarray .int, 2) := by decide +kernel
theorem dX4_init_147 : decode cX4_init 147 = .ok (.putfield 68, 3) := by decide +kernel
theorem dX4_init_150 : decode cX4_init 150 = .ok (.aload_n 0, 1) := by decide +kernel
theorem dX4_init_151 : decode cX4_init 151 = .ok (.invokevirtual 71, 3) := by decide +kernel
theorem dX4_init_154 : decode cX4_init 154 = .ok (.aload_n 0, 1) := by decide +kernel
theorem dX4_init_155 : decode cX4_init 155 = .ok (.invokevirtual 74, 3) := by decide +kernel
theorem dX4_init_158 : decode cX4_init 158 = .ok (.return_, 1) := by decide +kernel
theorem dX4_thrown_0 : decode cX4_thrown 0 = .ok (.aload_n 0, 1) := by decide +kernel
theorem dX4_thrown_1 : decode cX4_thrown 1 = .ok (.getfield 77, 3) := by decide +kernel
theorem dX4_thrown_4 : decode cX4_thrown 4 = .ok (.ireturn, 1) := by decide +kernel
theorem dX4_inRange_0 : decode cX4_inRange 0 = .ok (.iload_n 0, 1) := by decide +kernel
theorem dX4_inRange_1 : decode cX4_inRange 1 = .ok (.iload_n 1, 1) := by decide +kernel
theorem dX4_inRange_2 : decode cX4_inRange 2 = .ok (.if_icmp .lt 12, 3) := by decide +kernel
theorem dX4_inRange_5 : decode cX4_inRange 5 = .ok (.iload_n 0, 1) := by decide +kernel
theorem dX4_inRange_6 : decode cX4_inRange 6 = .ok (.iload_n 2, 1) := by decide +kernel
theorem dX4_inRange_7 : decode cX4_inRange 7 = .ok (.if_icmp .gt 7, 3) := by decide +kernel
theorem dX4_inRange_10 : decode cX4_inRange 10 = .ok (.iconst 1, 1) := by decide +kernel
theorem dX4_inRange_11 : decode cX4_inRange 11 = .ok (.goto 4, 3) := by decide +kernel
theorem dX4_inRange_14 : decode cX4_inRange 14 = .ok (.iconst 0, 1) := by decide +kernel
theorem dX4_inRange_15 : decode cX4_inRange 15 = .ok (.ireturn, 1) := by decide +kernel
theorem dX4_lesser_0 : decode cX4_lesser 0 = .ok (.iload_n 0, 1) := by decide +kernel
theorem dX4_lesser_1 : decode cX4_lesser 1 = .ok (.iload_n 1, 1) := by decide +kernel
theorem dX4_lesser_2 : decode cX4_lesser 2 = .ok (.if_icmp .ge 7, 3) := by decide +kernel
theorem dX4_lesser_5 : decode cX4_lesser 5 = .ok (.iload_n 0, 1) := by decide +kernel
theorem dX4_lesser_6 : decode cX4_lesser 6 = .ok (.goto 4, 3) := by decide +kernel
theorem dX4_lesser_9 : decode cX4_lesser 9 = .ok (.iload_n 1, 1) := by decide +kernel
theorem dX4_lesser_10 : decode cX4_lesser 10 = .ok (.ireturn, 1) := by decide +kernel
theorem dX4_rightAt_0 : decode cX4_rightAt 0 = .ok (.bipush 58, 2) := by decide +kernel
theorem dX4_rightAt_2 : decode cX4_rightAt 2 = .ok (.bipush 10, 2) := by decide +kernel
theorem dX4_rightAt_4 : decode cX4_rightAt 4 = .ok (.iload_n 0, 1) := by decide +kernel
theorem dX4_rightAt_5 : decode cX4_rightAt 5 = .ok (.imul, 1) := by decide +kernel
theorem dX4_rightAt_6 : decode cX4_rightAt 6 = .ok (.iadd, 1) := by decide +kernel
theorem dX4_rightAt_7 : decode cX4_rightAt 7 = .ok (.iload_n 1, 1) := by decide +kernel
theorem dX4_rightAt_8 : decode cX4_rightAt 8 = .ok (.iadd, 1) := by decide +kernel
theorem dX4_rightAt_9 : decode cX4_rightAt 9 = .ok (.ireturn, 1) := by decide +kernel
theorem dX4_rightOf_0 : decode cX4_rightOf 0 = .ok (.aload_n 0, 1) := by decide +kernel
theorem dX4_rightOf_1 : decode cX4_rightOf 1 = .ok (.getfield 7, 3) := by decide +kernel
theorem dX4_rightOf_4 : decode cX4_rightOf 4 = .ok (.iload_n 1, 1) := by decide +kernel
theorem dX4_rightOf_5 : decode cX4_rightOf 5 = .ok (.iload_n 2, 1) := by decide +kernel
theorem dX4_rightOf_6 : decode cX4_rightOf 6 = .ok (.invokestatic 80, 3) := by decide +kernel
theorem dX4_rightOf_9 : decode cX4_rightOf 9 = .ok (.iaload, 1) := by decide +kernel
theorem dX4_rightOf_10 : decode cX4_rightOf 10 = .ok (.ireturn, 1) := by decide +kernel
theorem dX4_leaseOf_0 : decode cX4_leaseOf 0 = .ok (.aload_n 0, 1) := by decide +kernel
theorem dX4_leaseOf_1 : decode cX4_leaseOf 1 = .ok (.getfield 7, 3) := by decide +kernel
theorem dX4_leaseOf_4 : decode cX4_leaseOf 4 = .ok (.sipush 158, 3) := by decide +kernel
theorem dX4_leaseOf_7 : decode cX4_leaseOf 7 = .ok (.bipush 6, 2) := by decide +kernel
theorem dX4_leaseOf_9 : decode cX4_leaseOf 9 = .ok (.iload_n 1, 1) := by decide +kernel
theorem dX4_leaseOf_10 : decode cX4_leaseOf 10 = .ok (.imul, 1) := by decide +kernel
theorem dX4_leaseOf_11 : decode cX4_leaseOf 11 = .ok (.iadd, 1) := by decide +kernel
theorem dX4_leaseOf_12 : decode cX4_leaseOf 12 = .ok (.iload_n 2, 1) := by decide +kernel
theorem dX4_leaseOf_13 : decode cX4_leaseOf 13 = .ok (.iadd, 1) := by decide +kernel
theorem dX4_leaseOf_14 : decode cX4_leaseOf 14 = .ok (.iaload, 1) := by decide +kernel
theorem dX4_leaseOf_15 : decode cX4_leaseOf 15 = .ok (.ireturn, 1) := by decide +kernel
theorem dX4_optionOf_0 : decode cX4_optionOf 0 = .ok (.aload_n 0, 1) := by decide +kernel
theorem dX4_optionOf_1 : decode cX4_optionOf 1 = .ok (.getfield 7, 3) := by decide +kernel
theorem dX4_optionOf_4 : decode cX4_optionOf 4 = .ok (.sipush 206, 3) := by decide +kernel
theorem dX4_optionOf_7 : decode cX4_optionOf 7 = .ok (.bipush 6, 2) := by decide +kernel
theorem dX4_optionOf_9 : decode cX4_optionOf 9 = .ok (.iload_n 1, 1) := by decide +kernel
theorem dX4_optionOf_10 : decode cX4_optionOf 10 = .ok (.imul, 1) := by decide +kernel
theorem dX4_optionOf_11 : decode cX4_optionOf 11 = .ok (.iadd, 1) := by decide +kernel
theorem dX4_optionOf_12 : decode cX4_optionOf 12 = .ok (.iload_n 2, 1) := by decide +kernel
theorem dX4_optionOf_13 : decode cX4_optionOf 13 = .ok (.iadd, 1) := by decide +kernel
theorem dX4_optionOf_14 : decode cX4_optionOf 14 = .ok (.iaload, 1) := by decide +kernel
theorem dX4_optionOf_15 : decode cX4_optionOf 15 = .ok (.ireturn, 1) := by decide +kernel
theorem dX4_append_0 : decode cX4_append 0 = .ok (.aload_n 0, 1) := by decide +kernel
theorem dX4_append_1 : decode cX4_append 1 = .ok (.iconst 0, 1) := by decide +kernel
theorem dX4_append_2 : decode cX4_append 2 = .ok (.putfield 77, 3) := by decide +kernel
theorem dX4_append_5 : decode cX4_append 5 = .ok (.aload_n 0, 1) := by decide +kernel
theorem dX4_append_6 : decode cX4_append 6 = .ok (.getfield 84, 3) := by decide +kernel
theorem dX4_append_9 : decode cX4_append 9 = .ok (.bipush 20, 2) := by decide +kernel
theorem dX4_append_11 : decode cX4_append 11 = .ok (.iadd, 1) := by decide +kernel
theorem dX4_append_12 : decode cX4_append 12 = .ok (.sipush 900, 3) := by decide +kernel
theorem dX4_append_15 : decode cX4_append 15 = .ok (.if_icmp .le 5, 3) := by decide +kernel
theorem dX4_append_18 : decode cX4_append 18 = .ok (.iconst (-1), 1) := by decide +kernel
theorem dX4_append_19 : decode cX4_append 19 = .ok (.ireturn, 1) := by decide +kernel
theorem dX4_append_20 : decode cX4_append 20 = .ok (.iconst 0, 1) := by decide +kernel
theorem dX4_append_21 : decode cX4_append 21 = .ok (.istore 6, 2) := by decide +kernel
theorem dX4_append_23 : decode cX4_append 23 = .ok (.iload 6, 2) := by decide +kernel
theorem dX4_append_25 : decode cX4_append 25 = .ok (.bipush 20, 2) := by decide +kernel
theorem dX4_append_27 : decode cX4_append 27 = .ok (.if_icmp .ge 90, 3) := by decide +kernel
theorem dX4_append_30 : decode cX4_append 30 = .ok (.iload 6, 2) := by decide +kernel
theorem dX4_append_32 : decode cX4_append 32 = .ok (.iconst 4, 1) := by decide +kernel
theorem dX4_append_33 : decode cX4_append 33 = .ok (.if_icmp .ge 7, 3) := by decide +kernel
theorem dX4_append_36 : decode cX4_append 36 = .ok (.iload_n 1, 1) := by decide +kernel
theorem dX4_append_37 : decode cX4_append 37 = .ok (.goto 39, 3) := by decide +kernel
theorem dX4_append_40 : decode cX4_append 40 = .ok (.iload 6, 2) := by decide +kernel
theorem dX4_append_42 : decode cX4_append 42 = .ok (.bipush 8, 2) := by decide +kernel
theorem dX4_append_44 : decode cX4_append 44 = .ok (.if_icmp .ge 7, 3) := by decide +kernel
theorem dX4_append_47 : decode cX4_append 47 = .ok (.iload_n 2, 1) := by decide +kernel
theorem dX4_append_48 : decode cX4_append 48 = .ok (.goto 28, 3) := by decide +kernel
theorem dX4_append_51 : decode cX4_append 51 = .ok (.iload 6, 2) := by decide +kernel
theorem dX4_append_53 : decode cX4_append 53 = .ok (.bipush 12, 2) := by decide +kernel
theorem dX4_append_55 : decode cX4_append 55 = .ok (.if_icmp .ge 7, 3) := by decide +kernel
theorem dX4_append_58 : decode cX4_append 58 = .ok (.iload_n 3, 1) := by decide +kernel
theorem dX4_append_59 : decode cX4_append 59 = .ok (.goto 17, 3) := by decide +kernel
theorem dX4_append_62 : decode cX4_append 62 = .ok (.iload 6, 2) := by decide +kernel
theorem dX4_append_64 : decode cX4_append 64 = .ok (.bipush 16, 2) := by decide +kernel
theorem dX4_append_66 : decode cX4_append 66 = .ok (.if_icmp .ge 8, 3) := by decide +kernel
theorem dX4_append_69 : decode cX4_append 69 = .ok (.iload 4, 2) := by decide +kernel
theorem dX4_append_71 : decode cX4_append 71 = .ok (.goto 5, 3) := by decide +kernel
theorem dX4_append_74 : decode cX4_append 74 = .ok (.iload 5, 2) := by decide +kernel
theorem dX4_append_76 : decode cX4_append 76 = .ok (.istore 7, 2) := by decide +kernel
theorem dX4_append_78 : decode cX4_append 78 = .ok (.aload_n 0, 1) := by decide +kernel
theorem dX4_append_79 : decode cX4_append 79 = .ok (.getfield 42, 3) := by decide +kernel
theorem dX4_append_82 : decode cX4_append 82 = .ok (.aload_n 0, 1) := by decide +kernel
theorem dX4_append_83 : decode cX4_append 83 = .ok (.getfield 84, 3) := by decide +kernel
theorem dX4_append_86 : decode cX4_append 86 = .ok (.iload 7, 2) := by decide +kernel
theorem dX4_append_88 : decode cX4_append 88 = .ok (.bipush 24, 2) := by decide +kernel
theorem dX4_append_90 : decode cX4_append 90 = .ok (.bipush 8, 2) := by decide +kernel
theorem dX4_append_92 : decode cX4_append 92 = .ok (.iload 6, 2) := by decide +kernel
theorem dX4_append_94 : decode cX4_append 94 = .ok (.iconst 4, 1) := by decide +kernel
theorem dX4_append_95 : decode cX4_append 95 = .ok (.irem, 1) := by decide +kernel
theorem dX4_append_96 : decode cX4_append 96 = .ok (.imul, 1) := by decide +kernel
theorem dX4_append_97 : decode cX4_append 97 = .ok (.isub, 1) := by decide +kernel
theorem dX4_append_98 : decode cX4_append 98 = .ok (.ishr, 1) := by decide +kernel
theorem dX4_append_99 : decode cX4_append 99 = .ok (.i2b, 1) := by decide +kernel
theorem dX4_append_100 : decode cX4_append 100 = .ok (.bastore, 1) := by decide +kernel
theorem dX4_append_101 : decode cX4_append 101 = .ok (.aload_n 0, 1) := by decide +kernel
theorem dX4_append_102 : decode cX4_append 102 = .ok (.dup, 1) := by decide +kernel
theorem dX4_append_103 : decode cX4_append 103 = .ok (.getfield 84, 3) := by decide +kernel
theorem dX4_append_106 : decode cX4_append 106 = .ok (.iconst 1, 1) := by decide +kernel
theorem dX4_append_107 : decode cX4_append 107 = .ok (.iadd, 1) := by decide +kernel
theorem dX4_append_108 : decode cX4_append 108 = .ok (.putfield 84, 3) := by decide +kernel
theorem dX4_append_111 : decode cX4_append 111 = .ok (.iinc 6 1, 3) := by decide +kernel
theorem dX4_append_114 : decode cX4_append 114 = .ok (.goto (-91), 3) := by decide +kernel
theorem dX4_append_117 : decode cX4_append 117 = .ok (.aload_n 0, 1) := by decide +kernel
theorem dX4_append_118 : decode cX4_append 118 = .ok (.getfield 84, 3) := by decide +kernel
theorem dX4_append_121 : decode cX4_append 121 = .ok (.ireturn, 1) := by decide +kernel
theorem dX4_truncate_0 : decode cX4_truncate 0 = .ok (.aload_n 0, 1) := by decide +kernel
theorem dX4_truncate_1 : decode cX4_truncate 1 = .ok (.iconst 0, 1) := by decide +kernel
theorem dX4_truncate_2 : decode cX4_truncate 2 = .ok (.putfield 77, 3) := by decide +kernel
theorem dX4_truncate_5 : decode cX4_truncate 5 = .ok (.iload_n 1, 1) := by decide +kernel
theorem dX4_truncate_6 : decode cX4_truncate 6 = .ok (.ifCond .lt 11, 3) := by decide +kernel
theorem dX4_truncate_9 : decode cX4_truncate 9 = .ok (.iload_n 1, 1) := by decide +kernel
theorem dX4_truncate_10 : decode cX4_truncate 10 = .ok (.aload_n 0, 1) := by decide +kernel
theorem dX4_truncate_11 : decode cX4_truncate 11 = .ok (.getfield 84, 3) := by decide +kernel
theorem dX4_truncate_14 : decode cX4_truncate 14 = .ok (.if_icmp .le 5, 3) := by decide +kernel
theorem dX4_truncate_17 : decode cX4_truncate 17 = .ok (.iconst 0, 1) := by decide +kernel
theorem dX4_truncate_18 : decode cX4_truncate 18 = .ok (.ireturn, 1) := by decide +kernel
theorem dX4_truncate_19 : decode cX4_truncate 19 = .ok (.aload_n 0, 1) := by decide +kernel
theorem dX4_truncate_20 : decode cX4_truncate 20 = .ok (.iload_n 1, 1) := by decide +kernel
theorem dX4_truncate_21 : decode cX4_truncate 21 = .ok (.putfield 84, 3) := by decide +kernel
theorem dX4_truncate_24 : decode cX4_truncate 24 = .ok (.iconst 1, 1) := by decide +kernel
theorem dX4_truncate_25 : decode cX4_truncate 25 = .ok (.ireturn, 1) := by decide +kernel
theorem dX4_byteAt_0 : decode cX4_byteAt 0 = .ok (.iload_n 1, 1) := by decide +kernel
theorem dX4_byteAt_1 : decode cX4_byteAt 1 = .ok (.aload_n 0, 1) := by decide +kernel
theorem dX4_byteAt_2 : decode cX4_byteAt 2 = .ok (.getfield 87, 3) := by decide +kernel
theorem dX4_byteAt_5 : decode cX4_byteAt 5 = .ok (.if_icmp .ge 16, 3) := by decide +kernel
theorem dX4_byteAt_8 : decode cX4_byteAt 8 = .ok (.aload_n 0, 1) := by decide +kernel
theorem dX4_byteAt_9 : decode cX4_byteAt 9 = .ok (.getfield 42, 3) := by decide +kernel
theorem dX4_byteAt_12 : decode cX4_byteAt 12 = .ok (.iload_n 1, 1) := by decide +kernel
theorem dX4_byteAt_13 : decode cX4_byteAt 13 = .ok (.baload, 1) := by decide +kernel
theorem dX4_byteAt_14 : decode cX4_byteAt 14 = .ok (.sipush 255, 3) := by decide +kernel
theorem dX4_byteAt_17 : decode cX4_byteAt 17 = .ok (.iand, 1) := by decide +kernel
theorem dX4_byteAt_18 : decode cX4_byteAt 18 = .ok (.goto 4, 3) := by decide +kernel
theorem dX4_byteAt_21 : decode cX4_byteAt 21 = .ok (.iconst (-1), 1) := by decide +kernel
theorem dX4_byteAt_22 : decode cX4_byteAt 22 = .ok (.ireturn, 1) := by decide +kernel
theorem dX4_peek_0 : decode cX4_peek 0 = .ok (.aload_n 0, 1) := by decide +kernel
theorem dX4_peek_1 : decode cX4_peek 1 = .ok (.aload_n 0, 1) := by decide +kernel
theorem dX4_peek_2 : decode cX4_peek 2 = .ok (.getfield 90, 3) := by decide +kernel
theorem dX4_peek_5 : decode cX4_peek 5 = .ok (.invokevirtual 93, 3) := by decide +kernel
theorem dX4_peek_8 : decode cX4_peek 8 = .ok (.bipush 9, 2) := by decide +kernel
theorem dX4_peek_10 : decode cX4_peek 10 = .ok (.if_icmp .eq 29, 3) := by decide +kernel
theorem dX4_peek_13 : decode cX4_peek 13 = .ok (.aload_n 0, 1) := by decide +kernel
theorem dX4_peek_14 : decode cX4_peek 14 = .ok (.aload_n 0, 1) := by decide +kernel
theorem dX4_peek_15 : decode cX4_peek 15 = .ok (.getfield 90, 3) := by decide +kernel
theorem dX4_peek_18 : decode cX4_peek 18 = .ok (.invokevirtual 93, 3) := by decide +kernel
theorem dX4_peek_21 : decode cX4_peek 21 = .ok (.bipush 10, 2) := by decide +kernel
theorem dX4_peek_23 : decode cX4_peek 23 = .ok (.if_icmp .eq 16, 3) := by decide +kernel
theorem dX4_peek_26 : decode cX4_peek 26 = .ok (.aload_n 0, 1) := by decide +kernel
theorem dX4_peek_27 : decode cX4_peek 27 = .ok (.aload_n 0, 1) := by decide +kernel
theorem dX4_peek_28 : decode cX4_peek 28 = .ok (.getfield 90, 3) := by decide +kernel
theorem dX4_peek_31 : decode cX4_peek 31 = .ok (.invokevirtual 93, 3) := by decide +kernel
theorem dX4_peek_34 : decode cX4_peek 34 = .ok (.bipush 32, 2) := by decide +kernel
theorem dX4_peek_36 : decode cX4_peek 36 = .ok (.if_icmp .ne 16, 3) := by decide +kernel
theorem dX4_peek_39 : decode cX4_peek 39 = .ok (.aload_n 0, 1) := by decide +kernel
theorem dX4_peek_40 : decode cX4_peek 40 = .ok (.dup, 1) := by decide +kernel
theorem dX4_peek_41 : decode cX4_peek 41 = .ok (.getfield 90, 3) := by decide +kernel
theorem dX4_peek_44 : decode cX4_peek 44 = .ok (.iconst 1, 1) := by decide +kernel
theorem dX4_peek_45 : decode cX4_peek 45 = .ok (.iadd, 1) := by decide +kernel
theorem dX4_peek_46 : decode cX4_peek 46 = .ok (.putfield 90, 3) := by decide +kernel
theorem dX4_peek_49 : decode cX4_peek 49 = .ok (.goto (-49), 3) := by decide +kernel
theorem dX4_peek_52 : decode cX4_peek 52 = .ok (.aload_n 0, 1) := by decide +kernel
theorem dX4_peek_53 : decode cX4_peek 53 = .ok (.aload_n 0, 1) := by decide +kernel
theorem dX4_peek_54 : decode cX4_peek 54 = .ok (.getfield 90, 3) := by decide +kernel
theorem dX4_peek_57 : decode cX4_peek 57 = .ok (.invokevirtual 93, 3) := by decide +kernel
theorem dX4_peek_60 : decode cX4_peek 60 = .ok (.ireturn, 1) := by decide +kernel
theorem dX4_failed_0 : decode cX4_failed 0 = .ok (.aload_n 0, 1) := by decide +kernel
theorem dX4_failed_1 : decode cX4_failed 1 = .ok (.getfield 97, 3) := by decide +kernel
theorem dX4_failed_4 : decode cX4_failed 4 = .ok (.ifCond .eq 7, 3) := by decide +kernel
theorem dX4_failed_7 : decode cX4_failed 7 = .ok (.iconst 1, 1) := by decide +kernel
theorem dX4_failed_8 : decode cX4_failed 8 = .ok (.goto 4, 3) := by decide +kernel
theorem dX4_failed_11 : decode cX4_failed 11 = .ok (.iconst 0, 1) := by decide +kernel
theorem dX4_failed_12 : decode cX4_failed 12 = .ok (.ireturn, 1) := by decide +kernel
theorem dX4_fail_0 : decode cX4_fail 0 = .ok (.aload_n 0, 1) := by decide +kernel
theorem dX4_fail_1 : decode cX4_fail 1 = .ok (.getfield 97, 3) := by decide +kernel
theorem dX4_fail_4 : decode cX4_fail 4 = .ok (.ifCond .ne 13, 3) := by decide +kernel
theorem dX4_fail_7 : decode cX4_fail 7 = .ok (.aload_n 0, 1) := by decide +kernel
theorem dX4_fail_8 : decode cX4_fail 8 = .ok (.iload_n 1, 1) := by decide +kernel
theorem dX4_fail_9 : decode cX4_fail 9 = .ok (.putfield 97, 3) := by decide +kernel
theorem dX4_fail_12 : decode cX4_fail 12 = .ok (.aload_n 0, 1) := by decide +kernel
theorem dX4_fail_13 : decode cX4_fail 13 = .ok (.iload_n 2, 1) := by decide +kernel
theorem dX4_fail_14 : decode cX4_fail 14 = .ok (.putfield 46, 3) := by decide +kernel
theorem dX4_fail_17 : decode cX4_fail 17 = .ok (.return_, 1) := by decide +kernel
theorem dX4_accept_0 : decode cX4_accept 0 = .ok (.aload_n 0, 1) := by decide +kernel
theorem dX4_accept_1 : decode cX4_accept 1 = .ok (.invokevirtual 100, 3) := by decide +kernel
theorem dX4_accept_4 : decode cX4_accept 4 = .ok (.pop, 1) := by decide +kernel
theorem dX4_accept_5 : decode cX4_accept 5 = .ok (.aload_n 0, 1) := by decide +kernel
theorem dX4_accept_6 : decode cX4_accept 6 = .ok (.getfield 90, 3) := by decide +kernel
theorem dX4_accept_9 : decode cX4_accept 9 = .ok (.istore_n 2, 1) := by decide +kernel
theorem dX4_accept_10 : decode cX4_accept 10 = .ok (.aload_n 0, 1) := by decide +kernel
theorem dX4_accept_11 : decode cX4_accept 11 = .ok (.iload_n 2, 1) := by decide +kernel
theorem dX4_accept_12 : decode cX4_accept 12 = .ok (.invokevirtual 93, 3) := by decide +kernel
theorem dX4_accept_15 : decode cX4_accept 15 = .ok (.bipush 97, 2) := by decide +kernel
theorem dX4_accept_17 : decode cX4_accept 17 = .ok (.bipush 122, 2) := by decide +kernel
theorem dX4_accept_19 : decode cX4_accept 19 = .ok (.invokestatic 104, 3) := by decide +kernel
theorem dX4_accept_22 : decode cX4_accept 22 = .ok (.ifCond .eq 9, 3) := by decide +kernel
theorem dX4_accept_25 : decode cX4_accept 25 = .ok (.iinc 2 1, 3) := by decide +kernel
theorem dX4_accept_28 : decode cX4_accept 28 = .ok (.goto (-18), 3) := by decide +kernel
theorem dX4_accept_31 : decode cX4_accept 31 = .ok (.aload_n 0, 1) := by decide +kernel
theorem dX4_accept_32 : decode cX4_accept 32 = .ok (.invokevirtual 108, 3) := by decide +kernel
theorem dX4_accept_35 : decode cX4_accept 35 = .ok (.ifCond .ne 20, 3) := by decide +kernel
theorem dX4_accept_38 : decode cX4_accept 38 = .ok (.iload_n 2, 1) := by decide +kernel
theorem dX4_accept_39 : decode cX4_accept 39 = .ok (.aload_n 0, 1) := by decide +kernel
theorem dX4_accept_40 : decode cX4_accept 40 = .ok (.getfield 90, 3) := by decide +kernel
theorem dX4_accept_43 : decode cX4_accept 43 = .ok (.isub, 1) := by decide +kernel
theorem dX4_accept_44 : decode cX4_accept 44 = .ok (.aload_n 1, 1) := by decide +kernel
theorem dX4_accept_45 : decode cX4_accept 45 = .ok (.invokevirtual 112, 3) := by decide +kernel
theorem dX4_accept_48 : decode cX4_accept 48 = .ok (.if_icmp .ne 7, 3) := by decide +kernel
theorem dX4_accept_51 : decode cX4_accept 51 = .ok (.iconst 1, 1) := by decide +kernel
theorem dX4_accept_52 : decode cX4_accept 52 = .ok (.goto 4, 3) := by decide +kernel
theorem dX4_accept_55 : decode cX4_accept 55 = .ok (.iconst 0, 1) := by decide +kernel
theorem dX4_accept_56 : decode cX4_accept 56 = .ok (.istore_n 3, 1) := by decide +kernel
theorem dX4_accept_57 : decode cX4_accept 57 = .ok (.iconst 0, 1) := by decide +kernel
theorem dX4_accept_58 : decode cX4_accept 58 = .ok (.istore 4, 2) := by decide +kernel
theorem dX4_accept_60 : decode cX4_accept 60 = .ok (.iload 4, 2) := by decide +kernel
theorem dX4_accept_62 : decode cX4_accept 62 = .ok (.aload_n 1, 1) := by decide +kernel
theorem dX4_accept_63 : decode cX4_accept 63 = .ok (.invokevirtual 112, 3) := by decide +kernel
theorem dX4_accept_66 : decode cX4_accept 66 = .ok (.if_icmp .ge 39, 3) := by decide +kernel
theorem dX4_accept_69 : decode cX4_accept 69 = .ok (.iload_n 3, 1) := by decide +kernel
theorem dX4_accept_70 : decode cX4_accept 70 = .ok (.ifCond .eq 35, 3) := by decide +kernel
theorem dX4_accept_73 : decode cX4_accept 73 = .ok (.aload_n 0, 1) := by decide +kernel
theorem dX4_accept_74 : decode cX4_accept 74 = .ok (.aload_n 0, 1) := by decide +kernel
theorem dX4_accept_75 : decode cX4_accept 75 = .ok (.getfield 90, 3) := by decide +kernel
theorem dX4_accept_78 : decode cX4_accept 78 = .ok (.iload 4, 2) := by decide +kernel
theorem dX4_accept_80 : decode cX4_accept 80 = .ok (.iadd, 1) := by decide +kernel
theorem dX4_accept_81 : decode cX4_accept 81 = .ok (.invokevirtual 93, 3) := by decide +kernel
theorem dX4_accept_84 : decode cX4_accept 84 = .ok (.aload_n 1, 1) := by decide +kernel
theorem dX4_accept_85 : decode cX4_accept 85 = .ok (.iload 4, 2) := by decide +kernel
theorem dX4_accept_87 : decode cX4_accept 87 = .ok (.invokevirtual 117, 3) := by decide +kernel
theorem dX4_accept_90 : decode cX4_accept 90 = .ok (.if_icmp .ne 7, 3) := by decide +kernel
theorem dX4_accept_93 : decode cX4_accept 93 = .ok (.iconst 1, 1) := by decide +kernel
theorem dX4_accept_94 : decode cX4_accept 94 = .ok (.goto 4, 3) := by decide +kernel
theorem dX4_accept_97 : decode cX4_accept 97 = .ok (.iconst 0, 1) := by decide +kernel
theorem dX4_accept_98 : decode cX4_accept 98 = .ok (.istore_n 3, 1) := by decide +kernel
theorem dX4_accept_99 : decode cX4_accept 99 = .ok (.iinc 4 1, 3) := by decide +kernel
theorem dX4_accept_102 : decode cX4_accept 102 = .ok (.goto (-42), 3) := by decide +kernel
theorem dX4_accept_105 : decode cX4_accept 105 = .ok (.aload_n 0, 1) := by decide +kernel
theorem dX4_accept_106 : decode cX4_accept 106 = .ok (.dup, 1) := by decide +kernel
theorem dX4_accept_107 : decode cX4_accept 107 = .ok (.getfield 90, 3) := by decide +kernel
theorem dX4_accept_110 : decode cX4_accept 110 = .ok (.iload_n 3, 1) := by decide +kernel
theorem dX4_accept_111 : decode cX4_accept 111 = .ok (.ifCond .eq 10, 3) := by decide +kernel
theorem dX4_accept_114 : decode cX4_accept 114 = .ok (.aload_n 1, 1) := by decide +kernel
theorem dX4_accept_115 : decode cX4_accept 115 = .ok (.invokevirtual 112, 3) := by decide +kernel
theorem dX4_accept_118 : decode cX4_accept 118 = .ok (.goto 4, 3) := by decide +kernel
theorem dX4_accept_121 : decode cX4_accept 121 = .ok (.iconst 0, 1) := by decide +kernel
theorem dX4_accept_122 : decode cX4_accept 122 = .ok (.iadd, 1) := by decide +kernel
theorem dX4_accept_123 : decode cX4_accept 123 = .ok (.putfield 90, 3) := by decide +kernel
theorem dX4_accept_126 : decode cX4_accept 126 = .ok (.iload_n 3, 1) := by decide +kernel
theorem dX4_accept_127 : decode cX4_accept 127 = .ok (.ireturn, 1) := by decide +kernel
theorem dX4_isDigitHere_0 : decode cX4_isDigitHere 0 = .ok (.aload_n 0, 1) := by decide +kernel
theorem dX4_isDigitHere_1 : decode cX4_isDigitHere 1 = .ok (.invokevirtual 108, 3) := by decide +kernel
theorem dX4_isDigitHere_4 : decode cX4_isDigitHere 4 = .ok (.ifCond .ne 21, 3) := by decide +kernel
theorem dX4_isDigitHere_7 : decode cX4_isDigitHere 7 = .ok (.aload_n 0, 1) := by decide +kernel
theorem dX4_isDigitHere_8 : decode cX4_isDigitHere 8 = .ok (.invokevirtual 100, 3) := by decide +kernel
theorem dX4_isDigitHere_11 : decode cX4_isDigitHere 11 = .ok (.bipush 48, 2) := by decide +kernel
theorem dX4_isDigitHere_13 : decode cX4_isDigitHere 13 = .ok (.bipush 57, 2) := by decide +kernel
theorem dX4_isDigitHere_15 : decode cX4_isDigitHere 15 = .ok (.invokestatic 104, 3) := by decide +kernel
theorem dX4_isDigitHere_18 : decode cX4_isDigitHere 18 = .ok (.ifCond .eq 7, 3) := by decide +kernel
theorem dX4_isDigitHere_21 : decode cX4_isDigitHere 21 = .ok (.iconst 1, 1) := by decide +kernel
theorem dX4_isDigitHere_22 : decode cX4_isDigitHere 22 = .ok (.goto 4, 3) := by decide +kernel
theorem dX4_isDigitHere_25 : decode cX4_isDigitHere 25 = .ok (.iconst 0, 1) := by decide +kernel
theorem dX4_isDigitHere_26 : decode cX4_isDigitHere 26 = .ok (.ireturn, 1) := by decide +kernel
theorem dX4_number_0 : decode cX4_number 0 = .ok (.aload_n 0, 1) := by decide +kernel
theorem dX4_number_1 : decode cX4_number 1 = .ok (.invokevirtual 108, 3) := by decide +kernel
theorem dX4_number_4 : decode cX4_number 4 = .ok (.ifCond .eq 5, 3) := by decide +kernel
theorem dX4_number_7 : decode cX4_number 7 = .ok (.iload_n 1, 1) := by decide +kernel
theorem dX4_number_8 : decode cX4_number 8 = .ok (.ireturn, 1) := by decide +kernel
theorem dX4_number_9 : decode cX4_number 9 = .ok (.aload_n 0, 1) := by decide +kernel
theorem dX4_number_10 : decode cX4_number 10 = .ok (.invokevirtual 100, 3) := by decide +kernel
theorem dX4_number_13 : decode cX4_number 13 = .ok (.pop, 1) := by decide +kernel
theorem dX4_number_14 : decode cX4_number 14 = .ok (.aload_n 0, 1) := by decide +kernel
theorem dX4_number_15 : decode cX4_number 15 = .ok (.aload_n 0, 1) := by decide +kernel
theorem dX4_number_16 : decode cX4_number 16 = .ok (.getfield 90, 3) := by decide +kernel
theorem dX4_number_19 : decode cX4_number 19 = .ok (.putfield 121, 3) := by decide +kernel
theorem dX4_number_22 : decode cX4_number 22 = .ok (.iconst 0, 1) := by decide +kernel
theorem dX4_number_23 : decode cX4_number 23 = .ok (.istore_n 3, 1) := by decide +kernel
theorem dX4_number_24 : decode cX4_number 24 = .ok (.aload_n 0, 1) := by decide +kernel
theorem dX4_number_25 : decode cX4_number 25 = .ok (.aload_n 0, 1) := by decide +kernel
theorem dX4_number_26 : decode cX4_number 26 = .ok (.getfield 90, 3) := by decide +kernel
theorem dX4_number_29 : decode cX4_number 29 = .ok (.invokevirtual 93, 3) := by decide +kernel
theorem dX4_number_32 : decode cX4_number 32 = .ok (.bipush 48, 2) := by decide +kernel
theorem dX4_number_34 : decode cX4_number 34 = .ok (.bipush 57, 2) := by decide +kernel
theorem dX4_number_36 : decode cX4_number 36 = .ok (.invokestatic 104, 3) := by decide +kernel
theorem dX4_number_39 : decode cX4_number 39 = .ok (.ifCond .eq 50, 3) := by decide +kernel
theorem dX4_number_42 : decode cX4_number 42 = .ok (.aload_n 0, 1) := by decide +kernel
theorem dX4_number_43 : decode cX4_number 43 = .ok (.getfield 90, 3) := by decide +kernel
theorem dX4_number_46 : decode cX4_number 46 = .ok (.aload_n 0, 1) := by decide +kernel
theorem dX4_number_47 : decode cX4_number 47 = .ok (.getfield 121, 3) := by decide +kernel
theorem dX4_number_50 : decode cX4_number 50 = .ok (.isub, 1) := by decide +kernel
theorem dX4_number_51 : decode cX4_number 51 = .ok (.iconst 3, 1) := by decide +kernel
theorem dX4_number_52 : decode cX4_number 52 = .ok (.if_icmp .ge 22, 3) := by decide +kernel
theorem dX4_number_55 : decode cX4_number 55 = .ok (.bipush 10, 2) := by decide +kernel
theorem dX4_number_57 : decode cX4_number 57 = .ok (.iload_n 3, 1) := by decide +kernel
theorem dX4_number_58 : decode cX4_number 58 = .ok (.imul, 1) := by decide +kernel
theorem dX4_number_59 : decode cX4_number 59 = .ok (.aload_n 0, 1) := by decide +kernel
theorem dX4_number_60 : decode cX4_number 60 = .ok (.aload_n 0, 1) := by decide +kernel
theorem dX4_number_61 : decode cX4_number 61 = .ok (.getfield 90, 3) := by decide +kernel
theorem dX4_number_64 : decode cX4_number 64 = .ok (.invokevirtual 93, 3) := by decide +kernel
theorem dX4_number_67 : decode cX4_number 67 = .ok (.iadd, 1) := by decide +kernel
theorem dX4_number_68 : decode cX4_number 68 = .ok (.bipush 48, 2) := by decide +kernel
theorem dX4_number_70 : decode cX4_number 70 = .ok (.isub, 1) := by decide +kernel
theorem dX4_number_71 : decode cX4_number 71 = .ok (.goto 4, 3) := by decide +kernel
theorem dX4_number_74 : decode cX4_number 74 = .ok (.iload_n 3, 1) := by decide +kernel
theorem dX4_number_75 : decode cX4_number 75 = .ok (.istore_n 3, 1) := by decide +kernel
theorem dX4_number_76 : decode cX4_number 76 = .ok (.aload_n 0, 1) := by decide +kernel
theorem dX4_number_77 : decode cX4_number 77 = .ok (.dup, 1) := by decide +kernel
theorem dX4_number_78 : decode cX4_number 78 = .ok (.getfield 90, 3) := by decide +kernel
theorem dX4_number_81 : decode cX4_number 81 = .ok (.iconst 1, 1) := by decide +kernel
theorem dX4_number_82 : decode cX4_number 82 = .ok (.iadd, 1) := by decide +kernel
theorem dX4_number_83 : decode cX4_number 83 = .ok (.putfield 90, 3) := by decide +kernel
theorem dX4_number_86 : decode cX4_number 86 = .ok (.goto (-62), 3) := by decide +kernel
theorem dX4_number_89 : decode cX4_number 89 = .ok (.aload_n 0, 1) := by decide +kernel
theorem dX4_number_90 : decode cX4_number 90 = .ok (.getfield 90, 3) := by decide +kernel
theorem dX4_number_93 : decode cX4_number 93 = .ok (.aload_n 0, 1) := by decide +kernel
theorem dX4_number_94 : decode cX4_number 94 = .ok (.getfield 121, 3) := by decide +kernel
theorem dX4_number_97 : decode cX4_number 97 = .ok (.if_icmp .ne 15, 3) := by decide +kernel
theorem dX4_number_100 : decode cX4_number 100 = .ok (.aload_n 0, 1) := by decide +kernel
theorem dX4_number_101 : decode cX4_number 101 = .ok (.iconst 1, 1) := by decide +kernel
theorem dX4_number_102 : decode cX4_number 102 = .ok (.aload_n 0, 1) := by decide +kernel
theorem dX4_number_103 : decode cX4_number 103 = .ok (.getfield 121, 3) := by decide +kernel
theorem dX4_number_106 : decode cX4_number 106 = .ok (.invokevirtual 124, 3) := by decide +kernel
theorem dX4_number_109 : decode cX4_number 109 = .ok (.goto 34, 3) := by decide +kernel
theorem dX4_number_112 : decode cX4_number 112 = .ok (.aload_n 0, 1) := by decide +kernel
theorem dX4_number_113 : decode cX4_number 113 = .ok (.getfield 90, 3) := by decide +kernel
theorem dX4_number_116 : decode cX4_number 116 = .ok (.aload_n 0, 1) := by decide +kernel
theorem dX4_number_117 : decode cX4_number 117 = .ok (.getfield 121, 3) := by decide +kernel
theorem dX4_number_120 : decode cX4_number 120 = .ok (.isub, 1) := by decide +kernel
theorem dX4_number_121 : decode cX4_number 121 = .ok (.iconst 3, 1) := by decide +kernel
theorem dX4_number_122 : decode cX4_number 122 = .ok (.if_icmp .gt 12, 3) := by decide +kernel
theorem dX4_number_125 : decode cX4_number 125 = .ok (.iload_n 3, 1) := by decide +kernel
theorem dX4_number_126 : decode cX4_number 126 = .ok (.iload_n 1, 1) := by decide +kernel
theorem dX4_number_127 : decode cX4_number 127 = .ok (.iload_n 2, 1) := by decide +kernel
theorem dX4_number_128 : decode cX4_number 128 = .ok (.invokestatic 104, 3) := by decide +kernel
theorem dX4_number_131 : decode cX4_number 131 = .ok (.ifCond .ne 12, 3) := by decide +kernel
theorem dX4_number_134 : decode cX4_number 134 = .ok (.aload_n 0, 1) := by decide +kernel
theorem dX4_number_135 : decode cX4_number 135 = .ok (.iconst 2, 1) := by decide +kernel
theorem dX4_number_136 : decode cX4_number 136 = .ok (.aload_n 0, 1) := by decide +kernel
theorem dX4_number_137 : decode cX4_number 137 = .ok (.getfield 121, 3) := by decide +kernel
theorem dX4_number_140 : decode cX4_number 140 = .ok (.invokevirtual 124, 3) := by decide +kernel
theorem dX4_number_143 : decode cX4_number 143 = .ok (.iload_n 3, 1) := by decide +kernel
theorem dX4_number_144 : decode cX4_number 144 = .ok (.ireturn, 1) := by decide +kernel
theorem dX4_clears_0 : decode cX4_clears 0 = .ok (.iconst 0, 1) := by decide +kernel
theorem dX4_clears_1 : decode cX4_clears 1 = .ok (.istore_n 1, 1) := by decide +kernel
theorem dX4_clears_2 : decode cX4_clears 2 = .ok (.iload_n 1, 1) := by decide +kernel
theorem dX4_clears_3 : decode cX4_clears 3 = .ok (.sipush 521, 3) := by decide +kernel
theorem dX4_clears_6 : decode cX4_clears 6 = .ok (.if_icmp .ge 16, 3) := by decide +kernel
theorem dX4_clears_9 : decode cX4_clears 9 = .ok (.aload_n 0, 1) := by decide +kernel
theorem dX4_clears_10 : decode cX4_clears 10 = .ok (.getfield 13, 3) := by decide +kernel
theorem dX4_clears_13 : decode cX4_clears 13 = .ok (.iload_n 1, 1) := by decide +kernel
theorem dX4_clears_14 : decode cX4_clears 14 = .ok (.iconst 0, 1) := by decide +kernel
theorem dX4_clears_15 : decode cX4_clears 15 = .ok (.iastore, 1) := by decide +kernel
theorem dX4_clears_16 : decode cX4_clears 16 = .ok (.iinc 1 1, 3) := by decide +kernel
theorem dX4_clears_19 : decode cX4_clears 19 = .ok (.goto (-17), 3) := by decide +kernel
theorem dX4_clears_22 : decode cX4_clears 22 = .ok (.aload_n 0, 1) := by decide +kernel
theorem dX4_clears_23 : decode cX4_clears 23 = .ok (.getfield 13, 3) := by decide +kernel
theorem dX4_clears_26 : decode cX4_clears 26 = .ok (.iconst 1, 1) := by decide +kernel
theorem dX4_clears_27 : decode cX4_clears 27 = .ok (.iconst 1, 1) := by decide +kernel
theorem dX4_clears_28 : decode cX4_clears 28 = .ok (.iastore, 1) := by decide +kernel
theorem dX4_clears_29 : decode cX4_clears 29 = .ok (.aload_n 0, 1) := by decide +kernel
theorem dX4_clears_30 : decode cX4_clears 30 = .ok (.getfield 13, 3) := by decide +kernel
theorem dX4_clears_33 : decode cX4_clears 33 = .ok (.bipush 7, 2) := by decide +kernel
theorem dX4_clears_35 : decode cX4_clears 35 = .ok (.iconst 1, 1) := by decide +kernel
theorem dX4_clears_36 : decode cX4_clears 36 = .ok (.iastore, 1) := by decide +kernel
theorem dX4_clears_37 : decode cX4_clears 37 = .ok (.aload_n 0, 1) := by decide +kernel
theorem dX4_clears_38 : decode cX4_clears 38 = .ok (.getfield 13, 3) := by decide +kernel
theorem dX4_clears_41 : decode cX4_clears 41 = .ok (.bipush 48, 2) := by decide +kernel
theorem dX4_clears_43 : decode cX4_clears 43 = .ok (.bipush 100, 2) := by decide +kernel
theorem dX4_clears_45 : decode cX4_clears 45 = .ok (.iastore, 1) := by decide +kernel
theorem dX4_clears_46 : decode cX4_clears 46 = .ok (.iconst 0, 1) := by decide +kernel
theorem dX4_clears_47 : decode cX4_clears 47 = .ok (.istore_n 1, 1) := by decide +kernel
theorem dX4_clears_48 : decode cX4_clears 48 = .ok (.iload_n 1, 1) := by decide +kernel
theorem dX4_clears_49 : decode cX4_clears 49 = .ok (.bipush 12, 2) := by decide +kernel
theorem dX4_clears_51 : decode cX4_clears 51 = .ok (.if_icmp .ge 20, 3) := by decide +kernel
theorem dX4_clears_54 : decode cX4_clears 54 = .ok (.aload_n 0, 1) := by decide +kernel
theorem dX4_clears_55 : decode cX4_clears 55 = .ok (.getfield 13, 3) := by decide +kernel
theorem dX4_clears_58 : decode cX4_clears 58 = .ok (.bipush 36, 2) := by decide +kernel
theorem dX4_clears_60 : decode cX4_clears 60 = .ok (.iload_n 1, 1) := by decide +kernel
theorem dX4_clears_61 : decode cX4_clears 61 = .ok (.iadd, 1) := by decide +kernel
theorem dX4_clears_62 : decode cX4_clears 62 = .ok (.bipush 100, 2) := by decide +kernel
theorem dX4_clears_64 : decode cX4_clears 64 = .ok (.iastore, 1) := by decide +kernel
theorem dX4_clears_65 : decode cX4_clears 65 = .ok (.iinc 1 1, 3) := by decide +kernel
theorem dX4_clears_68 : decode cX4_clears 68 = .ok (.goto (-20), 3) := by decide +kernel
theorem dX4_clears_71 : decode cX4_clears 71 = .ok (.aload_n 0, 1) := by decide +kernel
theorem dX4_clears_72 : decode cX4_clears 72 = .ok (.iconst 0, 1) := by decide +kernel
theorem dX4_clears_73 : decode cX4_clears 73 = .ok (.putfield 128, 3) := by decide +kernel
theorem dX4_clears_76 : decode cX4_clears 76 = .ok (.return_, 1) := by decide +kernel
theorem dX4_numbers_0 : decode cX4_numbers 0 = .ok (.iconst 0, 1) := by decide +kernel
theorem dX4_numbers_1 : decode cX4_numbers 1 = .ok (.istore_n 3, 1) := by decide +kernel
theorem dX4_numbers_2 : decode cX4_numbers 2 = .ok (.iconst 1, 1) := by decide +kernel
theorem dX4_numbers_3 : decode cX4_numbers 3 = .ok (.istore 4, 2) := by decide +kernel
theorem dX4_numbers_5 : decode cX4_numbers 5 = .ok (.iload 4, 2) := by decide +kernel
theorem dX4_numbers_7 : decode cX4_numbers 7 = .ok (.ifCond .eq 60, 3) := by decide +kernel
theorem dX4_numbers_10 : decode cX4_numbers 10 = .ok (.iload_n 3, 1) := by decide +kernel
theorem dX4_numbers_11 : decode cX4_numbers 11 = .ok (.iload_n 2, 1) := by decide +kernel
theorem dX4_numbers_12 : decode cX4_numbers 12 = .ok (.if_icmp .ne 14, 3) := by decide +kernel
theorem dX4_numbers_15 : decode cX4_numbers 15 = .ok (.aload_n 0, 1) := by decide +kernel
theorem dX4_numbers_16 : decode cX4_numbers 16 = .ok (.iconst 4, 1) := by decide +kernel
theorem dX4_numbers_17 : decode cX4_numbers 17 = .ok (.aload_n 0, 1) := by decide +kernel
theorem dX4_numbers_18 : decode cX4_numbers 18 = .ok (.getfield 90, 3) := by decide +kernel
theorem dX4_numbers_21 : decode cX4_numbers 21 = .ok (.invokevirtual 124, 3) := by decide +kernel
theorem dX4_numbers_24 : decode cX4_numbers 24 = .ok (.iload_n 3, 1) := by decide +kernel
theorem dX4_numbers_25 : decode cX4_numbers 25 = .ok (.ireturn, 1) := by decide +kernel
theorem dX4_numbers_26 : decode cX4_numbers 26 = .ok (.aload_n 0, 1) := by decide +kernel
theorem dX4_numbers_27 : decode cX4_numbers 27 = .ok (.iconst 0, 1) := by decide +kernel
theorem dX4_numbers_28 : decode cX4_numbers 28 = .ok (.sipush 200, 3) := by decide +kernel
theorem dX4_numbers_31 : decode cX4_numbers 31 = .ok (.invokevirtual 132, 3) := by decide +kernel
theorem dX4_numbers_34 : decode cX4_numbers 34 = .ok (.istore 5, 2) := by decide +kernel
theorem dX4_numbers_36 : decode cX4_numbers 36 = .ok (.aload_n 0, 1) := by decide +kernel
theorem dX4_numbers_37 : decode cX4_numbers 37 = .ok (.invokevirtual 108, 3) := by decide +kernel
theorem dX4_numbers_40 : decode cX4_numbers 40 = .ok (.ifCond .eq 5, 3) := by decide +kernel
theorem dX4_numbers_43 : decode cX4_numbers 43 = .ok (.iload_n 3, 1) := by decide +kernel
theorem dX4_numbers_44 : decode cX4_numbers 44 = .ok (.ireturn, 1) := by decide +kernel
theorem dX4_numbers_45 : decode cX4_numbers 45 = .ok (.aload_n 0, 1) := by decide +kernel
theorem dX4_numbers_46 : decode cX4_numbers 46 = .ok (.getfield 13, 3) := by decide +kernel
theorem dX4_numbers_49 : decode cX4_numbers 49 = .ok (.iload_n 1, 1) := by decide +kernel
theorem dX4_numbers_50 : decode cX4_numbers 50 = .ok (.iload_n 3, 1) := by decide +kernel
theorem dX4_numbers_51 : decode cX4_numbers 51 = .ok (.iadd, 1) := by decide +kernel
theorem dX4_numbers_52 : decode cX4_numbers 52 = .ok (.iload 5, 2) := by decide +kernel
theorem dX4_numbers_54 : decode cX4_numbers 54 = .ok (.iastore, 1) := by decide +kernel
theorem dX4_numbers_55 : decode cX4_numbers 55 = .ok (.iinc 3 1, 3) := by decide +kernel
theorem dX4_numbers_58 : decode cX4_numbers 58 = .ok (.aload_n 0, 1) := by decide +kernel
theorem dX4_numbers_59 : decode cX4_numbers 59 = .ok (.invokevirtual 135, 3) := by decide +kernel
theorem dX4_numbers_62 : decode cX4_numbers 62 = .ok (.istore 4, 2) := by decide +kernel
theorem dX4_numbers_64 : decode cX4_numbers 64 = .ok (.goto (-59), 3) := by decide +kernel
theorem dX4_numbers_67 : decode cX4_numbers 67 = .ok (.iload_n 3, 1) := by decide +kernel
theorem dX4_numbers_68 : decode cX4_numbers 68 = .ok (.ireturn, 1) := by decide +kernel
theorem dX4_isRoom_0 : decode cX4_isRoom 0 = .ok (.aload_n 0, 1) := by decide +kernel
theorem dX4_isRoom_1 : decode cX4_isRoom 1 = .ok (.getfield 13, 3) := by decide +kernel
theorem dX4_isRoom_4 : decode cX4_isRoom 4 = .ok (.iload_n 1, 1) := by decide +kernel
theorem dX4_isRoom_5 : decode cX4_isRoom 5 = .ok (.iaload, 1) := by decide +kernel
theorem dX4_isRoom_6 : decode cX4_isRoom 6 = .ok (.iload_n 2, 1) := by decide +kernel
theorem dX4_isRoom_7 : decode cX4_isRoom 7 = .ok (.if_icmp .ne 9, 3) := by decide +kernel
theorem dX4_isRoom_10 : decode cX4_isRoom 10 = .ok (.aload_n 0, 1) := by decide +kernel
theorem dX4_isRoom_11 : decode cX4_isRoom 11 = .ok (.iconst 4, 1) := by decide +kernel
theorem dX4_isRoom_12 : decode cX4_isRoom 12 = .ok (.iload_n 3, 1) := by decide +kernel
theorem dX4_isRoom_13 : decode cX4_isRoom 13 = .ok (.invokevirtual 124, 3) := by decide +kernel
theorem dX4_isRoom_16 : decode cX4_isRoom 16 = .ok (.aload_n 0, 1) := by decide +kernel
theorem dX4_isRoom_17 : decode cX4_isRoom 17 = .ok (.invokevirtual 108, 3) := by decide +kernel
theorem dX4_isRoom_20 : decode cX4_isRoom 20 = .ok (.ifCond .ne 7, 3) := by decide +kernel
theorem dX4_isRoom_23 : decode cX4_isRoom 23 = .ok (.iconst 1, 1) := by decide +kernel
theorem dX4_isRoom_24 : decode cX4_isRoom 24 = .ok (.goto 4, 3) := by decide +kernel
theorem dX4_isRoom_27 : decode cX4_isRoom 27 = .ok (.iconst 0, 1) := by decide +kernel
theorem dX4_isRoom_28 : decode cX4_isRoom 28 = .ok (.ireturn, 1) := by decide +kernel
theorem dX4_reachHere_0 : decode cX4_reachHere 0 = .ok (.aload_n 0, 1) := by decide +kernel
theorem dX4_reachHere_1 : decode cX4_reachHere 1 = .ok (.iload_n 1, 1) := by decide +kernel
theorem dX4_reachHere_2 : decode cX4_reachHere 2 = .ok (.aload_n 0, 1) := by decide +kernel
theorem dX4_reachHere_3 : decode cX4_reachHere 3 = .ok (.getfield 13, 3) := by decide +kernel
theorem dX4_reachHere_6 : decode cX4_reachHere 6 = .ok (.iconst 0, 1) := by decide +kernel
theorem dX4_reachHere_7 : decode cX4_reachHere 7 = .ok (.iaload, 1) := by decide +kernel
theorem dX4_reachHere_8 : decode cX4_reachHere 8 = .ok (.iconst 1, 1) := by decide +kernel
theorem dX4_reachHere_9 : decode cX4_reachHere 9 = .ok (.isub, 1) := by decide +kernel
theorem dX4_reachHere_10 : decode cX4_reachHere 10 = .ok (.invokevirtual 132, 3) := by decide +kernel
theorem dX4_reachHere_13 : decode cX4_reachHere 13 = .ok (.ireturn, 1) := by decide +kernel
theorem dX4_accountHere_0 : decode cX4_accountHere 0 = .ok (.aload_n 0, 1) := by decide +kernel
theorem dX4_accountHere_1 : decode cX4_accountHere 1 = .ok (.iconst 0, 1) := by decide +kernel
theorem dX4_accountHere_2 : decode cX4_accountHere 2 = .ok (.aload_n 0, 1) := by decide +kernel
theorem dX4_accountHere_3 : decode cX4_accountHere 3 = .ok (.getfield 13, 3) := by decide +kernel
theorem dX4_accountHere_6 : decode cX4_accountHere 6 = .ok (.iconst 1, 1) := by decide +kernel
theorem dX4_accountHere_7 : decode cX4_accountHere 7 = .ok (.iaload, 1) := by decide +kernel
theorem dX4_accountHere_8 : decode cX4_accountHere 8 = .ok (.iconst 1, 1) := by decide +kernel
theorem dX4_accountHere_9 : decode cX4_accountHere 9 = .ok (.isub, 1) := by decide +kernel
theorem dX4_accountHere_10 : decode cX4_accountHere 10 = .ok (.invokevirtual 132, 3) := by decide +kernel
theorem dX4_accountHere_13 : decode cX4_accountHere 13 = .ok (.ireturn, 1) := by decide +kernel
theorem dX4_priorityHere_0 : decode cX4_priorityHere 0 = .ok (.aload_n 0, 1) := by decide +kernel
theorem dX4_priorityHere_1 : decode cX4_priorityHere 1 = .ok (.iconst 1, 1) := by decide +kernel
theorem dX4_priorityHere_2 : decode cX4_priorityHere 2 = .ok (.bipush 99, 2) := by decide +kernel
theorem dX4_priorityHere_4 : decode cX4_priorityHere 4 = .ok (.invokevirtual 132, 3) := by decide +kernel
theorem dX4_priorityHere_7 : decode cX4_priorityHere 7 = .ok (.istore_n 1, 1) := by decide +kernel
theorem dX4_priorityHere_8 : decode cX4_priorityHere 8 = .ok (.iconst 0, 1) := by decide +kernel
theorem dX4_priorityHere_9 : decode cX4_priorityHere 9 = .ok (.istore_n 2, 1) := by decide +kernel
theorem dX4_priorityHere_10 : decode cX4_priorityHere 10 = .ok (.iload_n 2, 1) := by decide +kernel
theorem dX4_priorityHere_11 : decode cX4_priorityHere 11 = .ok (.aload_n 0, 1) := by decide +kernel
theorem dX4_priorityHere_12 : decode cX4_priorityHere 12 = .ok (.getfield 13, 3) := by decide +kernel
theorem dX4_priorityHere_15 : decode cX4_priorityHere 15 = .ok (.iconst 2, 1) := by decide +kernel
theorem dX4_priorityHere_16 : decode cX4_priorityHere 16 = .ok (.iaload, 1) := by decide +kernel
theorem dX4_priorityHere_17 : decode cX4_priorityHere 17 = .ok (.if_icmp .ge 32, 3) := by decide +kernel
theorem dX4_priorityHere_20 : decode cX4_priorityHere 20 = .ok (.aload_n 0, 1) := by decide +kernel
theorem dX4_priorityHere_21 : decode cX4_priorityHere 21 = .ok (.getfield 13, 3) := by decide +kernel
theorem dX4_priorityHere_24 : decode cX4_priorityHere 24 = .ok (.iload_n 2, 1) := by decide +kernel
theorem dX4_priorityHere_25 : decode cX4_priorityHere 25 = .ok (.iconst 2, 1) := by decide +kernel
theorem dX4_priorityHere_26 : decode cX4_priorityHere 26 = .ok (.invokestatic 80, 3) := by decide +kernel
theorem dX4_priorityHere_29 : decode cX4_priorityHere 29 = .ok (.iaload, 1) := by decide +kernel
theorem dX4_priorityHere_30 : decode cX4_priorityHere 30 = .ok (.iload_n 1, 1) := by decide +kernel
theorem dX4_priorityHere_31 : decode cX4_priorityHere 31 = .ok (.if_icmp .ne 12, 3) := by decide +kernel
theorem dX4_priorityHere_34 : decode cX4_priorityHere 34 = .ok (.aload_n 0, 1) := by decide +kernel
theorem dX4_priorityHere_35 : decode cX4_priorityHere 35 = .ok (.iconst 3, 1) := by decide +kernel
theorem dX4_priorityHere_36 : decode cX4_priorityHere 36 = .ok (.aload_n 0, 1) := by decide +kernel
theorem dX4_priorityHere_37 : decode cX4_priorityHere 37 = .ok (.getfield 121, 3) := by decide +kernel
theorem dX4_priorityHere_40 : decode cX4_priorityHere 40 = .ok (.invokevirtual 124, 3) := by decide +kernel
theorem dX4_priorityHere_43 : decode cX4_priorityHere 43 = .ok (.iinc 2 1, 3) := by decide +kernel
theorem dX4_priorityHere_46 : decode cX4_priorityHere 46 = .ok (.goto (-36), 3) := by decide +kernel
theorem dX4_priorityHere_49 : decode cX4_priorityHere 49 = .ok (.iload_n 1, 1) := by decide +kernel
theorem dX4_priorityHere_50 : decode cX4_priorityHere 50 = .ok (.ireturn, 1) := by decide +kernel
theorem dX4_rightLine_0 : decode cX4_rightLine 0 = .ok (.aload_n 0, 1) := by decide +kernel
theorem dX4_rightLine_1 : decode cX4_rightLine 1 = .ok (.iconst 2, 1) := by decide +kernel
theorem dX4_rightLine_2 : decode cX4_rightLine 2 = .ok (.bipush 10, 2) := by decide +kernel
theorem dX4_rightLine_4 : decode cX4_rightLine 4 = .ok (.iload_n 1, 1) := by decide +kernel
theorem dX4_rightLine_5 : decode cX4_rightLine 5 = .ok (.invokevirtual 138, 3) := by decide +kernel
theorem dX4_rightLine_8 : decode cX4_rightLine 8 = .ok (.ifCond .ne 4, 3) := by decide +kernel
theorem dX4_rightLine_11 : decode cX4_rightLine 11 = .ok (.return_, 1) := by decide +kernel
theorem dX4_rightLine_12 : decode cX4_rightLine 12 = .ok (.aload_n 0, 1) := by decide +kernel
theorem dX4_rightLine_13 : decode cX4_rightLine 13 = .ok (.iconst 1, 1) := by decide +kernel
theorem dX4_rightLine_14 : decode cX4_rightLine 14 = .ok (.putfield 128, 3) := by decide +kernel
theorem dX4_rightLine_17 : decode cX4_rightLine 17 = .ok (.aload_n 0, 1) := by decide +kernel
theorem dX4_rightLine_18 : decode cX4_rightLine 18 = .ok (.getfield 13, 3) := by decide +kernel
theorem dX4_rightLine_21 : decode cX4_rightLine 21 = .ok (.iconst 2, 1) := by decide +kernel
theorem dX4_rightLine_22 : decode cX4_rightLine 22 = .ok (.iaload, 1) := by decide +kernel
theorem dX4_rightLine_23 : decode cX4_rightLine 23 = .ok (.istore_n 2, 1) := by decide +kernel
theorem dX4_rightLine_24 : decode cX4_rightLine 24 = .ok (.aload_n 0, 1) := by decide +kernel
theorem dX4_rightLine_25 : decode cX4_rightLine 25 = .ok (.getfield 13, 3) := by decide +kernel
theorem dX4_rightLine_28 : decode cX4_rightLine 28 = .ok (.iload_n 2, 1) := by decide +kernel
theorem dX4_rightLine_29 : decode cX4_rightLine 29 = .ok (.iconst 0, 1) := by decide +kernel
theorem dX4_rightLine_30 : decode cX4_rightLine 30 = .ok (.invokestatic 80, 3) := by decide +kernel
theorem dX4_rightLine_33 : decode cX4_rightLine 33 = .ok (.aload_n 0, 1) := by decide +kernel
theorem dX4_rightLine_34 : decode cX4_rightLine 34 = .ok (.invokevirtual 141, 3) := by decide +kernel
theorem dX4_rightLine_37 : decode cX4_rightLine 37 = .ok (.iastore, 1) := by decide +kernel
theorem dX4_rightLine_38 : decode cX4_rightLine 38 = .ok (.aload_n 0, 1) := by decide +kernel
theorem dX4_rightLine_39 : decode cX4_rightLine 39 = .ok (.iconst 0, 1) := by decide +kernel
theorem dX4_rightLine_40 : decode cX4_rightLine 40 = .ok (.invokevirtual 144, 3) := by decide +kernel
theorem dX4_rightLine_43 : decode cX4_rightLine 43 = .ok (.istore_n 3, 1) := by decide +kernel
theorem dX4_rightLine_44 : decode cX4_rightLine 44 = .ok (.aload_n 0, 1) := by decide +kernel
theorem dX4_rightLine_45 : decode cX4_rightLine 45 = .ok (.getfield 13, 3) := by decide +kernel
theorem dX4_rightLine_48 : decode cX4_rightLine 48 = .ok (.iload_n 2, 1) := by decide +kernel
theorem dX4_rightLine_49 : decode cX4_rightLine 49 = .ok (.iconst 1, 1) := by decide +kernel
theorem dX4_rightLine_50 : decode cX4_rightLine 50 = .ok (.invokestatic 80, 3) := by decide +kernel
theorem dX4_rightLine_53 : decode cX4_rightLine 53 = .ok (.iload_n 3, 1) := by decide +kernel
theorem dX4_rightLine_54 : decode cX4_rightLine 54 = .ok (.iastore, 1) := by decide +kernel
theorem dX4_rightLine_55 : decode cX4_rightLine 55 = .ok (.aload_n 0, 1) := by decide +kernel
theorem dX4_rightLine_56 : decode cX4_rightLine 56 = .ok (.getfield 13, 3) := by decide +kernel
theorem dX4_rightLine_59 : decode cX4_rightLine 59 = .ok (.iload_n 2, 1) := by decide +kernel
theorem dX4_rightLine_60 : decode cX4_rightLine 60 = .ok (.iconst 2, 1) := by decide +kernel
theorem dX4_rightLine_61 : decode cX4_rightLine 61 = .ok (.invokestatic 80, 3) := by decide +kernel
theorem dX4_rightLine_64 : decode cX4_rightLine 64 = .ok (.aload_n 0, 1) := by decide +kernel
theorem dX4_rightLine_65 : decode cX4_rightLine 65 = .ok (.invokevirtual 147, 3) := by decide +kernel
theorem dX4_rightLine_68 : decode cX4_rightLine 68 = .ok (.iastore, 1) := by decide +kernel
theorem dX4_rightLine_69 : decode cX4_rightLine 69 = .ok (.aload_n 0, 1) := by decide +kernel
theorem dX4_rightLine_70 : decode cX4_rightLine 70 = .ok (.getfield 13, 3) := by decide +kernel
theorem dX4_rightLine_73 : decode cX4_rightLine 73 = .ok (.iload_n 2, 1) := by decide +kernel
theorem dX4_rightLine_74 : decode cX4_rightLine 74 = .ok (.iconst 3, 1) := by decide +kernel
theorem dX4_rightLine_75 : decode cX4_rightLine 75 = .ok (.invokestatic 80, 3) := by decide +kernel
theorem dX4_rightLine_78 : decode cX4_rightLine 78 = .ok (.aload_n 0, 1) := by decide +kernel
theorem dX4_rightLine_79 : decode cX4_rightLine 79 = .ok (.iconst 1, 1) := by decide +kernel
theorem dX4_rightLine_80 : decode cX4_rightLine 80 = .ok (.sipush 999, 3) := by decide +kernel
theorem dX4_rightLine_83 : decode cX4_rightLine 83 = .ok (.invokevirtual 132, 3) := by decide +kernel
theorem dX4_rightLine_86 : decode cX4_rightLine 86 = .ok (.iastore, 1) := by decide +kernel
theorem dX4_rightLine_87 : decode cX4_rightLine 87 = .ok (.aload_n 0, 1) := by decide +kernel
theorem dX4_rightLine_88 : decode cX4_rightLine 88 = .ok (.getfield 13, 3) := by decide +kernel
theorem dX4_rightLine_91 : decode cX4_rightLine 91 = .ok (.iload_n 2, 1) := by decide +kernel
theorem dX4_rightLine_92 : decode cX4_rightLine 92 = .ok (.iconst 5, 1) := by decide +kernel
theorem dX4_rightLine_93 : decode cX4_rightLine 93 = .ok (.invokestatic 80, 3) := by decide +kernel
theorem dX4_rightLine_96 : decode cX4_rightLine 96 = .ok (.iload_n 3, 1) := by decide +kernel
theorem dX4_rightLine_97 : decode cX4_rightLine 97 = .ok (.iastore, 1) := by decide +kernel
theorem dX4_rightLine_98 : decode cX4_rightLine 98 = .ok (.aload_n 0, 1) := by decide +kernel
theorem dX4_rightLine_99 : decode cX4_rightLine 99 = .ok (.ldc 150, 2) := by decide +kernel
theorem dX4_rightLine_101 : decode cX4_rightLine 101 = .ok (.invokevirtual 152, 3) := by decide +kernel
theorem dX4_rightLine_104 : decode cX4_rightLine 104 = .ok (.ifCond .eq 35, 3) := by decide +kernel
theorem dX4_rightLine_107 : decode cX4_rightLine 107 = .ok (.aload_n 0, 1) := by decide +kernel
theorem dX4_rightLine_108 : decode cX4_rightLine 108 = .ok (.getfield 13, 3) := by decide +kernel
theorem dX4_rightLine_111 : decode cX4_rightLine 111 = .ok (.iload_n 2, 1) := by decide +kernel
theorem dX4_rightLine_112 : decode cX4_rightLine 112 = .ok (.iconst 4, 1) := by decide +kernel
theorem dX4_rightLine_113 : decode cX4_rightLine 113 = .ok (.invokestatic 80, 3) := by decide +kernel
theorem dX4_rightLine_116 : decode cX4_rightLine 116 = .ok (.aload_n 0, 1) := by decide +kernel
theorem dX4_rightLine_117 : decode cX4_rightLine 117 = .ok (.iconst 0, 1) := by decide +kernel
theorem dX4_rightLine_118 : decode cX4_rightLine 118 = .ok (.bipush 90, 2) := by decide +kernel
theorem dX4_rightLine_120 : decode cX4_rightLine 120 = .ok (.invokevirtual 132, 3) := by decide +kernel
theorem dX4_rightLine_123 : decode cX4_rightLine 123 = .ok (.iastore, 1) := by decide +kernel
theorem dX4_rightLine_124 : decode cX4_rightLine 124 = .ok (.aload_n 0, 1) := by decide +kernel
theorem dX4_rightLine_125 : decode cX4_rightLine 125 = .ok (.getfield 13, 3) := by decide +kernel
theorem dX4_rightLine_128 : decode cX4_rightLine 128 = .ok (.iload_n 2, 1) := by decide +kernel
theorem dX4_rightLine_129 : decode cX4_rightLine 129 = .ok (.iconst 5, 1) := by decide +kernel
theorem dX4_rightLine_130 : decode cX4_rightLine 130 = .ok (.invokestatic 80, 3) := by decide +kernel
theorem dX4_rightLine_133 : decode cX4_rightLine 133 = .ok (.aload_n 0, 1) := by decide +kernel
theorem dX4_rightLine_134 : decode cX4_rightLine 134 = .ok (.iload_n 3, 1) := by decide +kernel
theorem dX4_rightLine_135 : decode cX4_rightLine 135 = .ok (.invokevirtual 144, 3) := by decide +kernel
theorem dX4_rightLine_138 : decode cX4_rightLine 138 = .ok (.iastore, 1) := by decide +kernel
theorem dX4_rightLine_139 : decode cX4_rightLine 139 = .ok (.aload_n 0, 1) := by decide +kernel
theorem dX4_rightLine_140 : decode cX4_rightLine 140 = .ok (.ldc 156, 2) := by decide +kernel
theorem dX4_rightLine_142 : decode cX4_rightLine 142 = .ok (.invokevirtual 152, 3) := by decide +kernel
theorem dX4_rightLine_145 : decode cX4_rightLine 145 = .ok (.ifCond .eq 21, 3) := by decide +kernel
theorem dX4_rightLine_148 : decode cX4_rightLine 148 = .ok (.aload_n 0, 1) := by decide +kernel
theorem dX4_rightLine_149 : decode cX4_rightLine 149 = .ok (.getfield 13, 3) := by decide +kernel
theorem dX4_rightLine_152 : decode cX4_rightLine 152 = .ok (.iload_n 2, 1) := by decide +kernel
theorem dX4_rightLine_153 : decode cX4_rightLine 153 = .ok (.bipush 6, 2) := by decide +kernel
theorem dX4_rightLine_155 : decode cX4_rightLine 155 = .ok (.invokestatic 80, 3) := by decide +kernel
theorem dX4_rightLine_158 : decode cX4_rightLine 158 = .ok (.aload_n 0, 1) := by decide +kernel
theorem dX4_rightLine_159 : decode cX4_rightLine 159 = .ok (.iconst 0, 1) := by decide +kernel
theorem dX4_rightLine_160 : decode cX4_rightLine 160 = .ok (.bipush 100, 2) := by decide +kernel
theorem dX4_rightLine_162 : decode cX4_rightLine 162 = .ok (.invokevirtual 132, 3) := by decide +kernel
theorem dX4_rightLine_165 : decode cX4_rightLine 165 = .ok (.iastore, 1) := by decide +kernel
theorem dX4_rightLine_166 : decode cX4_rightLine 166 = .ok (.aload_n 0, 1) := by decide +kernel
theorem dX4_rightLine_167 : decode cX4_rightLine 167 = .ok (.getfield 13, 3) := by decide +kernel
theorem dX4_rightLine_170 : decode cX4_rightLine 170 = .ok (.iconst 2, 1) := by decide +kernel
theorem dX4_rightLine_171 : decode cX4_rightLine 171 = .ok (.dup2, 1) := by decide +kernel
theorem dX4_rightLine_172 : decode cX4_rightLine 172 = .ok (.iaload, 1) := by decide +kernel
theorem dX4_rightLine_173 : decode cX4_rightLine 173 = .ok (.iconst 1, 1) := by decide +kernel
theorem dX4_rightLine_174 : decode cX4_rightLine 174 = .ok (.iadd, 1) := by decide +kernel
theorem dX4_rightLine_175 : decode cX4_rightLine 175 = .ok (.iastore, 1) := by decide +kernel
theorem dX4_rightLine_176 : decode cX4_rightLine 176 = .ok (.return_, 1) := by decide +kernel
theorem dX4_tradeFields_0 : decode cX4_tradeFields 0 = .ok (.aload_n 0, 1) := by decide +kernel
theorem dX4_tradeFields_1 : decode cX4_tradeFields 1 = .ok (.getfield 13, 3) := by decide +kernel
theorem dX4_tradeFields_4 : decode cX4_tradeFields 4 = .ok (.iload_n 1, 1) := by decide +kernel
theorem dX4_tradeFields_5 : decode cX4_tradeFields 5 = .ok (.iconst 0, 1) := by decide +kernel
theorem dX4_tradeFields_6 : decode cX4_tradeFields 6 = .ok (.iadd, 1) := by decide +kernel
theorem dX4_tradeFields_7 : decode cX4_tradeFields 7 = .ok (.aload_n 0, 1) := by decide +kernel
theorem dX4_tradeFields_8 : decode cX4_tradeFields 8 = .ok (.iconst 0, 1) := by decide +kernel
theorem dX4_tradeFields_9 : decode cX4_tradeFields 9 = .ok (.aload_n 0, 1) := by decide +kernel
theorem dX4_tradeFields_10 : decode cX4_tradeFields 10 = .ok (.getfield 13, 3) := by decide +kernel
theorem dX4_tradeFields_13 : decode cX4_tradeFields 13 = .ok (.iconst 2, 1) := by decide +kernel
theorem dX4_tradeFields_14 : decode cX4_tradeFields 14 = .ok (.iaload, 1) := by decide +kernel
theorem dX4_tradeFields_15 : decode cX4_tradeFields 15 = .ok (.iconst 1, 1) := by decide +kernel
theorem dX4_tradeFields_16 : decode cX4_tradeFields 16 = .ok (.isub, 1) := by decide +kernel
theorem dX4_tradeFields_17 : decode cX4_tradeFields 17 = .ok (.invokevirtual 132, 3) := by decide +kernel
theorem dX4_tradeFields_20 : decode cX4_tradeFields 20 = .ok (.iastore, 1) := by decide +kernel
theorem dX4_tradeFields_21 : decode cX4_tradeFields 21 = .ok (.iconst 0, 1) := by decide +kernel
theorem dX4_tradeFields_22 : decode cX4_tradeFields 22 = .ok (.istore_n 3, 1) := by decide +kernel
theorem dX4_tradeFields_23 : decode cX4_tradeFields 23 = .ok (.iload_n 3, 1) := by decide +kernel
theorem dX4_tradeFields_24 : decode cX4_tradeFields 24 = .ok (.aload_n 0, 1) := by decide +kernel
theorem dX4_tradeFields_25 : decode cX4_tradeFields 25 = .ok (.getfield 13, 3) := by decide +kernel
theorem dX4_tradeFields_28 : decode cX4_tradeFields 28 = .ok (.iconst 4, 1) := by decide +kernel
theorem dX4_tradeFields_29 : decode cX4_tradeFields 29 = .ok (.iaload, 1) := by decide +kernel
theorem dX4_tradeFields_30 : decode cX4_tradeFields 30 = .ok (.if_icmp .ge 53, 3) := by decide +kernel
theorem dX4_tradeFields_33 : decode cX4_tradeFields 33 = .ok (.iload_n 2, 1) := by decide +kernel
theorem dX4_tradeFields_34 : decode cX4_tradeFields 34 = .ok (.ifCond .ne 49, 3) := by decide +kernel
theorem dX4_tradeFields_37 : decode cX4_tradeFields 37 = .ok (.aload_n 0, 1) := by decide +kernel
theorem dX4_tradeFields_38 : decode cX4_tradeFields 38 = .ok (.invokevirtual 108, 3) := by decide +kernel
theorem dX4_tradeFields_41 : decode cX4_tradeFields 41 = .ok (.ifCond .ne 42, 3) := by decide +kernel
theorem dX4_tradeFields_44 : decode cX4_tradeFields 44 = .ok (.aload_n 0, 1) := by decide +kernel
theorem dX4_tradeFields_45 : decode cX4_tradeFields 45 = .ok (.getfield 13, 3) := by decide +kernel
theorem dX4_tradeFields_48 : decode cX4_tradeFields 48 = .ok (.sipush 206, 3) := by decide +kernel
theorem dX4_tradeFields_51 : decode cX4_tradeFields 51 = .ok (.bipush 6, 2) := by decide +kernel
theorem dX4_tradeFields_53 : decode cX4_tradeFields 53 = .ok (.iload_n 3, 1) := by decide +kernel
theorem dX4_tradeFields_54 : decode cX4_tradeFields 54 = .ok (.imul, 1) := by decide +kernel
theorem dX4_tradeFields_55 : decode cX4_tradeFields 55 = .ok (.iadd, 1) := by decide +kernel
theorem dX4_tradeFields_56 : decode cX4_tradeFields 56 = .ok (.iaload, 1) := by decide +kernel
theorem dX4_tradeFields_57 : decode cX4_tradeFields 57 = .ok (.aload_n 0, 1) := by decide +kernel
theorem dX4_tradeFields_58 : decode cX4_tradeFields 58 = .ok (.getfield 13, 3) := by decide +kernel
theorem dX4_tradeFields_61 : decode cX4_tradeFields 61 = .ok (.iload_n 1, 1) := by decide +kernel
theorem dX4_tradeFields_62 : decode cX4_tradeFields 62 = .ok (.iconst 0, 1) := by decide +kernel
theorem dX4_tradeFields_63 : decode cX4_tradeFields 63 = .ok (.iadd, 1) := by decide +kernel
theorem dX4_tradeFields_64 : decode cX4_tradeFields 64 = .ok (.iaload, 1) := by decide +kernel
theorem dX4_tradeFields_65 : decode cX4_tradeFields 65 = .ok (.if_icmp .ne 12, 3) := by decide +kernel
theorem dX4_tradeFields_68 : decode cX4_tradeFields 68 = .ok (.aload_n 0, 1) := by decide +kernel
theorem dX4_tradeFields_69 : decode cX4_tradeFields 69 = .ok (.iconst 3, 1) := by decide +kernel
theorem dX4_tradeFields_70 : decode cX4_tradeFields 70 = .ok (.aload_n 0, 1) := by decide +kernel
theorem dX4_tradeFields_71 : decode cX4_tradeFields 71 = .ok (.getfield 121, 3) := by decide +kernel
theorem dX4_tradeFields_74 : decode cX4_tradeFields 74 = .ok (.invokevirtual 124, 3) := by decide +kernel
theorem dX4_tradeFields_77 : decode cX4_tradeFields 77 = .ok (.iinc 3 1, 3) := by decide +kernel
theorem dX4_tradeFields_80 : decode cX4_tradeFields 80 = .ok (.goto (-57), 3) := by decide +kernel
theorem dX4_tradeFields_83 : decode cX4_tradeFields 83 = .ok (.aload_n 0, 1) := by decide +kernel
theorem dX4_tradeFields_84 : decode cX4_tradeFields 84 = .ok (.getfield 13, 3) := by decide +kernel
theorem dX4_tradeFields_87 : decode cX4_tradeFields 87 = .ok (.iload_n 1, 1) := by decide +kernel
theorem dX4_tradeFields_88 : decode cX4_tradeFields 88 = .ok (.iconst 1, 1) := by decide +kernel
theorem dX4_tradeFields_89 : decode cX4_tradeFields 89 = .ok (.iadd, 1) := by decide +kernel
theorem dX4_tradeFields_90 : decode cX4_tradeFields 90 = .ok (.aload_n 0, 1) := by decide +kernel
theorem dX4_tradeFields_91 : decode cX4_tradeFields 91 = .ok (.invokevirtual 141, 3) := by decide +kernel
theorem dX4_tradeFields_94 : decode cX4_tradeFields 94 = .ok (.iastore, 1) := by decide +kernel
theorem dX4_tradeFields_95 : decode cX4_tradeFields 95 = .ok (.aload_n 0, 1) := by decide +kernel
theorem dX4_tradeFields_96 : decode cX4_tradeFields 96 = .ok (.getfield 13, 3) := by decide +kernel
theorem dX4_tradeFields_99 : decode cX4_tradeFields 99 = .ok (.iload_n 1, 1) := by decide +kernel
theorem dX4_tradeFields_100 : decode cX4_tradeFields 100 = .ok (.iconst 2, 1) := by decide +kernel
theorem dX4_tradeFields_101 : decode cX4_tradeFields 101 = .ok (.iadd, 1) := by decide +kernel
theorem dX4_tradeFields_102 : decode cX4_tradeFields 102 = .ok (.aload_n 0, 1) := by decide +kernel
theorem dX4_tradeFields_103 : decode cX4_tradeFields 103 = .ok (.iconst 0, 1) := by decide +kernel
theorem dX4_tradeFields_104 : decode cX4_tradeFields 104 = .ok (.invokevirtual 144, 3) := by decide +kernel
theorem dX4_tradeFields_107 : decode cX4_tradeFields 107 = .ok (.iastore, 1) := by decide +kernel
theorem dX4_tradeFields_108 : decode cX4_tradeFields 108 = .ok (.aload_n 0, 1) := by decide +kernel
theorem dX4_tradeFields_109 : decode cX4_tradeFields 109 = .ok (.getfield 13, 3) := by decide +kernel
theorem dX4_tradeFields_112 : decode cX4_tradeFields 112 = .ok (.iload_n 1, 1) := by decide +kernel
theorem dX4_tradeFields_113 : decode cX4_tradeFields 113 = .ok (.iconst 3, 1) := by decide +kernel
theorem dX4_tradeFields_114 : decode cX4_tradeFields 114 = .ok (.iadd, 1) := by decide +kernel
theorem dX4_tradeFields_115 : decode cX4_tradeFields 115 = .ok (.aload_n 0, 1) := by decide +kernel
theorem dX4_tradeFields_116 : decode cX4_tradeFields 116 = .ok (.iconst 1, 1) := by decide +kernel
theorem dX4_tradeFields_117 : decode cX4_tradeFields 117 = .ok (.iload_n 2, 1) := by decide +kernel
theorem dX4_tradeFields_118 : decode cX4_tradeFields 118 = .ok (.ifCond .eq 9, 3) := by decide +kernel
theorem dX4_tradeFields_121 : decode cX4_tradeFields 121 = .ok (.sipush 999, 3) := by decide +kernel
theorem dX4_tradeFields_124 : decode cX4_tradeFields 124 = .ok (.goto 6, 3) := by decide +kernel
theorem dX4_tradeFields_127 : decode cX4_tradeFields 127 = .ok (.sipush 200, 3) := by decide +kernel
theorem dX4_tradeFields_130 : decode cX4_tradeFields 130 = .ok (.invokevirtual 132, 3) := by decide +kernel
theorem dX4_tradeFields_133 : decode cX4_tradeFields 133 = .ok (.iastore, 1) := by decide +kernel
theorem dX4_tradeFields_134 : decode cX4_tradeFields 134 = .ok (.aload_n 0, 1) := by decide +kernel
theorem dX4_tradeFields_135 : decode cX4_tradeFields 135 = .ok (.getfield 13, 3) := by decide +kernel
theorem dX4_tradeFields_138 : decode cX4_tradeFields 138 = .ok (.iload_n 1, 1) := by decide +kernel
theorem dX4_tradeFields_139 : decode cX4_tradeFields 139 = .ok (.iconst 4, 1) := by decide +kernel
theorem dX4_tradeFields_140 : decode cX4_tradeFields 140 = .ok (.iadd, 1) := by decide +kernel
theorem dX4_tradeFields_141 : decode cX4_tradeFields 141 = .ok (.aload_n 0, 1) := by decide +kernel
theorem dX4_tradeFields_142 : decode cX4_tradeFields 142 = .ok (.iconst 0, 1) := by decide +kernel
theorem dX4_tradeFields_143 : decode cX4_tradeFields 143 = .ok (.iload_n 2, 1) := by decide +kernel
theorem dX4_tradeFields_144 : decode cX4_tradeFields 144 = .ok (.ifCond .eq 8, 3) := by decide +kernel
theorem dX4_tradeFields_147 : decode cX4_tradeFields 147 = .ok (.bipush 99, 2) := by decide +kernel
theorem dX4_tradeFields_149 : decode cX4_tradeFields 149 = .ok (.goto 6, 3) := by decide +kernel
theorem dX4_tradeFields_152 : decode cX4_tradeFields 152 = .ok (.sipush 999, 3) := by decide +kernel
theorem dX4_tradeFields_155 : decode cX4_tradeFields 155 = .ok (.invokevirtual 132, 3) := by decide +kernel
theorem dX4_tradeFields_158 : decode cX4_tradeFields 158 = .ok (.iastore, 1) := by decide +kernel
theorem dX4_tradeFields_159 : decode cX4_tradeFields 159 = .ok (.aload_n 0, 1) := by decide +kernel
theorem dX4_tradeFields_160 : decode cX4_tradeFields 160 = .ok (.getfield 13, 3) := by decide +kernel
theorem dX4_tradeFields_163 : decode cX4_tradeFields 163 = .ok (.iload_n 1, 1) := by decide +kernel
theorem dX4_tradeFields_164 : decode cX4_tradeFields 164 = .ok (.iconst 5, 1) := by decide +kernel
theorem dX4_tradeFields_165 : decode cX4_tradeFields 165 = .ok (.iadd, 1) := by decide +kernel
theorem dX4_tradeFields_166 : decode cX4_tradeFields 166 = .ok (.iload_n 2, 1) := by decide +kernel
theorem dX4_tradeFields_167 : decode cX4_tradeFields 167 = .ok (.ifCond .eq 13, 3) := by decide +kernel
theorem dX4_tradeFields_170 : decode cX4_tradeFields 170 = .ok (.aload_n 0, 1) := by decide +kernel
theorem dX4_tradeFields_171 : decode cX4_tradeFields 171 = .ok (.iconst 1, 1) := by decide +kernel
theorem dX4_tradeFields_172 : decode cX4_tradeFields 172 = .ok (.bipush 36, 2) := by decide +kernel
theorem dX4_tradeFields_174 : decode cX4_tradeFields 174 = .ok (.invokevirtual 132, 3) := by decide +kernel
theorem dX4_tradeFields_177 : decode cX4_tradeFields 177 = .ok (.goto 10, 3) := by decide +kernel
theorem dX4_tradeFields_180 : decode cX4_tradeFields 180 = .ok (.aload_n 0, 1) := by decide +kernel
theorem dX4_tradeFields_181 : decode cX4_tradeFields 181 = .ok (.iconst 0, 1) := by decide +kernel
theorem dX4_tradeFields_182 : decode cX4_tradeFields 182 = .ok (.bipush 99, 2) := by decide +kernel
theorem dX4_tradeFields_184 : decode cX4_tradeFields 184 = .ok (.invokevirtual 132, 3) := by decide +kernel
theorem dX4_tradeFields_187 : decode cX4_tradeFields 187 = .ok (.iastore, 1) := by decide +kernel
theorem dX4_tradeFields_188 : decode cX4_tradeFields 188 = .ok (.return_, 1) := by decide +kernel
theorem dX4_leaseLine_0 : decode cX4_leaseLine 0 = .ok (.aload_n 0, 1) := by decide +kernel
theorem dX4_leaseLine_1 : decode cX4_leaseLine 1 = .ok (.iconst 3, 1) := by decide +kernel
theorem dX4_leaseLine_2 : decode cX4_leaseLine 2 = .ok (.bipush 8, 2) := by decide +kernel
theorem dX4_leaseLine_4 : decode cX4_leaseLine 4 = .ok (.iload_n 1, 1) := by decide +kernel
theorem dX4_leaseLine_5 : decode cX4_leaseLine 5 = .ok (.invokevirtual 138, 3) := by decide +kernel
theorem dX4_leaseLine_8 : decode cX4_leaseLine 8 = .ok (.ifCond .eq 36, 3) := by decide +kernel
theorem dX4_leaseLine_11 : decode cX4_leaseLine 11 = .ok (.aload_n 0, 1) := by decide +kernel
theorem dX4_leaseLine_12 : decode cX4_leaseLine 12 = .ok (.iconst 1, 1) := by decide +kernel
theorem dX4_leaseLine_13 : decode cX4_leaseLine 13 = .ok (.putfield 128, 3) := by decide +kernel
theorem dX4_leaseLine_16 : decode cX4_leaseLine 16 = .ok (.aload_n 0, 1) := by decide +kernel
theorem dX4_leaseLine_17 : decode cX4_leaseLine 17 = .ok (.sipush 158, 3) := by decide +kernel
theorem dX4_leaseLine_20 : decode cX4_leaseLine 20 = .ok (.bipush 6, 2) := by decide +kernel
theorem dX4_leaseLine_22 : decode cX4_leaseLine 22 = .ok (.aload_n 0, 1) := by decide +kernel
theorem dX4_leaseLine_23 : decode cX4_leaseLine 23 = .ok (.getfield 13, 3) := by decide +kernel
theorem dX4_leaseLine_26 : decode cX4_leaseLine 26 = .ok (.iconst 3, 1) := by decide +kernel
theorem dX4_leaseLine_27 : decode cX4_leaseLine 27 = .ok (.iaload, 1) := by decide +kernel
theorem dX4_leaseLine_28 : decode cX4_leaseLine 28 = .ok (.imul, 1) := by decide +kernel
theorem dX4_leaseLine_29 : decode cX4_leaseLine 29 = .ok (.iadd, 1) := by decide +kernel
theorem dX4_leaseLine_30 : decode cX4_leaseLine 30 = .ok (.iconst 1, 1) := by decide +kernel
theorem dX4_leaseLine_31 : decode cX4_leaseLine 31 = .ok (.invokevirtual 158, 3) := by decide +kernel
theorem dX4_leaseLine_34 : decode cX4_leaseLine 34 = .ok (.aload_n 0, 1) := by decide +kernel
theorem dX4_leaseLine_35 : decode cX4_leaseLine 35 = .ok (.getfield 13, 3) := by decide +kernel
theorem dX4_leaseLine_38 : decode cX4_leaseLine 38 = .ok (.iconst 3, 1) := by decide +kernel
theorem dX4_leaseLine_39 : decode cX4_leaseLine 39 = .ok (.dup2, 1) := by decide +kernel
theorem dX4_leaseLine_40 : decode cX4_leaseLine 40 = .ok (.iaload, 1) := by decide +kernel
theorem dX4_leaseLine_41 : decode cX4_leaseLine 41 = .ok (.iconst 1, 1) := by decide +kernel
theorem dX4_leaseLine_42 : decode cX4_leaseLine 42 = .ok (.iadd, 1) := by decide +kernel
theorem dX4_leaseLine_43 : decode cX4_leaseLine 43 = .ok (.iastore, 1) := by decide +kernel
theorem dX4_leaseLine_44 : decode cX4_leaseLine 44 = .ok (.return_, 1) := by decide +kernel
theorem dX4_optionLine_0 : decode cX4_optionLine 0 = .ok (.aload_n 0, 1) := by decide +kernel
theorem dX4_optionLine_1 : decode cX4_optionLine 1 = .ok (.iconst 4, 1) := by decide +kernel
theorem dX4_optionLine_2 : decode cX4_optionLine 2 = .ok (.bipush 6, 2) := by decide +kernel
theorem dX4_optionLine_4 : decode cX4_optionLine 4 = .ok (.iload_n 1, 1) := by decide +kernel
theorem dX4_optionLine_5 : decode cX4_optionLine 5 = .ok (.invokevirtual 138, 3) := by decide +kernel
theorem dX4_optionLine_8 : decode cX4_optionLine 8 = .ok (.ifCond .eq 36, 3) := by decide +kernel
theorem dX4_optionLine_11 : decode cX4_optionLine 11 = .ok (.aload_n 0, 1) := by decide +kernel
theorem dX4_optionLine_12 : decode cX4_optionLine 12 = .ok (.iconst 1, 1) := by decide +kernel
theorem dX4_optionLine_13 : decode cX4_optionLine 13 = .ok (.putfield 128, 3) := by decide +kernel
theorem dX4_optionLine_16 : decode cX4_optionLine 16 = .ok (.aload_n 0, 1) := by decide +kernel
theorem dX4_optionLine_17 : decode cX4_optionLine 17 = .ok (.sipush 206, 3) := by decide +kernel
theorem dX4_optionLine_20 : decode cX4_optionLine 20 = .ok (.bipush 6, 2) := by decide +kernel
theorem dX4_optionLine_22 : decode cX4_optionLine 22 = .ok (.aload_n 0, 1) := by decide +kernel
theorem dX4_optionLine_23 : decode cX4_optionLine 23 = .ok (.getfield 13, 3) := by decide +kernel
theorem dX4_optionLine_26 : decode cX4_optionLine 26 = .ok (.iconst 4, 1) := by decide +kernel
theorem dX4_optionLine_27 : decode cX4_optionLine 27 = .ok (.iaload, 1) := by decide +kernel
theorem dX4_optionLine_28 : decode cX4_optionLine 28 = .ok (.imul, 1) := by decide +kernel
theorem dX4_optionLine_29 : decode cX4_optionLine 29 = .ok (.iadd, 1) := by decide +kernel
theorem dX4_optionLine_30 : decode cX4_optionLine 30 = .ok (.iconst 0, 1) := by decide +kernel
theorem dX4_optionLine_31 : decode cX4_optionLine 31 = .ok (.invokevirtual 158, 3) := by decide +kernel
theorem dX4_optionLine_34 : decode cX4_optionLine 34 = .ok (.aload_n 0, 1) := by decide +kernel
theorem dX4_optionLine_35 : decode cX4_optionLine 35 = .ok (.getfield 13, 3) := by decide +kernel
theorem dX4_optionLine_38 : decode cX4_optionLine 38 = .ok (.iconst 4, 1) := by decide +kernel
theorem dX4_optionLine_39 : decode cX4_optionLine 39 = .ok (.dup2, 1) := by decide +kernel
theorem dX4_optionLine_40 : decode cX4_optionLine 40 = .ok (.iaload, 1) := by decide +kernel
theorem dX4_optionLine_41 : decode cX4_optionLine 41 = .ok (.iconst 1, 1) := by decide +kernel
theorem dX4_optionLine_42 : decode cX4_optionLine 42 = .ok (.iadd, 1) := by decide +kernel
theorem dX4_optionLine_43 : decode cX4_optionLine 43 = .ok (.iastore, 1) := by decide +kernel
theorem dX4_optionLine_44 : decode cX4_optionLine 44 = .ok (.return_, 1) := by decide +kernel
theorem dX4_reachLine_0 : decode cX4_reachLine 0 = .ok (.aload_n 0, 1) := by decide +kernel
theorem dX4_reachLine_1 : decode cX4_reachLine 1 = .ok (.iconst 0, 1) := by decide +kernel
theorem dX4_reachLine_2 : decode cX4_reachLine 2 = .ok (.bipush 6, 2) := by decide +kernel
theorem dX4_reachLine_4 : decode cX4_reachLine 4 = .ok (.iload_n 1, 1) := by decide +kernel
theorem dX4_reachLine_5 : decode cX4_reachLine 5 = .ok (.invokevirtual 138, 3) := by decide +kernel
theorem dX4_reachLine_8 : decode cX4_reachLine 8 = .ok (.ifCond .eq 54, 3) := by decide +kernel
theorem dX4_reachLine_11 : decode cX4_reachLine 11 = .ok (.aload_n 0, 1) := by decide +kernel
theorem dX4_reachLine_12 : decode cX4_reachLine 12 = .ok (.getfield 13, 3) := by decide +kernel
theorem dX4_reachLine_15 : decode cX4_reachLine 15 = .ok (.iconst 0, 1) := by decide +kernel
theorem dX4_reachLine_16 : decode cX4_reachLine 16 = .ok (.iaload, 1) := by decide +kernel
theorem dX4_reachLine_17 : decode cX4_reachLine 17 = .ok (.istore_n 2, 1) := by decide +kernel
theorem dX4_reachLine_18 : decode cX4_reachLine 18 = .ok (.aload_n 0, 1) := by decide +kernel
theorem dX4_reachLine_19 : decode cX4_reachLine 19 = .ok (.getfield 13, 3) := by decide +kernel
theorem dX4_reachLine_22 : decode cX4_reachLine 22 = .ok (.bipush 8, 2) := by decide +kernel
theorem dX4_reachLine_24 : decode cX4_reachLine 24 = .ok (.iload_n 2, 1) := by decide +kernel
theorem dX4_reachLine_25 : decode cX4_reachLine 25 = .ok (.iadd, 1) := by decide +kernel
theorem dX4_reachLine_26 : decode cX4_reachLine 26 = .ok (.aload_n 0, 1) := by decide +kernel
theorem dX4_reachLine_27 : decode cX4_reachLine 27 = .ok (.iconst 0, 1) := by decide +kernel
theorem dX4_reachLine_28 : decode cX4_reachLine 28 = .ok (.sipush 999, 3) := by decide +kernel
theorem dX4_reachLine_31 : decode cX4_reachLine 31 = .ok (.invokevirtual 132, 3) := by decide +kernel
theorem dX4_reachLine_34 : decode cX4_reachLine 34 = .ok (.iastore, 1) := by decide +kernel
theorem dX4_reachLine_35 : decode cX4_reachLine 35 = .ok (.aload_n 0, 1) := by decide +kernel
theorem dX4_reachLine_36 : decode cX4_reachLine 36 = .ok (.getfield 13, 3) := by decide +kernel
theorem dX4_reachLine_39 : decode cX4_reachLine 39 = .ok (.bipush 14, 2) := by decide +kernel
theorem dX4_reachLine_41 : decode cX4_reachLine 41 = .ok (.iload_n 2, 1) := by decide +kernel
theorem dX4_reachLine_42 : decode cX4_reachLine 42 = .ok (.iadd, 1) := by decide +kernel
theorem dX4_reachLine_43 : decode cX4_reachLine 43 = .ok (.aload_n 0, 1) := by decide +kernel
theorem dX4_reachLine_44 : decode cX4_reachLine 44 = .ok (.iconst 0, 1) := by decide +kernel
theorem dX4_reachLine_45 : decode cX4_reachLine 45 = .ok (.sipush 999, 3) := by decide +kernel
theorem dX4_reachLine_48 : decode cX4_reachLine 48 = .ok (.invokevirtual 132, 3) := by decide +kernel
theorem dX4_reachLine_51 : decode cX4_reachLine 51 = .ok (.iastore, 1) := by decide +kernel
theorem dX4_reachLine_52 : decode cX4_reachLine 52 = .ok (.aload_n 0, 1) := by decide +kernel
theorem dX4_reachLine_53 : decode cX4_reachLine 53 = .ok (.getfield 13, 3) := by decide +kernel
theorem dX4_reachLine_56 : decode cX4_reachLine 56 = .ok (.iconst 0, 1) := by decide +kernel
theorem dX4_reachLine_57 : decode cX4_reachLine 57 = .ok (.dup2, 1) := by decide +kernel
theorem dX4_reachLine_58 : decode cX4_reachLine 58 = .ok (.iaload, 1) := by decide +kernel
theorem dX4_reachLine_59 : decode cX4_reachLine 59 = .ok (.iconst 1, 1) := by decide +kernel
theorem dX4_reachLine_60 : decode cX4_reachLine 60 = .ok (.iadd, 1) := by decide +kernel
theorem dX4_reachLine_61 : decode cX4_reachLine 61 = .ok (.iastore, 1) := by decide +kernel
theorem dX4_reachLine_62 : decode cX4_reachLine 62 = .ok (.return_, 1) := by decide +kernel
theorem dX4_line_0 : decode cX4_line 0 = .ok (.aload_n 0, 1) := by decide +kernel
theorem dX4_line_1 : decode cX4_line 1 = .ok (.invokevirtual 100, 3) := by decide +kernel
theorem dX4_line_4 : decode cX4_line 4 = .ok (.pop, 1) := by decide +kernel
theorem dX4_line_5 : decode cX4_line 5 = .ok (.aload_n 0, 1) := by decide +kernel
theorem dX4_line_6 : decode cX4_line 6 = .ok (.getfield 90, 3) := by decide +kernel
theorem dX4_line_9 : decode cX4_line 9 = .ok (.istore_n 1, 1) := by decide +kernel
theorem dX4_line_10 : decode cX4_line 10 = .ok (.aload_n 0, 1) := by decide +kernel
theorem dX4_line_11 : decode cX4_line 11 = .ok (.ldc 162, 2) := by decide +kernel
theorem dX4_line_13 : decode cX4_line 13 = .ok (.invokevirtual 152, 3) := by decide +kernel
theorem dX4_line_16 : decode cX4_line 16 = .ok (.ifCond .eq 11, 3) := by decide +kernel
theorem dX4_line_19 : decode cX4_line 19 = .ok (.aload_n 0, 1) := by decide +kernel
theorem dX4_line_20 : decode cX4_line 20 = .ok (.iload_n 1, 1) := by decide +kernel
theorem dX4_line_21 : decode cX4_line 21 = .ok (.invokevirtual 164, 3) := by decide +kernel
theorem dX4_line_24 : decode cX4_line 24 = .ok (.goto 164, 3) := by decide +kernel
theorem dX4_line_27 : decode cX4_line 27 = .ok (.aload_n 0, 1) := by decide +kernel
theorem dX4_line_28 : decode cX4_line 28 = .ok (.ldc 168, 2) := by decide +kernel
theorem dX4_line_30 : decode cX4_line 30 = .ok (.invokevirtual 152, 3) := by decide +kernel
theorem dX4_line_33 : decode cX4_line 33 = .ok (.ifCond .eq 15, 3) := by decide +kernel
theorem dX4_line_36 : decode cX4_line 36 = .ok (.aload_n 0, 1) := by decide +kernel
theorem dX4_line_37 : decode cX4_line 37 = .ok (.bipush 36, 2) := by decide +kernel
theorem dX4_line_39 : decode cX4_line 39 = .ok (.bipush 12, 2) := by decide +kernel
theorem dX4_line_41 : decode cX4_line 41 = .ok (.invokevirtual 170, 3) := by decide +kernel
theorem dX4_line_44 : decode cX4_line 44 = .ok (.istore_n 2, 1) := by decide +kernel
theorem dX4_line_45 : decode cX4_line 45 = .ok (.goto 143, 3) := by decide +kernel
theorem dX4_line_48 : decode cX4_line 48 = .ok (.aload_n 0, 1) := by decide +kernel
theorem dX4_line_49 : decode cX4_line 49 = .ok (.ldc 173, 2) := by decide +kernel
theorem dX4_line_51 : decode cX4_line 51 = .ok (.invokevirtual 152, 3) := by decide +kernel
theorem dX4_line_54 : decode cX4_line 54 = .ok (.ifCond .eq 20, 3) := by decide +kernel
theorem dX4_line_57 : decode cX4_line 57 = .ok (.aload_n 0, 1) := by decide +kernel
theorem dX4_line_58 : decode cX4_line 58 = .ok (.getfield 13, 3) := by decide +kernel
theorem dX4_line_61 : decode cX4_line 61 = .ok (.bipush 7, 2) := by decide +kernel
theorem dX4_line_63 : decode cX4_line 63 = .ok (.aload_n 0, 1) := by decide +kernel
theorem dX4_line_64 : decode cX4_line 64 = .ok (.bipush 48, 2) := by decide +kernel
theorem dX4_line_66 : decode cX4_line 66 = .ok (.iconst 5, 1) := by decide +kernel
theorem dX4_line_67 : decode cX4_line 67 = .ok (.invokevirtual 170, 3) := by decide +kernel
theorem dX4_line_70 : decode cX4_line 70 = .ok (.iastore, 1) := by decide +kernel
theorem dX4_line_71 : decode cX4_line 71 = .ok (.goto 117, 3) := by decide +kernel
theorem dX4_line_74 : decode cX4_line 74 = .ok (.aload_n 0, 1) := by decide +kernel
theorem dX4_line_75 : decode cX4_line 75 = .ok (.ldc 175, 2) := by decide +kernel
theorem dX4_line_77 : decode cX4_line 77 = .ok (.invokevirtual 152, 3) := by decide +kernel
theorem dX4_line_80 : decode cX4_line 80 = .ok (.ifCond .eq 20, 3) := by decide +kernel
theorem dX4_line_83 : decode cX4_line 83 = .ok (.aload_n 0, 1) := by decide +kernel
theorem dX4_line_84 : decode cX4_line 84 = .ok (.getfield 13, 3) := by decide +kernel
theorem dX4_line_87 : decode cX4_line 87 = .ok (.bipush 6, 2) := by decide +kernel
theorem dX4_line_89 : decode cX4_line 89 = .ok (.aload_n 0, 1) := by decide +kernel
theorem dX4_line_90 : decode cX4_line 90 = .ok (.iconst 0, 1) := by decide +kernel
theorem dX4_line_91 : decode cX4_line 91 = .ok (.bipush 50, 2) := by decide +kernel
theorem dX4_line_93 : decode cX4_line 93 = .ok (.invokevirtual 132, 3) := by decide +kernel
theorem dX4_line_96 : decode cX4_line 96 = .ok (.iastore, 1) := by decide +kernel
theorem dX4_line_97 : decode cX4_line 97 = .ok (.goto 91, 3) := by decide +kernel
theorem dX4_line_100 : decode cX4_line 100 = .ok (.aload_n 0, 1) := by decide +kernel
theorem dX4_line_101 : decode cX4_line 101 = .ok (.getfield 128, 3) := by decide +kernel
theorem dX4_line_104 : decode cX4_line 104 = .ok (.ifCond .ne 27, 3) := by decide +kernel
theorem dX4_line_107 : decode cX4_line 107 = .ok (.aload_n 0, 1) := by decide +kernel
theorem dX4_line_108 : decode cX4_line 108 = .ok (.ldc 177, 2) := by decide +kernel
theorem dX4_line_110 : decode cX4_line 110 = .ok (.invokevirtual 152, 3) := by decide +kernel
theorem dX4_line_113 : decode cX4_line 113 = .ok (.ifCond .eq 18, 3) := by decide +kernel
theorem dX4_line_116 : decode cX4_line 116 = .ok (.aload_n 0, 1) := by decide +kernel
theorem dX4_line_117 : decode cX4_line 117 = .ok (.getfield 13, 3) := by decide +kernel
theorem dX4_line_120 : decode cX4_line 120 = .ok (.iconst 1, 1) := by decide +kernel
theorem dX4_line_121 : decode cX4_line 121 = .ok (.aload_n 0, 1) := by decide +kernel
theorem dX4_line_122 : decode cX4_line 122 = .ok (.iconst 1, 1) := by decide +kernel
theorem dX4_line_123 : decode cX4_line 123 = .ok (.iconst 5, 1) := by decide +kernel
theorem dX4_line_124 : decode cX4_line 124 = .ok (.invokevirtual 132, 3) := by decide +kernel
theorem dX4_line_127 : decode cX4_line 127 = .ok (.iastore, 1) := by decide +kernel
theorem dX4_line_128 : decode cX4_line 128 = .ok (.goto 60, 3) := by decide +kernel
theorem dX4_line_131 : decode cX4_line 131 = .ok (.aload_n 0, 1) := by decide +kernel
theorem dX4_line_132 : decode cX4_line 132 = .ok (.ldc 179, 2) := by decide +kernel
theorem dX4_line_134 : decode cX4_line 134 = .ok (.invokevirtual 152, 3) := by decide +kernel
theorem dX4_line_137 : decode cX4_line 137 = .ok (.ifCond .eq 11, 3) := by decide +kernel
theorem dX4_line_140 : decode cX4_line 140 = .ok (.aload_n 0, 1) := by decide +kernel
theorem dX4_line_141 : decode cX4_line 141 = .ok (.iload_n 1, 1) := by decide +kernel
theorem dX4_line_142 : decode cX4_line 142 = .ok (.invokevirtual 181, 3) := by decide +kernel
theorem dX4_line_145 : decode cX4_line 145 = .ok (.goto 43, 3) := by decide +kernel
theorem dX4_line_148 : decode cX4_line 148 = .ok (.aload_n 0, 1) := by decide +kernel
theorem dX4_line_149 : decode cX4_line 149 = .ok (.ldc 184, 2) := by decide +kernel
theorem dX4_line_151 : decode cX4_line 151 = .ok (.invokevirtual 152, 3) := by decide +kernel
theorem dX4_line_154 : decode cX4_line 154 = .ok (.ifCond .eq 11, 3) := by decide +kernel
theorem dX4_line_157 : decode cX4_line 157 = .ok (.aload_n 0, 1) := by decide +kernel
theorem dX4_line_158 : decode cX4_line 158 = .ok (.iload_n 1, 1) := by decide +kernel
theorem dX4_line_159 : decode cX4_line 159 = .ok (.invokevirtual 186, 3) := by decide +kernel
theorem dX4_line_162 : decode cX4_line 162 = .ok (.goto 26, 3) := by decide +kernel
theorem dX4_line_165 : decode cX4_line 165 = .ok (.aload_n 0, 1) := by decide +kernel
theorem dX4_line_166 : decode cX4_line 166 = .ok (.ldc 189, 2) := by decide +kernel
theorem dX4_line_168 : decode cX4_line 168 = .ok (.invokevirtual 152, 3) := by decide +kernel
theorem dX4_line_171 : decode cX4_line 171 = .ok (.ifCond .eq 11, 3) := by decide +kernel
theorem dX4_line_174 : decode cX4_line 174 = .ok (.aload_n 0, 1) := by decide +kernel
theorem dX4_line_175 : decode cX4_line 175 = .ok (.iload_n 1, 1) := by decide +kernel
theorem dX4_line_176 : decode cX4_line 176 = .ok (.invokevirtual 191, 3) := by decide +kernel
theorem dX4_line_179 : decode cX4_line 179 = .ok (.goto 9, 3) := by decide +kernel
theorem dX4_line_182 : decode cX4_line 182 = .ok (.aload_n 0, 1) := by decide +kernel
theorem dX4_line_183 : decode cX4_line 183 = .ok (.iconst 1, 1) := by decide +kernel
theorem dX4_line_184 : decode cX4_line 184 = .ok (.iload_n 1, 1) := by decide +kernel
theorem dX4_line_185 : decode cX4_line 185 = .ok (.invokevirtual 124, 3) := by decide +kernel
theorem dX4_line_188 : decode cX4_line 188 = .ok (.return_, 1) := by decide +kernel
theorem dX4_begins_0 : decode cX4_begins 0 = .ok (.iconst 0, 1) := by decide +kernel
theorem dX4_begins_1 : decode cX4_begins 1 = .ok (.istore_n 1, 1) := by decide +kernel
theorem dX4_begins_2 : decode cX4_begins 2 = .ok (.iload_n 1, 1) := by decide +kernel
theorem dX4_begins_3 : decode cX4_begins 3 = .ok (.sipush 521, 3) := by decide +kernel
theorem dX4_begins_6 : decode cX4_begins 6 = .ok (.if_icmp .ge 21, 3) := by decide +kernel
theorem dX4_begins_9 : decode cX4_begins 9 = .ok (.aload_n 0, 1) := by decide +kernel
theorem dX4_begins_10 : decode cX4_begins 10 = .ok (.getfield 7, 3) := by decide +kernel
theorem dX4_begins_13 : decode cX4_begins 13 = .ok (.iload_n 1, 1) := by decide +kernel
theorem dX4_begins_14 : decode cX4_begins 14 = .ok (.aload_n 0, 1) := by decide +kernel
theorem dX4_begins_15 : decode cX4_begins 15 = .ok (.getfield 13, 3) := by decide +kernel
theorem dX4_begins_18 : decode cX4_begins 18 = .ok (.iload_n 1, 1) := by decide +kernel
theorem dX4_begins_19 : decode cX4_begins 19 = .ok (.iaload, 1) := by decide +kernel
theorem dX4_begins_20 : decode cX4_begins 20 = .ok (.iastore, 1) := by decide +kernel
theorem dX4_begins_21 : decode cX4_begins 21 = .ok (.iinc 1 1, 3) := by decide +kernel
theorem dX4_begins_24 : decode cX4_begins 24 = .ok (.goto (-22), 3) := by decide +kernel
theorem dX4_begins_27 : decode cX4_begins 27 = .ok (.iconst 0, 1) := by decide +kernel
theorem dX4_begins_28 : decode cX4_begins 28 = .ok (.istore_n 1, 1) := by decide +kernel
theorem dX4_begins_29 : decode cX4_begins 29 = .ok (.iload_n 1, 1) := by decide +kernel
theorem dX4_begins_30 : decode cX4_begins 30 = .ok (.bipush 15, 2) := by decide +kernel
theorem dX4_begins_32 : decode cX4_begins 32 = .ok (.if_icmp .ge 16, 3) := by decide +kernel
theorem dX4_begins_35 : decode cX4_begins 35 = .ok (.aload_n 0, 1) := by decide +kernel
theorem dX4_begins_36 : decode cX4_begins 36 = .ok (.getfield 22, 3) := by decide +kernel
theorem dX4_begins_39 : decode cX4_begins 39 = .ok (.iload_n 1, 1) := by decide +kernel
theorem dX4_begins_40 : decode cX4_begins 40 = .ok (.lconst 0, 1) := by decide +kernel
theorem dX4_begins_41 : decode cX4_begins 41 = .ok (.lastore, 1) := by decide +kernel
theorem dX4_begins_42 : decode cX4_begins 42 = .ok (.iinc 1 1, 3) := by decide +kernel
theorem dX4_begins_45 : decode cX4_begins 45 = .ok (.goto (-16), 3) := by decide +kernel
theorem dX4_begins_48 : decode cX4_begins 48 = .ok (.aload_n 0, 1) := by decide +kernel
theorem dX4_begins_49 : decode cX4_begins 49 = .ok (.iconst 0, 1) := by decide +kernel
theorem dX4_begins_50 : decode cX4_begins 50 = .ok (.putfield 194, 3) := by decide +kernel
theorem dX4_begins_53 : decode cX4_begins 53 = .ok (.aload_n 0, 1) := by decide +kernel
theorem dX4_begins_54 : decode cX4_begins 54 = .ok (.getfield 38, 3) := by decide +kernel
theorem dX4_begins_57 : decode cX4_begins 57 = .ok (.iconst 0, 1) := by decide +kernel
theorem dX4_begins_58 : decode cX4_begins 58 = .ok (.iconst 0, 1) := by decide +kernel
theorem dX4_begins_59 : decode cX4_begins 59 = .ok (.bastore, 1) := by decide +kernel
theorem dX4_begins_60 : decode cX4_begins 60 = .ok (.aload_n 0, 1) := by decide +kernel
theorem dX4_begins_61 : decode cX4_begins 61 = .ok (.getfield 38, 3) := by decide +kernel
theorem dX4_begins_64 : decode cX4_begins 64 = .ok (.iconst 1, 1) := by decide +kernel
theorem dX4_begins_65 : decode cX4_begins 65 = .ok (.iconst 0, 1) := by decide +kernel
theorem dX4_begins_66 : decode cX4_begins 66 = .ok (.bastore, 1) := by decide +kernel
theorem dX4_begins_67 : decode cX4_begins 67 = .ok (.return_, 1) := by decide +kernel
theorem dX4_load_0 : decode cX4_load 0 = .ok (.aload_n 0, 1) := by decide +kernel
theorem dX4_load_1 : decode cX4_load 1 = .ok (.iconst 0, 1) := by decide +kernel
theorem dX4_load_2 : decode cX4_load 2 = .ok (.putfield 77, 3) := by decide +kernel
theorem dX4_load_5 : decode cX4_load 5 = .ok (.aload_n 0, 1) := by decide +kernel
theorem dX4_load_6 : decode cX4_load 6 = .ok (.aload_n 0, 1) := by decide +kernel
theorem dX4_load_7 : decode cX4_load 7 = .ok (.getfield 84, 3) := by decide +kernel
theorem dX4_load_10 : decode cX4_load 10 = .ok (.putfield 87, 3) := by decide +kernel
theorem dX4_load_13 : decode cX4_load 13 = .ok (.aload_n 0, 1) := by decide +kernel
theorem dX4_load_14 : decode cX4_load 14 = .ok (.iconst 0, 1) := by decide +kernel
theorem dX4_load_15 : decode cX4_load 15 = .ok (.putfield 84, 3) := by decide +kernel
theorem dX4_load_18 : decode cX4_load 18 = .ok (.aload_n 0, 1) := by decide +kernel
theorem dX4_load_19 : decode cX4_load 19 = .ok (.iconst 0, 1) := by decide +kernel
theorem dX4_load_20 : decode cX4_load 20 = .ok (.putfield 90, 3) := by decide +kernel
theorem dX4_load_23 : decode cX4_load 23 = .ok (.aload_n 0, 1) := by decide +kernel
theorem dX4_load_24 : decode cX4_load 24 = .ok (.iconst (-1), 1) := by decide +kernel
theorem dX4_load_25 : decode cX4_load 25 = .ok (.putfield 46, 3) := by decide +kernel
theorem dX4_load_28 : decode cX4_load 28 = .ok (.aload_n 0, 1) := by decide +kernel
theorem dX4_load_29 : decode cX4_load 29 = .ok (.iconst 0, 1) := by decide +kernel
theorem dX4_load_30 : decode cX4_load 30 = .ok (.putfield 97, 3) := by decide +kernel
theorem dX4_load_33 : decode cX4_load 33 = .ok (.aload_n 0, 1) := by decide +kernel
theorem dX4_load_34 : decode cX4_load 34 = .ok (.invokevirtual 71, 3) := by decide +kernel
theorem dX4_load_37 : decode cX4_load 37 = .ok (.aload_n 0, 1) := by decide +kernel
theorem dX4_load_38 : decode cX4_load 38 = .ok (.invokevirtual 108, 3) := by decide +kernel
theorem dX4_load_41 : decode cX4_load 41 = .ok (.ifCond .ne 53, 3) := by decide +kernel
theorem dX4_load_44 : decode cX4_load 44 = .ok (.aload_n 0, 1) := by decide +kernel
theorem dX4_load_45 : decode cX4_load 45 = .ok (.invokevirtual 100, 3) := by decide +kernel
theorem dX4_load_48 : decode cX4_load 48 = .ok (.iconst (-1), 1) := by decide +kernel
theorem dX4_load_49 : decode cX4_load 49 = .ok (.if_icmp .eq 45, 3) := by decide +kernel
theorem dX4_load_52 : decode cX4_load 52 = .ok (.aload_n 0, 1) := by decide +kernel
theorem dX4_load_53 : decode cX4_load 53 = .ok (.invokevirtual 197, 3) := by decide +kernel
theorem dX4_load_56 : decode cX4_load 56 = .ok (.aload_n 0, 1) := by decide +kernel
theorem dX4_load_57 : decode cX4_load 57 = .ok (.invokevirtual 108, 3) := by decide +kernel
theorem dX4_load_60 : decode cX4_load 60 = .ok (.ifCond .ne 21, 3) := by decide +kernel
theorem dX4_load_63 : decode cX4_load 63 = .ok (.aload_n 0, 1) := by decide +kernel
theorem dX4_load_64 : decode cX4_load 64 = .ok (.invokevirtual 100, 3) := by decide +kernel
theorem dX4_load_67 : decode cX4_load 67 = .ok (.bipush 59, 2) := by decide +kernel
theorem dX4_load_69 : decode cX4_load 69 = .ok (.if_icmp .eq 12, 3) := by decide +kernel
theorem dX4_load_72 : decode cX4_load 72 = .ok (.aload_n 0, 1) := by decide +kernel
theorem dX4_load_73 : decode cX4_load 73 = .ok (.iconst 1, 1) := by decide +kernel
theorem dX4_load_74 : decode cX4_load 74 = .ok (.aload_n 0, 1) := by decide +kernel
theorem dX4_load_75 : decode cX4_load 75 = .ok (.getfield 90, 3) := by decide +kernel
theorem dX4_load_78 : decode cX4_load 78 = .ok (.invokevirtual 124, 3) := by decide +kernel
theorem dX4_load_81 : decode cX4_load 81 = .ok (.aload_n 0, 1) := by decide +kernel
theorem dX4_load_82 : decode cX4_load 82 = .ok (.dup, 1) := by decide +kernel
theorem dX4_load_83 : decode cX4_load 83 = .ok (.getfield 90, 3) := by decide +kernel
theorem dX4_load_86 : decode cX4_load 86 = .ok (.iconst 1, 1) := by decide +kernel
theorem dX4_load_87 : decode cX4_load 87 = .ok (.iadd, 1) := by decide +kernel
theorem dX4_load_88 : decode cX4_load 88 = .ok (.putfield 90, 3) := by decide +kernel
theorem dX4_load_91 : decode cX4_load 91 = .ok (.goto (-54), 3) := by decide +kernel
theorem dX4_load_94 : decode cX4_load 94 = .ok (.aload_n 0, 1) := by decide +kernel
theorem dX4_load_95 : decode cX4_load 95 = .ok (.invokevirtual 108, 3) := by decide +kernel
theorem dX4_load_98 : decode cX4_load 98 = .ok (.ifCond .eq 10, 3) := by decide +kernel
theorem dX4_load_101 : decode cX4_load 101 = .ok (.aload_n 0, 1) := by decide +kernel
theorem dX4_load_102 : decode cX4_load 102 = .ok (.iconst 1, 1) := by decide +kernel
theorem dX4_load_103 : decode cX4_load 103 = .ok (.putfield 77, 3) := by decide +kernel
theorem dX4_load_106 : decode cX4_load 106 = .ok (.iconst 0, 1) := by decide +kernel
theorem dX4_load_107 : decode cX4_load 107 = .ok (.ireturn, 1) := by decide +kernel
theorem dX4_load_108 : decode cX4_load 108 = .ok (.aload_n 0, 1) := by decide +kernel
theorem dX4_load_109 : decode cX4_load 109 = .ok (.invokevirtual 74, 3) := by decide +kernel
theorem dX4_load_112 : decode cX4_load 112 = .ok (.aload_n 0, 1) := by decide +kernel
theorem dX4_load_113 : decode cX4_load 113 = .ok (.getfield 7, 3) := by decide +kernel
theorem dX4_load_116 : decode cX4_load 116 = .ok (.iconst 2, 1) := by decide +kernel
theorem dX4_load_117 : decode cX4_load 117 = .ok (.iaload, 1) := by decide +kernel
theorem dX4_load_118 : decode cX4_load 118 = .ok (.ireturn, 1) := by decide +kernel
theorem dX4_errorOffset_0 : decode cX4_errorOffset 0 = .ok (.aload_n 0, 1) := by decide +kernel
theorem dX4_errorOffset_1 : decode cX4_errorOffset 1 = .ok (.iconst 0, 1) := by decide +kernel
theorem dX4_errorOffset_2 : decode cX4_errorOffset 2 = .ok (.putfield 77, 3) := by decide +kernel
theorem dX4_errorOffset_5 : decode cX4_errorOffset 5 = .ok (.aload_n 0, 1) := by decide +kernel
theorem dX4_errorOffset_6 : decode cX4_errorOffset 6 = .ok (.getfield 46, 3) := by decide +kernel
theorem dX4_errorOffset_9 : decode cX4_errorOffset 9 = .ok (.ireturn, 1) := by decide +kernel
theorem dX4_errorKind_0 : decode cX4_errorKind 0 = .ok (.aload_n 0, 1) := by decide +kernel
theorem dX4_errorKind_1 : decode cX4_errorKind 1 = .ok (.iconst 0, 1) := by decide +kernel
theorem dX4_errorKind_2 : decode cX4_errorKind 2 = .ok (.putfield 77, 3) := by decide +kernel
theorem dX4_errorKind_5 : decode cX4_errorKind 5 = .ok (.aload_n 0, 1) := by decide +kernel
theorem dX4_errorKind_6 : decode cX4_errorKind 6 = .ok (.getfield 97, 3) := by decide +kernel
theorem dX4_errorKind_9 : decode cX4_errorKind 9 = .ok (.ireturn, 1) := by decide +kernel
theorem dX4_isReach_0 : decode cX4_isReach 0 = .ok (.iload_n 1, 1) := by decide +kernel
theorem dX4_isReach_1 : decode cX4_isReach 1 = .ok (.iconst 0, 1) := by decide +kernel
theorem dX4_isReach_2 : decode cX4_isReach 2 = .ok (.aload_n 0, 1) := by decide +kernel
theorem dX4_isReach_3 : decode cX4_isReach 3 = .ok (.getfield 7, 3) := by decide +kernel
theorem dX4_isReach_6 : decode cX4_isReach 6 = .ok (.iconst 0, 1) := by decide +kernel
theorem dX4_isReach_7 : decode cX4_isReach 7 = .ok (.iaload, 1) := by decide +kernel
theorem dX4_isReach_8 : decode cX4_isReach 8 = .ok (.iconst 1, 1) := by decide +kernel
theorem dX4_isReach_9 : decode cX4_isReach 9 = .ok (.isub, 1) := by decide +kernel
theorem dX4_isReach_10 : decode cX4_isReach 10 = .ok (.invokestatic 104, 3) := by decide +kernel
theorem dX4_isReach_13 : decode cX4_isReach 13 = .ok (.ireturn, 1) := by decide +kernel
theorem dX4_isAccount_0 : decode cX4_isAccount 0 = .ok (.iload_n 1, 1) := by decide +kernel
theorem dX4_isAccount_1 : decode cX4_isAccount 1 = .ok (.iconst 0, 1) := by decide +kernel
theorem dX4_isAccount_2 : decode cX4_isAccount 2 = .ok (.aload_n 0, 1) := by decide +kernel
theorem dX4_isAccount_3 : decode cX4_isAccount 3 = .ok (.getfield 7, 3) := by decide +kernel
theorem dX4_isAccount_6 : decode cX4_isAccount 6 = .ok (.iconst 1, 1) := by decide +kernel
theorem dX4_isAccount_7 : decode cX4_isAccount 7 = .ok (.iaload, 1) := by decide +kernel
theorem dX4_isAccount_8 : decode cX4_isAccount 8 = .ok (.iconst 1, 1) := by decide +kernel
theorem dX4_isAccount_9 : decode cX4_isAccount 9 = .ok (.isub, 1) := by decide +kernel
theorem dX4_isAccount_10 : decode cX4_isAccount 10 = .ok (.invokestatic 104, 3) := by decide +kernel
theorem dX4_isAccount_13 : decode cX4_isAccount 13 = .ok (.ireturn, 1) := by decide +kernel
theorem dX4_isRight_0 : decode cX4_isRight 0 = .ok (.iload_n 1, 1) := by decide +kernel
theorem dX4_isRight_1 : decode cX4_isRight 1 = .ok (.iconst 0, 1) := by decide +kernel
theorem dX4_isRight_2 : decode cX4_isRight 2 = .ok (.aload_n 0, 1) := by decide +kernel
theorem dX4_isRight_3 : decode cX4_isRight 3 = .ok (.getfield 7, 3) := by decide +kernel
theorem dX4_isRight_6 : decode cX4_isRight 6 = .ok (.iconst 2, 1) := by decide +kernel
theorem dX4_isRight_7 : decode cX4_isRight 7 = .ok (.iaload, 1) := by decide +kernel
theorem dX4_isRight_8 : decode cX4_isRight 8 = .ok (.iconst 1, 1) := by decide +kernel
theorem dX4_isRight_9 : decode cX4_isRight 9 = .ok (.isub, 1) := by decide +kernel
theorem dX4_isRight_10 : decode cX4_isRight 10 = .ok (.invokestatic 104, 3) := by decide +kernel
theorem dX4_isRight_13 : decode cX4_isRight 13 = .ok (.ireturn, 1) := by decide +kernel
theorem dX4_isLease_0 : decode cX4_isLease 0 = .ok (.iload_n 1, 1) := by decide +kernel
theorem dX4_isLease_1 : decode cX4_isLease 1 = .ok (.iconst 0, 1) := by decide +kernel
theorem dX4_isLease_2 : decode cX4_isLease 2 = .ok (.aload_n 0, 1) := by decide +kernel
theorem dX4_isLease_3 : decode cX4_isLease 3 = .ok (.getfield 7, 3) := by decide +kernel
theorem dX4_isLease_6 : decode cX4_isLease 6 = .ok (.iconst 3, 1) := by decide +kernel
theorem dX4_isLease_7 : decode cX4_isLease 7 = .ok (.iaload, 1) := by decide +kernel
theorem dX4_isLease_8 : decode cX4_isLease 8 = .ok (.iconst 1, 1) := by decide +kernel
theorem dX4_isLease_9 : decode cX4_isLease 9 = .ok (.isub, 1) := by decide +kernel
theorem dX4_isLease_10 : decode cX4_isLease 10 = .ok (.invokestatic 104, 3) := by decide +kernel
theorem dX4_isLease_13 : decode cX4_isLease 13 = .ok (.ireturn, 1) := by decide +kernel
theorem dX4_isMonths_0 : decode cX4_isMonths 0 = .ok (.iload_n 1, 1) := by decide +kernel
theorem dX4_isMonths_1 : decode cX4_isMonths 1 = .ok (.iconst 1, 1) := by decide +kernel
theorem dX4_isMonths_2 : decode cX4_isMonths 2 = .ok (.bipush 36, 2) := by decide +kernel
theorem dX4_isMonths_4 : decode cX4_isMonths 4 = .ok (.invokestatic 104, 3) := by decide +kernel
theorem dX4_isMonths_7 : decode cX4_isMonths 7 = .ok (.ireturn, 1) := by decide +kernel
theorem dX4_count_0 : decode cX4_count 0 = .ok (.aload_n 0, 1) := by decide +kernel
theorem dX4_count_1 : decode cX4_count 1 = .ok (.iload_n 1, 1) := by decide +kernel
theorem dX4_count_2 : decode cX4_count 2 = .ok (.iconst 0, 1) := by decide +kernel
theorem dX4_count_3 : decode cX4_count 3 = .ok (.bipush 7, 2) := by decide +kernel
theorem dX4_count_5 : decode cX4_count 5 = .ok (.invokestatic 104, 3) := by decide +kernel
theorem dX4_count_8 : decode cX4_count 8 = .ok (.ifCond .eq 7, 3) := by decide +kernel
theorem dX4_count_11 : decode cX4_count 11 = .ok (.iconst 0, 1) := by decide +kernel
theorem dX4_count_12 : decode cX4_count 12 = .ok (.goto 4, 3) := by decide +kernel
theorem dX4_count_15 : decode cX4_count 15 = .ok (.iconst 1, 1) := by decide +kernel
theorem dX4_count_16 : decode cX4_count 16 = .ok (.putfield 77, 3) := by decide +kernel
theorem dX4_count_19 : decode cX4_count 19 = .ok (.aload_n 0, 1) := by decide +kernel
theorem dX4_count_20 : decode cX4_count 20 = .ok (.getfield 77, 3) := by decide +kernel
theorem dX4_count_23 : decode cX4_count 23 = .ok (.ifCond .le 7, 3) := by decide +kernel
theorem dX4_count_26 : decode cX4_count 26 = .ok (.iconst 0, 1) := by decide +kernel
theorem dX4_count_27 : decode cX4_count 27 = .ok (.goto 9, 3) := by decide +kernel
theorem dX4_count_30 : decode cX4_count 30 = .ok (.aload_n 0, 1) := by decide +kernel
theorem dX4_count_31 : decode cX4_count 31 = .ok (.getfield 7, 3) := by decide +kernel
theorem dX4_count_34 : decode cX4_count 34 = .ok (.iload_n 1, 1) := by decide +kernel
theorem dX4_count_35 : decode cX4_count 35 = .ok (.iaload, 1) := by decide +kernel
theorem dX4_count_36 : decode cX4_count 36 = .ok (.ireturn, 1) := by decide +kernel
theorem dX4_season_0 : decode cX4_season 0 = .ok (.aload_n 0, 1) := by decide +kernel
theorem dX4_season_1 : decode cX4_season 1 = .ok (.iload_n 1, 1) := by decide +kernel
theorem dX4_season_2 : decode cX4_season 2 = .ok (.iconst 0, 1) := by decide +kernel
theorem dX4_season_3 : decode cX4_season 3 = .ok (.bipush 11, 2) := by decide +kernel
theorem dX4_season_5 : decode cX4_season 5 = .ok (.invokestatic 104, 3) := by decide +kernel
theorem dX4_season_8 : decode cX4_season 8 = .ok (.ifCond .eq 7, 3) := by decide +kernel
theorem dX4_season_11 : decode cX4_season 11 = .ok (.iconst 0, 1) := by decide +kernel
theorem dX4_season_12 : decode cX4_season 12 = .ok (.goto 4, 3) := by decide +kernel
theorem dX4_season_15 : decode cX4_season 15 = .ok (.iconst 1, 1) := by decide +kernel
theorem dX4_season_16 : decode cX4_season 16 = .ok (.putfield 77, 3) := by decide +kernel
theorem dX4_season_19 : decode cX4_season 19 = .ok (.aload_n 0, 1) := by decide +kernel
theorem dX4_season_20 : decode cX4_season 20 = .ok (.getfield 77, 3) := by decide +kernel
theorem dX4_season_23 : decode cX4_season 23 = .ok (.ifCond .le 7, 3) := by decide +kernel
theorem dX4_season_26 : decode cX4_season 26 = .ok (.iconst 0, 1) := by decide +kernel
theorem dX4_season_27 : decode cX4_season 27 = .ok (.goto 12, 3) := by decide +kernel
theorem dX4_season_30 : decode cX4_season 30 = .ok (.aload_n 0, 1) := by decide +kernel
theorem dX4_season_31 : decode cX4_season 31 = .ok (.getfield 7, 3) := by decide +kernel
theorem dX4_season_34 : decode cX4_season 34 = .ok (.bipush 36, 2) := by decide +kernel
theorem dX4_season_36 : decode cX4_season 36 = .ok (.iload_n 1, 1) := by decide +kernel
theorem dX4_season_37 : decode cX4_season 37 = .ok (.iadd, 1) := by decide +kernel
theorem dX4_season_38 : decode cX4_season 38 = .ok (.iaload, 1) := by decide +kernel
theorem dX4_season_39 : decode cX4_season 39 = .ok (.ireturn, 1) := by decide +kernel
theorem dX4_percentOf_0 : decode cX4_percentOf 0 = .ok (.aload_n 0, 1) := by decide +kernel
theorem dX4_percentOf_1 : decode cX4_percentOf 1 = .ok (.getfield 7, 3) := by decide +kernel
theorem dX4_percentOf_4 : decode cX4_percentOf 4 = .ok (.bipush 48, 2) := by decide +kernel
theorem dX4_percentOf_6 : decode cX4_percentOf 6 = .ok (.iload_n 1, 1) := by decide +kernel
theorem dX4_percentOf_7 : decode cX4_percentOf 7 = .ok (.aload_n 0, 1) := by decide +kernel
theorem dX4_percentOf_8 : decode cX4_percentOf 8 = .ok (.getfield 7, 3) := by decide +kernel
theorem dX4_percentOf_11 : decode cX4_percentOf 11 = .ok (.bipush 7, 2) := by decide +kernel
theorem dX4_percentOf_13 : decode cX4_percentOf 13 = .ok (.iaload, 1) := by decide +kernel
theorem dX4_percentOf_14 : decode cX4_percentOf 14 = .ok (.irem, 1) := by decide +kernel
theorem dX4_percentOf_15 : decode cX4_percentOf 15 = .ok (.iadd, 1) := by decide +kernel
theorem dX4_percentOf_16 : decode cX4_percentOf 16 = .ok (.iaload, 1) := by decide +kernel
theorem dX4_percentOf_17 : decode cX4_percentOf 17 = .ok (.ireturn, 1) := by decide +kernel
theorem dX4_yearPercent_0 : decode cX4_yearPercent 0 = .ok (.aload_n 0, 1) := by decide +kernel
theorem dX4_yearPercent_1 : decode cX4_yearPercent 1 = .ok (.iload_n 1, 1) := by decide +kernel
theorem dX4_yearPercent_2 : decode cX4_yearPercent 2 = .ok (.ifCond .lt 7, 3) := by decide +kernel
theorem dX4_yearPercent_5 : decode cX4_yearPercent 5 = .ok (.iconst 0, 1) := by decide +kernel
theorem dX4_yearPercent_6 : decode cX4_yearPercent 6 = .ok (.goto 4, 3) := by decide +kernel
theorem dX4_yearPercent_9 : decode cX4_yearPercent 9 = .ok (.iconst 1, 1) := by decide +kernel
theorem dX4_yearPercent_10 : decode cX4_yearPercent 10 = .ok (.putfield 77, 3) := by decide +kernel
theorem dX4_yearPercent_13 : decode cX4_yearPercent 13 = .ok (.aload_n 0, 1) := by decide +kernel
theorem dX4_yearPercent_14 : decode cX4_yearPercent 14 = .ok (.getfield 77, 3) := by decide +kernel
theorem dX4_yearPercent_17 : decode cX4_yearPercent 17 = .ok (.ifCond .le 7, 3) := by decide +kernel
theorem dX4_yearPercent_20 : decode cX4_yearPercent 20 = .ok (.iconst 0, 1) := by decide +kernel
theorem dX4_yearPercent_21 : decode cX4_yearPercent 21 = .ok (.goto 8, 3) := by decide +kernel
theorem dX4_yearPercent_24 : decode cX4_yearPercent 24 = .ok (.aload_n 0, 1) := by decide +kernel
theorem dX4_yearPercent_25 : decode cX4_yearPercent 25 = .ok (.iload_n 1, 1) := by decide +kernel
theorem dX4_yearPercent_26 : decode cX4_yearPercent 26 = .ok (.invokevirtual 200, 3) := by decide +kernel
theorem dX4_yearPercent_29 : decode cX4_yearPercent 29 = .ok (.ireturn, 1) := by decide +kernel
theorem dX4_reach_0 : decode cX4_reach 0 = .ok (.aload_n 0, 1) := by decide +kernel
theorem dX4_reach_1 : decode cX4_reach 1 = .ok (.aload_n 0, 1) := by decide +kernel
theorem dX4_reach_2 : decode cX4_reach 2 = .ok (.iload_n 1, 1) := by decide +kernel
theorem dX4_reach_3 : decode cX4_reach 3 = .ok (.invokevirtual 203, 3) := by decide +kernel
theorem dX4_reach_6 : decode cX4_reach 6 = .ok (.ifCond .ne 7, 3) := by decide +kernel
theorem dX4_reach_9 : decode cX4_reach 9 = .ok (.iconst 1, 1) := by decide +kernel
theorem dX4_reach_10 : decode cX4_reach 10 = .ok (.goto 17, 3) := by decide +kernel
theorem dX4_reach_13 : decode cX4_reach 13 = .ok (.iload_n 2, 1) := by decide +kernel
theorem dX3_othersThatGet_0 : decode cX3_othersThatGet 0 = .ok (.iconst 0, 1) := by decide +kernel
theorem dX3_othersThatGet_1 : decode cX3_othersThatGet 1 = .ok (.istore_n 3, 1) := by decide +kernel
theorem dX3_othersThatGet_2 : decode cX3_othersThatGet 2 = .ok (.iconst 0, 1) := by decide +kernel
theorem dX3_othersThatGet_3 : decode cX3_othersThatGet 3 = .ok (.istore 4, 2) := by decide +kernel
theorem dX3_othersThatGet_5 : decode cX3_othersThatGet 5 = .ok (.iload 4, 2) := by decide +kernel
theorem dX3_othersThatGet_7 : decode cX3_othersThatGet 7 = .ok (.bipush 10, 2) := by decide +kernel
theorem dX3_othersThatGet_9 : decode cX3_othersThatGet 9 = .ok (.if_icmp .ge 63, 3) := by decide +kernel
theorem dX3_othersThatGet_12 : decode cX3_othersThatGet 12 = .ok (.aload_n 0, 1) := by decide +kernel
theorem dX3_othersThatGet_13 : decode cX3_othersThatGet 13 = .ok (.getfield 16, 3) := by decide +kernel
theorem dX3_othersThatGet_16 : decode cX3_othersThatGet 16 = .ok (.getfield 80, 3) := by decide +kernel
theorem dX3_othersThatGet_19 : decode cX3_othersThatGet 19 = .ok (.iload 4, 2) := by decide +kernel
theorem dX3_othersThatGet_21 : decode cX3_othersThatGet 21 = .ok (.bipush 7, 2) := by decide +kernel
theorem dX3_othersThatGet_23 : decode cX3_othersThatGet 23 = .ok (.invokevirtual 138, 3) := by decide +kernel
theorem dX3_othersThatGet_26 : decode cX3_othersThatGet 26 = .ok (.aload_n 0, 1) := by decide +kernel
theorem dX3_othersThatGet_27 : decode cX3_othersThatGet 27 = .ok (.getfield 26, 3) := by decide +kernel
theorem dX3_othersThatGet_30 : decode cX3_othersThatGet 30 = .ok (.iload 4, 2) := by decide +kernel
theorem dX3_othersThatGet_32 : decode cX3_othersThatGet 32 = .ok (.iaload, 1) := by decide +kernel
theorem dX3_othersThatGet_33 : decode cX3_othersThatGet 33 = .ok (.isub, 1) := by decide +kernel
theorem dX3_othersThatGet_34 : decode cX3_othersThatGet 34 = .ok (.istore 5, 2) := by decide +kernel
theorem dX3_othersThatGet_36 : decode cX3_othersThatGet 36 = .ok (.iload 4, 2) := by decide +kernel
theorem dX3_othersThatGet_38 : decode cX3_othersThatGet 38 = .ok (.iload_n 1, 1) := by decide +kernel
theorem dX3_othersThatGet_39 : decode cX3_othersThatGet 39 = .ok (.if_icmp .eq 27, 3) := by decide +kernel
theorem dX3_othersThatGet_42 : decode cX3_othersThatGet 42 = .ok (.iload_n 2, 1) := by decide +kernel
theorem dX3_othersThatGet_43 : decode cX3_othersThatGet 43 = .ok (.ifCond .eq 11, 3) := by decide +kernel
theorem dX3_othersThatGet_46 : decode cX3_othersThatGet 46 = .ok (.iload 5, 2) := by decide +kernel
theorem dX3_othersThatGet_48 : decode cX3_othersThatGet 48 = .ok (.ifCond .le 18, 3) := by decide +kernel
theorem dX3_othersThatGet_51 : decode cX3_othersThatGet 51 = .ok (.goto 8, 3) := by decide +kernel
theorem dX3_othersThatGet_54 : decode cX3_othersThatGet 54 = .ok (.iload 5, 2) := by decide +kernel
theorem dX3_othersThatGet_56 : decode cX3_othersThatGet 56 = .ok (.ifCond .ge 10, 3) := by decide +kernel
theorem dX3_othersThatGet_59 : decode cX3_othersThatGet 59 = .ok (.iload_n 3, 1) := by decide +kernel
theorem dX3_othersThatGet_60 : decode cX3_othersThatGet 60 = .ok (.iconst 1, 1) := by decide +kernel
theorem dX3_othersThatGet_61 : decode cX3_othersThatGet 61 = .ok (.iload 4, 2) := by decide +kernel
theorem dX3_othersThatGet_63 : decode cX3_othersThatGet 63 = .ok (.ishl, 1) := by decide +kernel
theorem dX3_othersThatGet_64 : decode cX3_othersThatGet 64 = .ok (.ior, 1) := by decide +kernel
theorem dX3_othersThatGet_65 : decode cX3_othersThatGet 65 = .ok (.istore_n 3, 1) := by decide +kernel
theorem dX3_othersThatGet_66 : decode cX3_othersThatGet 66 = .ok (.iinc 4 1, 3) := by decide +kernel
theorem dX3_othersThatGet_69 : decode cX3_othersThatGet 69 = .ok (.goto (-64), 3) := by decide +kernel
theorem dX3_othersThatGet_72 : decode cX3_othersThatGet 72 = .ok (.iload_n 3, 1) := by decide +kernel
theorem dX3_othersThatGet_73 : decode cX3_othersThatGet 73 = .ok (.ireturn, 1) := by decide +kernel
