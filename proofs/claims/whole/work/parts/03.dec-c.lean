theorem dX4_reach_14 : decode cX4_reach 14 = .ok (.iconst 0, 1) := by decide +kernel
theorem dX4_reach_15 : decode cX4_reach 15 = .ok (.iconst 2, 1) := by decide +kernel
theorem dX4_reach_16 : decode cX4_reach 16 = .ok (.invokestatic 104, 3) := by decide +kernel
theorem dX4_reach_19 : decode cX4_reach 19 = .ok (.ifCond .ne 7, 3) := by decide +kernel
theorem dX4_reach_22 : decode cX4_reach 22 = .ok (.iconst 2, 1) := by decide +kernel
theorem dX4_reach_23 : decode cX4_reach 23 = .ok (.goto 4, 3) := by decide +kernel
theorem dX4_reach_26 : decode cX4_reach 26 = .ok (.iconst 0, 1) := by decide +kernel
theorem dX4_reach_27 : decode cX4_reach 27 = .ok (.putfield 77, 3) := by decide +kernel
theorem dX4_reach_30 : decode cX4_reach 30 = .ok (.aload_n 0, 1) := by decide +kernel
theorem dX4_reach_31 : decode cX4_reach 31 = .ok (.getfield 77, 3) := by decide +kernel
theorem dX4_reach_34 : decode cX4_reach 34 = .ok (.ifCond .le 7, 3) := by decide +kernel
theorem dX4_reach_37 : decode cX4_reach 37 = .ok (.iconst 0, 1) := by decide +kernel
theorem dX4_reach_38 : decode cX4_reach 38 = .ok (.goto 45, 3) := by decide +kernel
theorem dX4_reach_41 : decode cX4_reach 41 = .ok (.iload_n 2, 1) := by decide +kernel
theorem dX4_reach_42 : decode cX4_reach 42 = .ok (.ifCond .ne 15, 3) := by decide +kernel
theorem dX4_reach_45 : decode cX4_reach 45 = .ok (.aload_n 0, 1) := by decide +kernel
theorem dX4_reach_46 : decode cX4_reach 46 = .ok (.getfield 7, 3) := by decide +kernel
theorem dX4_reach_49 : decode cX4_reach 49 = .ok (.bipush 8, 2) := by decide +kernel
theorem dX4_reach_51 : decode cX4_reach 51 = .ok (.iload_n 1, 1) := by decide +kernel
theorem dX4_reach_52 : decode cX4_reach 52 = .ok (.iadd, 1) := by decide +kernel
theorem dX4_reach_53 : decode cX4_reach 53 = .ok (.iaload, 1) := by decide +kernel
theorem dX4_reach_54 : decode cX4_reach 54 = .ok (.goto 29, 3) := by decide +kernel
theorem dX4_reach_57 : decode cX4_reach 57 = .ok (.iload_n 2, 1) := by decide +kernel
theorem dX4_reach_58 : decode cX4_reach 58 = .ok (.iconst 1, 1) := by decide +kernel
theorem dX4_reach_59 : decode cX4_reach 59 = .ok (.if_icmp .ne 15, 3) := by decide +kernel
theorem dX4_reach_62 : decode cX4_reach 62 = .ok (.aload_n 0, 1) := by decide +kernel
theorem dX4_reach_63 : decode cX4_reach 63 = .ok (.getfield 7, 3) := by decide +kernel
theorem dX4_reach_66 : decode cX4_reach 66 = .ok (.bipush 14, 2) := by decide +kernel
theorem dX4_reach_68 : decode cX4_reach 68 = .ok (.iload_n 1, 1) := by decide +kernel
theorem dX4_reach_69 : decode cX4_reach 69 = .ok (.iadd, 1) := by decide +kernel
theorem dX4_reach_70 : decode cX4_reach 70 = .ok (.iaload, 1) := by decide +kernel
theorem dX4_reach_71 : decode cX4_reach 71 = .ok (.goto 12, 3) := by decide +kernel
theorem dX4_reach_74 : decode cX4_reach 74 = .ok (.aload_n 0, 1) := by decide +kernel
theorem dX4_reach_75 : decode cX4_reach 75 = .ok (.getfield 7, 3) := by decide +kernel
theorem dX4_reach_78 : decode cX4_reach 78 = .ok (.bipush 20, 2) := by decide +kernel
theorem dX4_reach_80 : decode cX4_reach 80 = .ok (.iload_n 1, 1) := by decide +kernel
theorem dX4_reach_81 : decode cX4_reach 81 = .ok (.iadd, 1) := by decide +kernel
theorem dX4_reach_82 : decode cX4_reach 82 = .ok (.iaload, 1) := by decide +kernel
theorem dX4_reach_83 : decode cX4_reach 83 = .ok (.ireturn, 1) := by decide +kernel
theorem dX4_comingTo_0 : decode cX4_comingTo 0 = .ok (.aload_n 0, 1) := by decide +kernel
theorem dX4_comingTo_1 : decode cX4_comingTo 1 = .ok (.getfield 7, 3) := by decide +kernel
theorem dX4_comingTo_4 : decode cX4_comingTo 4 = .ok (.bipush 8, 2) := by decide +kernel
theorem dX4_comingTo_6 : decode cX4_comingTo 6 = .ok (.iload_n 1, 1) := by decide +kernel
theorem dX4_comingTo_7 : decode cX4_comingTo 7 = .ok (.iadd, 1) := by decide +kernel
theorem dX4_comingTo_8 : decode cX4_comingTo 8 = .ok (.iaload, 1) := by decide +kernel
theorem dX4_comingTo_9 : decode cX4_comingTo 9 = .ok (.aload_n 0, 1) := by decide +kernel
theorem dX4_comingTo_10 : decode cX4_comingTo 10 = .ok (.getfield 7, 3) := by decide +kernel
theorem dX4_comingTo_13 : decode cX4_comingTo 13 = .ok (.bipush 36, 2) := by decide +kernel
theorem dX4_comingTo_15 : decode cX4_comingTo 15 = .ok (.aload_n 0, 1) := by decide +kernel
theorem dX4_comingTo_16 : decode cX4_comingTo 16 = .ok (.getfield 7, 3) := by decide +kernel
theorem dX4_comingTo_19 : decode cX4_comingTo 19 = .ok (.iconst 5, 1) := by decide +kernel
theorem dX4_comingTo_20 : decode cX4_comingTo 20 = .ok (.iaload, 1) := by decide +kernel
theorem dX4_comingTo_21 : decode cX4_comingTo 21 = .ok (.bipush 12, 2) := by decide +kernel
theorem dX4_comingTo_23 : decode cX4_comingTo 23 = .ok (.irem, 1) := by decide +kernel
theorem dX4_comingTo_24 : decode cX4_comingTo 24 = .ok (.iadd, 1) := by decide +kernel
theorem dX4_comingTo_25 : decode cX4_comingTo 25 = .ok (.iaload, 1) := by decide +kernel
theorem dX4_comingTo_26 : decode cX4_comingTo 26 = .ok (.imul, 1) := by decide +kernel
theorem dX4_comingTo_27 : decode cX4_comingTo 27 = .ok (.bipush 100, 2) := by decide +kernel
theorem dX4_comingTo_29 : decode cX4_comingTo 29 = .ok (.idiv, 1) := by decide +kernel
theorem dX4_comingTo_30 : decode cX4_comingTo 30 = .ok (.istore_n 2, 1) := by decide +kernel
theorem dX4_comingTo_31 : decode cX4_comingTo 31 = .ok (.iload_n 2, 1) := by decide +kernel
theorem dX4_comingTo_32 : decode cX4_comingTo 32 = .ok (.aload_n 0, 1) := by decide +kernel
theorem dX4_comingTo_33 : decode cX4_comingTo 33 = .ok (.aload_n 0, 1) := by decide +kernel
theorem dX4_comingTo_34 : decode cX4_comingTo 34 = .ok (.getfield 7, 3) := by decide +kernel
theorem dX4_comingTo_37 : decode cX4_comingTo 37 = .ok (.iconst 5, 1) := by decide +kernel
theorem dX4_comingTo_38 : decode cX4_comingTo 38 = .ok (.iaload, 1) := by decide +kernel
theorem dX4_comingTo_39 : decode cX4_comingTo 39 = .ok (.bipush 12, 2) := by decide +kernel
theorem dX4_comingTo_41 : decode cX4_comingTo 41 = .ok (.idiv, 1) := by decide +kernel
theorem dX4_comingTo_42 : decode cX4_comingTo 42 = .ok (.invokevirtual 200, 3) := by decide +kernel
theorem dX4_comingTo_45 : decode cX4_comingTo 45 = .ok (.imul, 1) := by decide +kernel
theorem dX4_comingTo_46 : decode cX4_comingTo 46 = .ok (.bipush 100, 2) := by decide +kernel
theorem dX4_comingTo_48 : decode cX4_comingTo 48 = .ok (.idiv, 1) := by decide +kernel
theorem dX4_comingTo_49 : decode cX4_comingTo 49 = .ok (.aload_n 0, 1) := by decide +kernel
theorem dX4_comingTo_50 : decode cX4_comingTo 50 = .ok (.getfield 7, 3) := by decide +kernel
theorem dX4_comingTo_53 : decode cX4_comingTo 53 = .ok (.bipush 20, 2) := by decide +kernel
theorem dX4_comingTo_55 : decode cX4_comingTo 55 = .ok (.iload_n 1, 1) := by decide +kernel
theorem dX4_comingTo_56 : decode cX4_comingTo 56 = .ok (.iadd, 1) := by decide +kernel
theorem dX4_comingTo_57 : decode cX4_comingTo 57 = .ok (.iaload, 1) := by decide +kernel
theorem dX4_comingTo_58 : decode cX4_comingTo 58 = .ok (.iadd, 1) := by decide +kernel
theorem dX4_comingTo_59 : decode cX4_comingTo 59 = .ok (.ireturn, 1) := by decide +kernel
theorem dX4_coming_0 : decode cX4_coming 0 = .ok (.aload_n 0, 1) := by decide +kernel
theorem dX4_coming_1 : decode cX4_coming 1 = .ok (.aload_n 0, 1) := by decide +kernel
theorem dX4_coming_2 : decode cX4_coming 2 = .ok (.iload_n 1, 1) := by decide +kernel
theorem dX4_coming_3 : decode cX4_coming 3 = .ok (.invokevirtual 203, 3) := by decide +kernel
theorem dX4_coming_6 : decode cX4_coming 6 = .ok (.ifCond .eq 7, 3) := by decide +kernel
theorem dX4_coming_9 : decode cX4_coming 9 = .ok (.iconst 0, 1) := by decide +kernel
theorem dX4_coming_10 : decode cX4_coming 10 = .ok (.goto 4, 3) := by decide +kernel
theorem dX4_coming_13 : decode cX4_coming 13 = .ok (.iconst 1, 1) := by decide +kernel
theorem dX4_coming_14 : decode cX4_coming 14 = .ok (.putfield 77, 3) := by decide +kernel
theorem dX4_coming_17 : decode cX4_coming 17 = .ok (.aload_n 0, 1) := by decide +kernel
theorem dX4_coming_18 : decode cX4_coming 18 = .ok (.getfield 77, 3) := by decide +kernel
theorem dX4_coming_21 : decode cX4_coming 21 = .ok (.ifCond .le 7, 3) := by decide +kernel
theorem dX4_coming_24 : decode cX4_coming 24 = .ok (.iconst 0, 1) := by decide +kernel
theorem dX4_coming_25 : decode cX4_coming 25 = .ok (.goto 8, 3) := by decide +kernel
theorem dX4_coming_28 : decode cX4_coming 28 = .ok (.aload_n 0, 1) := by decide +kernel
theorem dX4_coming_29 : decode cX4_coming 29 = .ok (.iload_n 1, 1) := by decide +kernel
theorem dX4_coming_30 : decode cX4_coming 30 = .ok (.invokevirtual 207, 3) := by decide +kernel
theorem dX4_coming_33 : decode cX4_coming 33 = .ok (.ireturn, 1) := by decide +kernel
theorem dX4_balance_0 : decode cX4_balance 0 = .ok (.aload_n 0, 1) := by decide +kernel
theorem dX4_balance_1 : decode cX4_balance 1 = .ok (.aload_n 0, 1) := by decide +kernel
theorem dX4_balance_2 : decode cX4_balance 2 = .ok (.iload_n 1, 1) := by decide +kernel
theorem dX4_balance_3 : decode cX4_balance 3 = .ok (.invokevirtual 210, 3) := by decide +kernel
theorem dX4_balance_6 : decode cX4_balance 6 = .ok (.ifCond .eq 7, 3) := by decide +kernel
theorem dX4_balance_9 : decode cX4_balance 9 = .ok (.iconst 0, 1) := by decide +kernel
theorem dX4_balance_10 : decode cX4_balance 10 = .ok (.goto 4, 3) := by decide +kernel
theorem dX4_balance_13 : decode cX4_balance 13 = .ok (.iconst 1, 1) := by decide +kernel
theorem dX4_balance_14 : decode cX4_balance 14 = .ok (.putfield 77, 3) := by decide +kernel
theorem dX4_balance_17 : decode cX4_balance 17 = .ok (.aload_n 0, 1) := by decide +kernel
theorem dX4_balance_18 : decode cX4_balance 18 = .ok (.getfield 77, 3) := by decide +kernel
theorem dX4_balance_21 : decode cX4_balance 21 = .ok (.ifCond .le 7, 3) := by decide +kernel
theorem dX4_balance_24 : decode cX4_balance 24 = .ok (.lconst 0, 1) := by decide +kernel
theorem dX4_balance_25 : decode cX4_balance 25 = .ok (.goto 9, 3) := by decide +kernel
theorem dX4_balance_28 : decode cX4_balance 28 = .ok (.aload_n 0, 1) := by decide +kernel
theorem dX4_balance_29 : decode cX4_balance 29 = .ok (.getfield 22, 3) := by decide +kernel
theorem dX4_balance_32 : decode cX4_balance 32 = .ok (.iload_n 1, 1) := by decide +kernel
theorem dX4_balance_33 : decode cX4_balance 33 = .ok (.laload, 1) := by decide +kernel
theorem dX4_balance_34 : decode cX4_balance 34 = .ok (.lreturn, 1) := by decide +kernel
theorem dX4_bank_0 : decode cX4_bank 0 = .ok (.aload_n 0, 1) := by decide +kernel
theorem dX4_bank_1 : decode cX4_bank 1 = .ok (.aload_n 0, 1) := by decide +kernel
theorem dX4_bank_2 : decode cX4_bank 2 = .ok (.iload_n 1, 1) := by decide +kernel
theorem dX4_bank_3 : decode cX4_bank 3 = .ok (.invokevirtual 210, 3) := by decide +kernel
theorem dX4_bank_6 : decode cX4_bank 6 = .ok (.ifCond .eq 7, 3) := by decide +kernel
theorem dX4_bank_9 : decode cX4_bank 9 = .ok (.iconst 0, 1) := by decide +kernel
theorem dX4_bank_10 : decode cX4_bank 10 = .ok (.goto 4, 3) := by decide +kernel
theorem dX4_bank_13 : decode cX4_bank 13 = .ok (.iconst 1, 1) := by decide +kernel
theorem dX4_bank_14 : decode cX4_bank 14 = .ok (.putfield 77, 3) := by decide +kernel
theorem dX4_bank_17 : decode cX4_bank 17 = .ok (.aload_n 0, 1) := by decide +kernel
theorem dX4_bank_18 : decode cX4_bank 18 = .ok (.getfield 77, 3) := by decide +kernel
theorem dX4_bank_21 : decode cX4_bank 21 = .ok (.ifCond .le 7, 3) := by decide +kernel
theorem dX4_bank_24 : decode cX4_bank 24 = .ok (.iconst 0, 1) := by decide +kernel
theorem dX4_bank_25 : decode cX4_bank 25 = .ok (.goto 12, 3) := by decide +kernel
theorem dX4_bank_28 : decode cX4_bank 28 = .ok (.aload_n 0, 1) := by decide +kernel
theorem dX4_bank_29 : decode cX4_bank 29 = .ok (.getfield 7, 3) := by decide +kernel
theorem dX4_bank_32 : decode cX4_bank 32 = .ok (.bipush 26, 2) := by decide +kernel
theorem dX4_bank_34 : decode cX4_bank 34 = .ok (.iload_n 1, 1) := by decide +kernel
theorem dX4_bank_35 : decode cX4_bank 35 = .ok (.iadd, 1) := by decide +kernel
theorem dX4_bank_36 : decode cX4_bank 36 = .ok (.iaload, 1) := by decide +kernel
theorem dX4_bank_37 : decode cX4_bank 37 = .ok (.ireturn, 1) := by decide +kernel
theorem dX4_right_0 : decode cX4_right 0 = .ok (.aload_n 0, 1) := by decide +kernel
theorem dX4_right_1 : decode cX4_right 1 = .ok (.aload_n 0, 1) := by decide +kernel
theorem dX4_right_2 : decode cX4_right 2 = .ok (.iload_n 1, 1) := by decide +kernel
theorem dX4_right_3 : decode cX4_right 3 = .ok (.invokevirtual 213, 3) := by decide +kernel
theorem dX4_right_6 : decode cX4_right 6 = .ok (.ifCond .ne 7, 3) := by decide +kernel
theorem dX4_right_9 : decode cX4_right 9 = .ok (.iconst 1, 1) := by decide +kernel
theorem dX4_right_10 : decode cX4_right 10 = .ok (.goto 18, 3) := by decide +kernel
theorem dX4_right_13 : decode cX4_right 13 = .ok (.iload_n 2, 1) := by decide +kernel
theorem dX4_right_14 : decode cX4_right 14 = .ok (.iconst 0, 1) := by decide +kernel
theorem dX4_right_15 : decode cX4_right 15 = .ok (.bipush 9, 2) := by decide +kernel
theorem dX4_right_17 : decode cX4_right 17 = .ok (.invokestatic 104, 3) := by decide +kernel
theorem dX4_right_20 : decode cX4_right 20 = .ok (.ifCond .ne 7, 3) := by decide +kernel
theorem dX4_right_23 : decode cX4_right 23 = .ok (.iconst 2, 1) := by decide +kernel
theorem dX4_right_24 : decode cX4_right 24 = .ok (.goto 4, 3) := by decide +kernel
theorem dX4_right_27 : decode cX4_right 27 = .ok (.iconst 0, 1) := by decide +kernel
theorem dX4_right_28 : decode cX4_right 28 = .ok (.putfield 77, 3) := by decide +kernel
theorem dX4_right_31 : decode cX4_right 31 = .ok (.aload_n 0, 1) := by decide +kernel
theorem dX4_right_32 : decode cX4_right 32 = .ok (.getfield 77, 3) := by decide +kernel
theorem dX4_right_35 : decode cX4_right 35 = .ok (.ifCond .le 7, 3) := by decide +kernel
theorem dX4_right_38 : decode cX4_right 38 = .ok (.iconst 0, 1) := by decide +kernel
theorem dX4_right_39 : decode cX4_right 39 = .ok (.goto 9, 3) := by decide +kernel
theorem dX4_right_42 : decode cX4_right 42 = .ok (.aload_n 0, 1) := by decide +kernel
theorem dX4_right_43 : decode cX4_right 43 = .ok (.iload_n 1, 1) := by decide +kernel
theorem dX4_right_44 : decode cX4_right 44 = .ok (.iload_n 2, 1) := by decide +kernel
theorem dX4_right_45 : decode cX4_right 45 = .ok (.invokevirtual 216, 3) := by decide +kernel
theorem dX4_right_48 : decode cX4_right 48 = .ok (.ireturn, 1) := by decide +kernel
theorem dX4_seniorAt_0 : decode cX4_seniorAt 0 = .ok (.iconst 0, 1) := by decide +kernel
theorem dX4_seniorAt_1 : decode cX4_seniorAt 1 = .ok (.istore_n 2, 1) := by decide +kernel
theorem dX4_seniorAt_2 : decode cX4_seniorAt 2 = .ok (.iload_n 2, 1) := by decide +kernel
theorem dX4_seniorAt_3 : decode cX4_seniorAt 3 = .ok (.aload_n 0, 1) := by decide +kernel
theorem dX4_seniorAt_4 : decode cX4_seniorAt 4 = .ok (.getfield 7, 3) := by decide +kernel
theorem dX4_seniorAt_7 : decode cX4_seniorAt 7 = .ok (.iconst 2, 1) := by decide +kernel
theorem dX4_seniorAt_8 : decode cX4_seniorAt 8 = .ok (.iaload, 1) := by decide +kernel
theorem dX4_seniorAt_9 : decode cX4_seniorAt 9 = .ok (.if_icmp .ge 62, 3) := by decide +kernel
theorem dX4_seniorAt_12 : decode cX4_seniorAt 12 = .ok (.iconst 0, 1) := by decide +kernel
theorem dX4_seniorAt_13 : decode cX4_seniorAt 13 = .ok (.istore_n 3, 1) := by decide +kernel
theorem dX4_seniorAt_14 : decode cX4_seniorAt 14 = .ok (.iconst 0, 1) := by decide +kernel
theorem dX4_seniorAt_15 : decode cX4_seniorAt 15 = .ok (.istore 4, 2) := by decide +kernel
theorem dX4_seniorAt_17 : decode cX4_seniorAt 17 = .ok (.iload 4, 2) := by decide +kernel
theorem dX4_seniorAt_19 : decode cX4_seniorAt 19 = .ok (.aload_n 0, 1) := by decide +kernel
theorem dX4_seniorAt_20 : decode cX4_seniorAt 20 = .ok (.getfield 7, 3) := by decide +kernel
theorem dX4_seniorAt_23 : decode cX4_seniorAt 23 = .ok (.iconst 2, 1) := by decide +kernel
theorem dX4_seniorAt_24 : decode cX4_seniorAt 24 = .ok (.iaload, 1) := by decide +kernel
theorem dX4_seniorAt_25 : decode cX4_seniorAt 25 = .ok (.if_icmp .ge 33, 3) := by decide +kernel
theorem dX4_seniorAt_28 : decode cX4_seniorAt 28 = .ok (.iload_n 3, 1) := by decide +kernel
theorem dX4_seniorAt_29 : decode cX4_seniorAt 29 = .ok (.aload_n 0, 1) := by decide +kernel
theorem dX4_seniorAt_30 : decode cX4_seniorAt 30 = .ok (.iload 4, 2) := by decide +kernel
theorem dX4_seniorAt_32 : decode cX4_seniorAt 32 = .ok (.iconst 2, 1) := by decide +kernel
theorem dX4_seniorAt_33 : decode cX4_seniorAt 33 = .ok (.invokevirtual 216, 3) := by decide +kernel
theorem dX4_seniorAt_36 : decode cX4_seniorAt 36 = .ok (.aload_n 0, 1) := by decide +kernel
theorem dX4_seniorAt_37 : decode cX4_seniorAt 37 = .ok (.iload_n 2, 1) := by decide +kernel
theorem dX4_seniorAt_38 : decode cX4_seniorAt 38 = .ok (.iconst 2, 1) := by decide +kernel
theorem dX4_seniorAt_39 : decode cX4_seniorAt 39 = .ok (.invokevirtual 216, 3) := by decide +kernel
theorem dX4_seniorAt_42 : decode cX4_seniorAt 42 = .ok (.if_icmp .ge 7, 3) := by decide +kernel
theorem dX4_seniorAt_45 : decode cX4_seniorAt 45 = .ok (.iconst 1, 1) := by decide +kernel
theorem dX4_seniorAt_46 : decode cX4_seniorAt 46 = .ok (.goto 4, 3) := by decide +kernel
theorem dX4_seniorAt_49 : decode cX4_seniorAt 49 = .ok (.iconst 0, 1) := by decide +kernel
theorem dX4_seniorAt_50 : decode cX4_seniorAt 50 = .ok (.iadd, 1) := by decide +kernel
theorem dX4_seniorAt_51 : decode cX4_seniorAt 51 = .ok (.istore_n 3, 1) := by decide +kernel
theorem dX4_seniorAt_52 : decode cX4_seniorAt 52 = .ok (.iinc 4 1, 3) := by decide +kernel
theorem dX4_seniorAt_55 : decode cX4_seniorAt 55 = .ok (.goto (-38), 3) := by decide +kernel
theorem dX4_seniorAt_58 : decode cX4_seniorAt 58 = .ok (.iload_n 3, 1) := by decide +kernel
theorem dX4_seniorAt_59 : decode cX4_seniorAt 59 = .ok (.iload_n 1, 1) := by decide +kernel
theorem dX4_seniorAt_60 : decode cX4_seniorAt 60 = .ok (.if_icmp .ne 5, 3) := by decide +kernel
theorem dX4_seniorAt_63 : decode cX4_seniorAt 63 = .ok (.iload_n 2, 1) := by decide +kernel
theorem dX4_seniorAt_64 : decode cX4_seniorAt 64 = .ok (.ireturn, 1) := by decide +kernel
theorem dX4_seniorAt_65 : decode cX4_seniorAt 65 = .ok (.iinc 2 1, 3) := by decide +kernel
theorem dX4_seniorAt_68 : decode cX4_seniorAt 68 = .ok (.goto (-66), 3) := by decide +kernel
theorem dX4_seniorAt_71 : decode cX4_seniorAt 71 = .ok (.iconst (-1), 1) := by decide +kernel
theorem dX4_seniorAt_72 : decode cX4_seniorAt 72 = .ok (.ireturn, 1) := by decide +kernel
theorem dX4_bySeniority_0 : decode cX4_bySeniority 0 = .ok (.aload_n 0, 1) := by decide +kernel
theorem dX4_bySeniority_1 : decode cX4_bySeniority 1 = .ok (.iconst 0, 1) := by decide +kernel
theorem dX4_bySeniority_2 : decode cX4_bySeniority 2 = .ok (.putfield 77, 3) := by decide +kernel
theorem dX4_bySeniority_5 : decode cX4_bySeniority 5 = .ok (.aload_n 0, 1) := by decide +kernel
theorem dX4_bySeniority_6 : decode cX4_bySeniority 6 = .ok (.iload_n 1, 1) := by decide +kernel
theorem dX4_bySeniority_7 : decode cX4_bySeniority 7 = .ok (.invokevirtual 219, 3) := by decide +kernel
theorem dX4_bySeniority_10 : decode cX4_bySeniority 10 = .ok (.ireturn, 1) := by decide +kernel
theorem dX4_leaseField_0 : decode cX4_leaseField 0 = .ok (.aload_n 0, 1) := by decide +kernel
theorem dX4_leaseField_1 : decode cX4_leaseField 1 = .ok (.aload_n 0, 1) := by decide +kernel
theorem dX4_leaseField_2 : decode cX4_leaseField 2 = .ok (.iload_n 1, 1) := by decide +kernel
theorem dX4_leaseField_3 : decode cX4_leaseField 3 = .ok (.invokevirtual 222, 3) := by decide +kernel
theorem dX4_leaseField_6 : decode cX4_leaseField 6 = .ok (.ifCond .ne 7, 3) := by decide +kernel
theorem dX4_leaseField_9 : decode cX4_leaseField 9 = .ok (.iconst 1, 1) := by decide +kernel
theorem dX4_leaseField_10 : decode cX4_leaseField 10 = .ok (.goto 17, 3) := by decide +kernel
theorem dX4_leaseField_13 : decode cX4_leaseField 13 = .ok (.iload_n 2, 1) := by decide +kernel
theorem dX4_leaseField_14 : decode cX4_leaseField 14 = .ok (.iconst 0, 1) := by decide +kernel
theorem dX4_leaseField_15 : decode cX4_leaseField 15 = .ok (.iconst 5, 1) := by decide +kernel
theorem dX4_leaseField_16 : decode cX4_leaseField 16 = .ok (.invokestatic 104, 3) := by decide +kernel
theorem dX4_leaseField_19 : decode cX4_leaseField 19 = .ok (.ifCond .ne 7, 3) := by decide +kernel
theorem dX4_leaseField_22 : decode cX4_leaseField 22 = .ok (.iconst 2, 1) := by decide +kernel
theorem dX4_leaseField_23 : decode cX4_leaseField 23 = .ok (.goto 4, 3) := by decide +kernel
theorem dX4_leaseField_26 : decode cX4_leaseField 26 = .ok (.iconst 0, 1) := by decide +kernel
theorem dX4_leaseField_27 : decode cX4_leaseField 27 = .ok (.putfield 77, 3) := by decide +kernel
theorem dX4_leaseField_30 : decode cX4_leaseField 30 = .ok (.aload_n 0, 1) := by decide +kernel
theorem dX4_leaseField_31 : decode cX4_leaseField 31 = .ok (.getfield 77, 3) := by decide +kernel
theorem dX4_leaseField_34 : decode cX4_leaseField 34 = .ok (.ifCond .le 7, 3) := by decide +kernel
theorem dX4_leaseField_37 : decode cX4_leaseField 37 = .ok (.iconst 0, 1) := by decide +kernel
theorem dX4_leaseField_38 : decode cX4_leaseField 38 = .ok (.goto 9, 3) := by decide +kernel
theorem dX4_leaseField_41 : decode cX4_leaseField 41 = .ok (.aload_n 0, 1) := by decide +kernel
theorem dX4_leaseField_42 : decode cX4_leaseField 42 = .ok (.iload_n 1, 1) := by decide +kernel
theorem dX4_leaseField_43 : decode cX4_leaseField 43 = .ok (.iload_n 2, 1) := by decide +kernel
theorem dX4_leaseField_44 : decode cX4_leaseField 44 = .ok (.invokevirtual 225, 3) := by decide +kernel
theorem dX4_leaseField_47 : decode cX4_leaseField 47 = .ok (.ireturn, 1) := by decide +kernel
theorem dX4_isExercised_0 : decode cX4_isExercised 0 = .ok (.aload_n 0, 1) := by decide +kernel
theorem dX4_isExercised_1 : decode cX4_isExercised 1 = .ok (.aload_n 0, 1) := by decide +kernel
theorem dX4_isExercised_2 : decode cX4_isExercised 2 = .ok (.getfield 7, 3) := by decide +kernel
theorem dX4_isExercised_5 : decode cX4_isExercised 5 = .ok (.iconst 5, 1) := by decide +kernel
theorem dX4_isExercised_6 : decode cX4_isExercised 6 = .ok (.iaload, 1) := by decide +kernel
theorem dX4_isExercised_7 : decode cX4_isExercised 7 = .ok (.iload_n 2, 1) := by decide +kernel
theorem dX4_isExercised_8 : decode cX4_isExercised 8 = .ok (.iadd, 1) := by decide +kernel
theorem dX4_isExercised_9 : decode cX4_isExercised 9 = .ok (.bipush 12, 2) := by decide +kernel
theorem dX4_isExercised_11 : decode cX4_isExercised 11 = .ok (.idiv, 1) := by decide +kernel
theorem dX4_isExercised_12 : decode cX4_isExercised 12 = .ok (.invokevirtual 200, 3) := by decide +kernel
theorem dX4_isExercised_15 : decode cX4_isExercised 15 = .ok (.aload_n 0, 1) := by decide +kernel
theorem dX4_isExercised_16 : decode cX4_isExercised 16 = .ok (.iload_n 1, 1) := by decide +kernel
theorem dX4_isExercised_17 : decode cX4_isExercised 17 = .ok (.iconst 3, 1) := by decide +kernel
theorem dX4_isExercised_18 : decode cX4_isExercised 18 = .ok (.invokevirtual 228, 3) := by decide +kernel
theorem dX4_isExercised_21 : decode cX4_isExercised 21 = .ok (.if_icmp .ge 7, 3) := by decide +kernel
theorem dX4_isExercised_24 : decode cX4_isExercised 24 = .ok (.iconst 1, 1) := by decide +kernel
theorem dX4_isExercised_25 : decode cX4_isExercised 25 = .ok (.goto 4, 3) := by decide +kernel
theorem dX4_isExercised_28 : decode cX4_isExercised 28 = .ok (.iconst 0, 1) := by decide +kernel
theorem dX4_isExercised_29 : decode cX4_isExercised 29 = .ok (.ireturn, 1) := by decide +kernel
theorem dX4_optionField_0 : decode cX4_optionField 0 = .ok (.aload_n 0, 1) := by decide +kernel
theorem dX4_optionField_1 : decode cX4_optionField 1 = .ok (.iload_n 1, 1) := by decide +kernel
theorem dX4_optionField_2 : decode cX4_optionField 2 = .ok (.iconst 0, 1) := by decide +kernel
theorem dX4_optionField_3 : decode cX4_optionField 3 = .ok (.aload_n 0, 1) := by decide +kernel
theorem dX4_optionField_4 : decode cX4_optionField 4 = .ok (.getfield 7, 3) := by decide +kernel
theorem dX4_optionField_7 : decode cX4_optionField 7 = .ok (.iconst 4, 1) := by decide +kernel
theorem dX4_optionField_8 : decode cX4_optionField 8 = .ok (.iaload, 1) := by decide +kernel
theorem dX4_optionField_9 : decode cX4_optionField 9 = .ok (.iconst 1, 1) := by decide +kernel
theorem dX4_optionField_10 : decode cX4_optionField 10 = .ok (.isub, 1) := by decide +kernel
theorem dX4_optionField_11 : decode cX4_optionField 11 = .ok (.invokestatic 104, 3) := by decide +kernel
theorem dX4_optionField_14 : decode cX4_optionField 14 = .ok (.ifCond .ne 7, 3) := by decide +kernel
theorem dX4_optionField_17 : decode cX4_optionField 17 = .ok (.iconst 1, 1) := by decide +kernel
theorem dX4_optionField_18 : decode cX4_optionField 18 = .ok (.goto 18, 3) := by decide +kernel
theorem dX4_optionField_21 : decode cX4_optionField 21 = .ok (.iload_n 2, 1) := by decide +kernel
theorem dX4_optionField_22 : decode cX4_optionField 22 = .ok (.iconst 0, 1) := by decide +kernel
theorem dX4_optionField_23 : decode cX4_optionField 23 = .ok (.bipush 6, 2) := by decide +kernel
theorem dX4_optionField_25 : decode cX4_optionField 25 = .ok (.invokestatic 104, 3) := by decide +kernel
theorem dX4_optionField_28 : decode cX4_optionField 28 = .ok (.ifCond .ne 7, 3) := by decide +kernel
theorem dX4_optionField_31 : decode cX4_optionField 31 = .ok (.iconst 2, 1) := by decide +kernel
theorem dX4_optionField_32 : decode cX4_optionField 32 = .ok (.goto 4, 3) := by decide +kernel
theorem dX4_optionField_35 : decode cX4_optionField 35 = .ok (.iconst 0, 1) := by decide +kernel
theorem dX4_optionField_36 : decode cX4_optionField 36 = .ok (.putfield 77, 3) := by decide +kernel
theorem dX4_optionField_39 : decode cX4_optionField 39 = .ok (.aload_n 0, 1) := by decide +kernel
theorem dX4_optionField_40 : decode cX4_optionField 40 = .ok (.getfield 77, 3) := by decide +kernel
theorem dX4_optionField_43 : decode cX4_optionField 43 = .ok (.ifCond .le 7, 3) := by decide +kernel
theorem dX4_optionField_46 : decode cX4_optionField 46 = .ok (.iconst 0, 1) := by decide +kernel
theorem dX4_optionField_47 : decode cX4_optionField 47 = .ok (.goto 32, 3) := by decide +kernel
theorem dX4_optionField_50 : decode cX4_optionField 50 = .ok (.iload_n 2, 1) := by decide +kernel
theorem dX4_optionField_51 : decode cX4_optionField 51 = .ok (.bipush 6, 2) := by decide +kernel
theorem dX4_optionField_53 : decode cX4_optionField 53 = .ok (.if_icmp .ge 12, 3) := by decide +kernel
theorem dX4_optionField_56 : decode cX4_optionField 56 = .ok (.aload_n 0, 1) := by decide +kernel
theorem dX4_optionField_57 : decode cX4_optionField 57 = .ok (.iload_n 1, 1) := by decide +kernel
theorem dX4_optionField_58 : decode cX4_optionField 58 = .ok (.iload_n 2, 1) := by decide +kernel
theorem dX4_optionField_59 : decode cX4_optionField 59 = .ok (.invokevirtual 228, 3) := by decide +kernel
theorem dX4_optionField_62 : decode cX4_optionField 62 = .ok (.goto 17, 3) := by decide +kernel
theorem dX4_optionField_65 : decode cX4_optionField 65 = .ok (.aload_n 0, 1) := by decide +kernel
theorem dX4_optionField_66 : decode cX4_optionField 66 = .ok (.iload_n 1, 1) := by decide +kernel
theorem dX4_optionField_67 : decode cX4_optionField 67 = .ok (.iconst 0, 1) := by decide +kernel
theorem dX4_optionField_68 : decode cX4_optionField 68 = .ok (.invokevirtual 231, 3) := by decide +kernel
theorem dX4_optionField_71 : decode cX4_optionField 71 = .ok (.ifCond .eq 7, 3) := by decide +kernel
theorem dX4_optionField_74 : decode cX4_optionField 74 = .ok (.iconst 1, 1) := by decide +kernel
theorem dX4_optionField_75 : decode cX4_optionField 75 = .ok (.goto 4, 3) := by decide +kernel
theorem dX4_optionField_78 : decode cX4_optionField 78 = .ok (.iconst 0, 1) := by decide +kernel
theorem dX4_optionField_79 : decode cX4_optionField 79 = .ok (.ireturn, 1) := by decide +kernel
theorem dX4_gaugeOf_0 : decode cX4_gaugeOf 0 = .ok (.aload_n 0, 1) := by decide +kernel
theorem dX4_gaugeOf_1 : decode cX4_gaugeOf 1 = .ok (.getfield 7, 3) := by decide +kernel
theorem dX4_gaugeOf_4 : decode cX4_gaugeOf 4 = .ok (.sipush 394, 3) := by decide +kernel
theorem dX4_gaugeOf_7 : decode cX4_gaugeOf 7 = .ok (.iconst 5, 1) := by decide +kernel
theorem dX4_gaugeOf_8 : decode cX4_gaugeOf 8 = .ok (.iload_n 1, 1) := by decide +kernel
theorem dX4_gaugeOf_9 : decode cX4_gaugeOf 9 = .ok (.imul, 1) := by decide +kernel
theorem dX4_gaugeOf_10 : decode cX4_gaugeOf 10 = .ok (.iadd, 1) := by decide +kernel
theorem dX4_gaugeOf_11 : decode cX4_gaugeOf 11 = .ok (.iload_n 2, 1) := by decide +kernel
theorem dX4_gaugeOf_12 : decode cX4_gaugeOf 12 = .ok (.iadd, 1) := by decide +kernel
theorem dX4_gaugeOf_13 : decode cX4_gaugeOf 13 = .ok (.iaload, 1) := by decide +kernel
theorem dX4_gaugeOf_14 : decode cX4_gaugeOf 14 = .ok (.ireturn, 1) := by decide +kernel
theorem dX4_laysFlows_0 : decode cX4_laysFlows 0 = .ok (.iconst 0, 1) := by decide +kernel
theorem dX4_laysFlows_1 : decode cX4_laysFlows 1 = .ok (.istore_n 1, 1) := by decide +kernel
theorem dX4_laysFlows_2 : decode cX4_laysFlows 2 = .ok (.iconst 0, 1) := by decide +kernel
theorem dX4_laysFlows_3 : decode cX4_laysFlows 3 = .ok (.istore_n 2, 1) := by decide +kernel
theorem dX4_laysFlows_4 : decode cX4_laysFlows 4 = .ok (.iload_n 2, 1) := by decide +kernel
theorem dX4_laysFlows_5 : decode cX4_laysFlows 5 = .ok (.aload_n 0, 1) := by decide +kernel
theorem dX4_laysFlows_6 : decode cX4_laysFlows 6 = .ok (.getfield 7, 3) := by decide +kernel
theorem dX4_laysFlows_9 : decode cX4_laysFlows 9 = .ok (.iconst 0, 1) := by decide +kernel
theorem dX4_laysFlows_10 : decode cX4_laysFlows 10 = .ok (.iaload, 1) := by decide +kernel
theorem dX4_laysFlows_11 : decode cX4_laysFlows 11 = .ok (.if_icmp .ge 84, 3) := by decide +kernel
theorem dX4_laysFlows_14 : decode cX4_laysFlows 14 = .ok (.aload_n 0, 1) := by decide +kernel
theorem dX4_laysFlows_15 : decode cX4_laysFlows 15 = .ok (.iload_n 2, 1) := by decide +kernel
theorem dX4_laysFlows_16 : decode cX4_laysFlows 16 = .ok (.invokevirtual 207, 3) := by decide +kernel
theorem dX4_laysFlows_19 : decode cX4_laysFlows 19 = .ok (.istore_n 3, 1) := by decide +kernel
theorem dX4_laysFlows_20 : decode cX4_laysFlows 20 = .ok (.iload_n 1, 1) := by decide +kernel
theorem dX4_laysFlows_21 : decode cX4_laysFlows 21 = .ok (.iload_n 3, 1) := by decide +kernel
theorem dX4_laysFlows_22 : decode cX4_laysFlows 22 = .ok (.iadd, 1) := by decide +kernel
theorem dX4_laysFlows_23 : decode cX4_laysFlows 23 = .ok (.istore_n 1, 1) := by decide +kernel
theorem dX4_laysFlows_24 : decode cX4_laysFlows 24 = .ok (.aload_n 0, 1) := by decide +kernel
theorem dX4_laysFlows_25 : decode cX4_laysFlows 25 = .ok (.getfield 50, 3) := by decide +kernel
theorem dX4_laysFlows_28 : decode cX4_laysFlows 28 = .ok (.iload_n 2, 1) := by decide +kernel
theorem dX4_laysFlows_29 : decode cX4_laysFlows 29 = .ok (.iload_n 1, 1) := by decide +kernel
theorem dX4_laysFlows_30 : decode cX4_laysFlows 30 = .ok (.iastore, 1) := by decide +kernel
theorem dX4_laysFlows_31 : decode cX4_laysFlows 31 = .ok (.aload_n 0, 1) := by decide +kernel
theorem dX4_laysFlows_32 : decode cX4_laysFlows 32 = .ok (.getfield 7, 3) := by decide +kernel
theorem dX4_laysFlows_35 : decode cX4_laysFlows 35 = .ok (.sipush 394, 3) := by decide +kernel
theorem dX4_laysFlows_38 : decode cX4_laysFlows 38 = .ok (.iconst 5, 1) := by decide +kernel
theorem dX4_laysFlows_39 : decode cX4_laysFlows 39 = .ok (.iload_n 2, 1) := by decide +kernel
theorem dX4_laysFlows_40 : decode cX4_laysFlows 40 = .ok (.imul, 1) := by decide +kernel
theorem dX4_laysFlows_41 : decode cX4_laysFlows 41 = .ok (.iadd, 1) := by decide +kernel
theorem dX4_laysFlows_42 : decode cX4_laysFlows 42 = .ok (.iload_n 3, 1) := by decide +kernel
theorem dX4_laysFlows_43 : decode cX4_laysFlows 43 = .ok (.iastore, 1) := by decide +kernel
theorem dX4_laysFlows_44 : decode cX4_laysFlows 44 = .ok (.aload_n 0, 1) := by decide +kernel
theorem dX4_laysFlows_45 : decode cX4_laysFlows 45 = .ok (.getfield 7, 3) := by decide +kernel
theorem dX4_laysFlows_48 : decode cX4_laysFlows 48 = .ok (.sipush 394, 3) := by decide +kernel
theorem dX4_laysFlows_51 : decode cX4_laysFlows 51 = .ok (.iconst 5, 1) := by decide +kernel
theorem dX4_laysFlows_52 : decode cX4_laysFlows 52 = .ok (.iload_n 2, 1) := by decide +kernel
theorem dX4_laysFlows_53 : decode cX4_laysFlows 53 = .ok (.imul, 1) := by decide +kernel
theorem dX4_laysFlows_54 : decode cX4_laysFlows 54 = .ok (.iadd, 1) := by decide +kernel
theorem dX4_laysFlows_55 : decode cX4_laysFlows 55 = .ok (.iconst 1, 1) := by decide +kernel
theorem dX4_laysFlows_56 : decode cX4_laysFlows 56 = .ok (.iadd, 1) := by decide +kernel
theorem dX4_laysFlows_57 : decode cX4_laysFlows 57 = .ok (.iload_n 1, 1) := by decide +kernel
theorem dX4_laysFlows_58 : decode cX4_laysFlows 58 = .ok (.iastore, 1) := by decide +kernel
theorem dX4_laysFlows_59 : decode cX4_laysFlows 59 = .ok (.aload_n 0, 1) := by decide +kernel
theorem dX4_laysFlows_60 : decode cX4_laysFlows 60 = .ok (.getfield 7, 3) := by decide +kernel
theorem dX4_laysFlows_63 : decode cX4_laysFlows 63 = .ok (.sipush 394, 3) := by decide +kernel
theorem dX4_laysFlows_66 : decode cX4_laysFlows 66 = .ok (.iconst 5, 1) := by decide +kernel
theorem dX4_laysFlows_67 : decode cX4_laysFlows 67 = .ok (.iload_n 2, 1) := by decide +kernel
theorem dX4_laysFlows_68 : decode cX4_laysFlows 68 = .ok (.imul, 1) := by decide +kernel
theorem dX4_laysFlows_69 : decode cX4_laysFlows 69 = .ok (.iadd, 1) := by decide +kernel
theorem dX4_laysFlows_70 : decode cX4_laysFlows 70 = .ok (.iconst 3, 1) := by decide +kernel
theorem dX4_laysFlows_71 : decode cX4_laysFlows 71 = .ok (.iadd, 1) := by decide +kernel
theorem dX4_laysFlows_72 : decode cX4_laysFlows 72 = .ok (.iconst 0, 1) := by decide +kernel
theorem dX4_laysFlows_73 : decode cX4_laysFlows 73 = .ok (.iastore, 1) := by decide +kernel
theorem dX4_laysFlows_74 : decode cX4_laysFlows 74 = .ok (.aload_n 0, 1) := by decide +kernel
theorem dX4_laysFlows_75 : decode cX4_laysFlows 75 = .ok (.getfield 7, 3) := by decide +kernel
theorem dX4_laysFlows_78 : decode cX4_laysFlows 78 = .ok (.sipush 394, 3) := by decide +kernel
theorem dX4_laysFlows_81 : decode cX4_laysFlows 81 = .ok (.iconst 5, 1) := by decide +kernel
theorem dX4_laysFlows_82 : decode cX4_laysFlows 82 = .ok (.iload_n 2, 1) := by decide +kernel
theorem dX4_laysFlows_83 : decode cX4_laysFlows 83 = .ok (.imul, 1) := by decide +kernel
theorem dX4_laysFlows_84 : decode cX4_laysFlows 84 = .ok (.iadd, 1) := by decide +kernel
theorem dX4_laysFlows_85 : decode cX4_laysFlows 85 = .ok (.iconst 4, 1) := by decide +kernel
theorem dX4_laysFlows_86 : decode cX4_laysFlows 86 = .ok (.iadd, 1) := by decide +kernel
theorem dX4_laysFlows_87 : decode cX4_laysFlows 87 = .ok (.iconst 0, 1) := by decide +kernel
theorem dX4_laysFlows_88 : decode cX4_laysFlows 88 = .ok (.iastore, 1) := by decide +kernel
theorem dX4_laysFlows_89 : decode cX4_laysFlows 89 = .ok (.iinc 2 1, 3) := by decide +kernel
theorem dX4_laysFlows_92 : decode cX4_laysFlows 92 = .ok (.goto (-88), 3) := by decide +kernel
theorem dX4_laysFlows_95 : decode cX4_laysFlows 95 = .ok (.return_, 1) := by decide +kernel
theorem dX4_part_0 : decode cX4_part 0 = .ok (.iload_n 0, 1) := by decide +kernel
theorem dX4_part_1 : decode cX4_part 1 = .ok (.iload_n 1, 1) := by decide +kernel
theorem dX4_part_2 : decode cX4_part 2 = .ok (.imul, 1) := by decide +kernel
theorem dX4_part_3 : decode cX4_part 3 = .ok (.bipush 100, 2) := by decide +kernel
theorem dX4_part_5 : decode cX4_part 5 = .ok (.idiv, 1) := by decide +kernel
theorem dX4_part_6 : decode cX4_part 6 = .ok (.ireturn, 1) := by decide +kernel
theorem dX4_lowers_0 : decode cX4_lowers 0 = .ok (.iload_n 3, 1) := by decide +kernel
theorem dX4_lowers_1 : decode cX4_lowers 1 = .ok (.iload_n 2, 1) := by decide +kernel
theorem dX4_lowers_2 : decode cX4_lowers 2 = .ok (.if_icmp .lt 9, 3) := by decide +kernel
theorem dX4_lowers_5 : decode cX4_lowers 5 = .ok (.iload_n 0, 1) := by decide +kernel
theorem dX4_lowers_6 : decode cX4_lowers 6 = .ok (.iload_n 1, 1) := by decide +kernel
theorem dX4_lowers_7 : decode cX4_lowers 7 = .ok (.isub, 1) := by decide +kernel
theorem dX4_lowers_8 : decode cX4_lowers 8 = .ok (.goto 4, 3) := by decide +kernel
theorem dX4_lowers_11 : decode cX4_lowers 11 = .ok (.iload_n 0, 1) := by decide +kernel
theorem dX4_lowers_12 : decode cX4_lowers 12 = .ok (.ireturn, 1) := by decide +kernel
theorem dX4_mayGet_0 : decode cX4_mayGet 0 = .ok (.iload_n 1, 1) := by decide +kernel
theorem dX4_mayGet_1 : decode cX4_mayGet 1 = .ok (.istore 5, 2) := by decide +kernel
theorem dX4_mayGet_3 : decode cX4_mayGet 3 = .ok (.iload 5, 2) := by decide +kernel
theorem dX4_mayGet_5 : decode cX4_mayGet 5 = .ok (.aload_n 0, 1) := by decide +kernel
theorem dX4_mayGet_6 : decode cX4_mayGet 6 = .ok (.getfield 7, 3) := by decide +kernel
theorem dX4_mayGet_9 : decode cX4_mayGet 9 = .ok (.iconst 0, 1) := by decide +kernel
theorem dX4_mayGet_10 : decode cX4_mayGet 10 = .ok (.iaload, 1) := by decide +kernel
theorem dX4_mayGet_11 : decode cX4_mayGet 11 = .ok (.if_icmp .ge 50, 3) := by decide +kernel
theorem dX4_mayGet_14 : decode cX4_mayGet 14 = .ok (.iload_n 2, 1) := by decide +kernel
theorem dX4_mayGet_15 : decode cX4_mayGet 15 = .ok (.iload_n 3, 1) := by decide +kernel
theorem dX4_mayGet_16 : decode cX4_mayGet 16 = .ok (.iload 4, 2) := by decide +kernel
theorem dX4_mayGet_18 : decode cX4_mayGet 18 = .ok (.iload 5, 2) := by decide +kernel
theorem dX4_mayGet_20 : decode cX4_mayGet 20 = .ok (.invokestatic 235, 3) := by decide +kernel
theorem dX4_mayGet_23 : decode cX4_mayGet 23 = .ok (.istore 6, 2) := by decide +kernel
theorem dX4_mayGet_25 : decode cX4_mayGet 25 = .ok (.iload 6, 2) := by decide +kernel
theorem dX4_mayGet_27 : decode cX4_mayGet 27 = .ok (.ifCond .le 28, 3) := by decide +kernel
theorem dX4_mayGet_30 : decode cX4_mayGet 30 = .ok (.aload_n 0, 1) := by decide +kernel
theorem dX4_mayGet_31 : decode cX4_mayGet 31 = .ok (.getfield 50, 3) := by decide +kernel
theorem dX4_mayGet_34 : decode cX4_mayGet 34 = .ok (.iload 5, 2) := by decide +kernel
theorem dX4_mayGet_36 : decode cX4_mayGet 36 = .ok (.iaload, 1) := by decide +kernel
theorem dX4_mayGet_37 : decode cX4_mayGet 37 = .ok (.iload 6, 2) := by decide +kernel
theorem dX4_mayGet_39 : decode cX4_mayGet 39 = .ok (.isub, 1) := by decide +kernel
theorem dX4_mayGet_40 : decode cX4_mayGet 40 = .ok (.aload_n 0, 1) := by decide +kernel
theorem dX4_mayGet_41 : decode cX4_mayGet 41 = .ok (.getfield 7, 3) := by decide +kernel
theorem dX4_mayGet_44 : decode cX4_mayGet 44 = .ok (.bipush 14, 2) := by decide +kernel
theorem dX4_mayGet_46 : decode cX4_mayGet 46 = .ok (.iload 5, 2) := by decide +kernel
theorem dX4_mayGet_48 : decode cX4_mayGet 48 = .ok (.iadd, 1) := by decide +kernel
theorem dX4_mayGet_49 : decode cX4_mayGet 49 = .ok (.iaload, 1) := by decide +kernel
theorem dX4_mayGet_50 : decode cX4_mayGet 50 = .ok (.if_icmp .ge 5, 3) := by decide +kernel
theorem dX4_mayGet_53 : decode cX4_mayGet 53 = .ok (.iconst 0, 1) := by decide +kernel
theorem dX4_mayGet_54 : decode cX4_mayGet 54 = .ok (.ireturn, 1) := by decide +kernel
theorem dX4_mayGet_55 : decode cX4_mayGet 55 = .ok (.iinc 5 1, 3) := by decide +kernel
theorem dX4_mayGet_58 : decode cX4_mayGet 58 = .ok (.goto (-55), 3) := by decide +kernel
theorem dX4_mayGet_61 : decode cX4_mayGet 61 = .ok (.iconst 1, 1) := by decide +kernel
theorem dX4_mayGet_62 : decode cX4_mayGet 62 = .ok (.ireturn, 1) := by decide +kernel
theorem dX4_pays_0 : decode cX4_pays 0 = .ok (.aload_n 0, 1) := by decide +kernel
theorem dX4_pays_1 : decode cX4_pays 1 = .ok (.getfield 22, 3) := by decide +kernel
theorem dX4_pays_4 : decode cX4_pays 4 = .ok (.iload_n 1, 1) := by decide +kernel
theorem dX4_pays_5 : decode cX4_pays 5 = .ok (.dup2, 1) := by decide +kernel
theorem dX4_pays_6 : decode cX4_pays 6 = .ok (.laload, 1) := by decide +kernel
theorem dX4_pays_7 : decode cX4_pays 7 = .ok (.lload_n 3, 1) := by decide +kernel
theorem dX4_pays_8 : decode cX4_pays 8 = .ok (.lsub, 1) := by decide +kernel
theorem dX4_pays_9 : decode cX4_pays 9 = .ok (.lastore, 1) := by decide +kernel
theorem dX4_pays_10 : decode cX4_pays 10 = .ok (.aload_n 0, 1) := by decide +kernel
theorem dX4_pays_11 : decode cX4_pays 11 = .ok (.getfield 22, 3) := by decide +kernel
theorem dX4_pays_14 : decode cX4_pays 14 = .ok (.iload_n 2, 1) := by decide +kernel
theorem dX4_pays_15 : decode cX4_pays 15 = .ok (.dup2, 1) := by decide +kernel
theorem dX4_pays_16 : decode cX4_pays 16 = .ok (.laload, 1) := by decide +kernel
theorem dX4_pays_17 : decode cX4_pays 17 = .ok (.lload_n 3, 1) := by decide +kernel
theorem dX4_pays_18 : decode cX4_pays 18 = .ok (.ladd, 1) := by decide +kernel
theorem dX4_pays_19 : decode cX4_pays 19 = .ok (.lastore, 1) := by decide +kernel
theorem dX4_pays_20 : decode cX4_pays 20 = .ok (.return_, 1) := by decide +kernel
theorem dX4_serves_0 : decode cX4_serves 0 = .ok (.iload_n 1, 1) := by decide +kernel
theorem dX4_serves_1 : decode cX4_serves 1 = .ok (.ifCond .ne 13, 3) := by decide +kernel
theorem dX4_serves_4 : decode cX4_serves 4 = .ok (.aload_n 0, 1) := by decide +kernel
theorem dX4_serves_5 : decode cX4_serves 5 = .ok (.iload_n 2, 1) := by decide +kernel
theorem dX4_serves_6 : decode cX4_serves 6 = .ok (.bipush 6, 2) := by decide +kernel
theorem dX4_serves_8 : decode cX4_serves 8 = .ok (.invokevirtual 216, 3) := by decide +kernel
theorem dX4_serves_11 : decode cX4_serves 11 = .ok (.goto 4, 3) := by decide +kernel
theorem dX4_serves_14 : decode cX4_serves 14 = .ok (.iconst 0, 1) := by decide +kernel
theorem dX4_serves_15 : decode cX4_serves 15 = .ok (.istore 7, 2) := by decide +kernel
theorem dX4_serves_17 : decode cX4_serves 17 = .ok (.iload_n 1, 1) := by decide +kernel
theorem dX4_serves_18 : decode cX4_serves 18 = .ok (.ifCond .ne 12, 3) := by decide +kernel
theorem dX4_serves_21 : decode cX4_serves 21 = .ok (.aload_n 0, 1) := by decide +kernel
theorem dX4_serves_22 : decode cX4_serves 22 = .ok (.iload_n 2, 1) := by decide +kernel
theorem dX4_serves_23 : decode cX4_serves 23 = .ok (.iconst 4, 1) := by decide +kernel
theorem dX4_serves_24 : decode cX4_serves 24 = .ok (.invokevirtual 216, 3) := by decide +kernel
theorem dX4_serves_27 : decode cX4_serves 27 = .ok (.goto 4, 3) := by decide +kernel
theorem dX4_serves_30 : decode cX4_serves 30 = .ok (.iconst 0, 1) := by decide +kernel
theorem dX4_serves_31 : decode cX4_serves 31 = .ok (.istore 8, 2) := by decide +kernel
theorem dX4_serves_33 : decode cX4_serves 33 = .ok (.aload_n 0, 1) := by decide +kernel
theorem dX4_serves_34 : decode cX4_serves 34 = .ok (.iload_n 2, 1) := by decide +kernel
theorem dX4_serves_35 : decode cX4_serves 35 = .ok (.iconst 5, 1) := by decide +kernel
theorem dX4_serves_36 : decode cX4_serves 36 = .ok (.invokevirtual 216, 3) := by decide +kernel
theorem dX4_serves_39 : decode cX4_serves 39 = .ok (.istore 9, 2) := by decide +kernel
theorem dX4_serves_41 : decode cX4_serves 41 = .ok (.iload 5, 2) := by decide +kernel
theorem dX4_serves_43 : decode cX4_serves 43 = .ok (.istore 10, 2) := by decide +kernel
theorem dX4_serves_45 : decode cX4_serves 45 = .ok (.aload_n 0, 1) := by decide +kernel
theorem dX4_serves_46 : decode cX4_serves 46 = .ok (.iload 4, 2) := by decide +kernel
theorem dX4_serves_48 : decode cX4_serves 48 = .ok (.iload 10, 2) := by decide +kernel
theorem dX4_serves_50 : decode cX4_serves 50 = .ok (.iload 10, 2) := by decide +kernel
theorem dX4_serves_52 : decode cX4_serves 52 = .ok (.iload 10, 2) := by decide +kernel
theorem dX4_serves_54 : decode cX4_serves 54 = .ok (.iload 7, 2) := by decide +kernel
theorem dX4_serves_56 : decode cX4_serves 56 = .ok (.invokestatic 239, 3) := by decide +kernel
theorem dX4_serves_59 : decode cX4_serves 59 = .ok (.isub, 1) := by decide +kernel
theorem dX4_serves_60 : decode cX4_serves 60 = .ok (.iload 8, 2) := by decide +kernel
theorem dX4_serves_62 : decode cX4_serves 62 = .ok (.invokestatic 239, 3) := by decide +kernel
theorem dX4_serves_65 : decode cX4_serves 65 = .ok (.iload 9, 2) := by decide +kernel
theorem dX4_serves_67 : decode cX4_serves 67 = .ok (.invokevirtual 242, 3) := by decide +kernel
theorem dX4_serves_70 : decode cX4_serves 70 = .ok (.ifCond .ne 9, 3) := by decide +kernel
theorem dX4_serves_73 : decode cX4_serves 73 = .ok (.iinc 10 (-1), 3) := by decide +kernel
theorem dX4_serves_76 : decode cX4_serves 76 = .ok (.goto (-31), 3) := by decide +kernel
theorem dX4_serves_79 : decode cX4_serves 79 = .ok (.iload 10, 2) := by decide +kernel
theorem dX4_serves_81 : decode cX4_serves 81 = .ok (.iload 7, 2) := by decide +kernel
theorem dX4_serves_83 : decode cX4_serves 83 = .ok (.invokestatic 239, 3) := by decide +kernel
theorem dX4_serves_86 : decode cX4_serves 86 = .ok (.istore 11, 2) := by decide +kernel
theorem dX4_serves_88 : decode cX4_serves 88 = .ok (.iload 10, 2) := by decide +kernel
theorem dX4_serves_90 : decode cX4_serves 90 = .ok (.iload 11, 2) := by decide +kernel
theorem dX4_serves_92 : decode cX4_serves 92 = .ok (.isub, 1) := by decide +kernel
theorem dX4_serves_93 : decode cX4_serves 93 = .ok (.iload 8, 2) := by decide +kernel
theorem dX4_serves_95 : decode cX4_serves 95 = .ok (.invokestatic 239, 3) := by decide +kernel
theorem dX4_serves_98 : decode cX4_serves 98 = .ok (.istore 12, 2) := by decide +kernel
theorem dX4_serves_100 : decode cX4_serves 100 = .ok (.iload 4, 2) := by decide +kernel
theorem dX4_serves_102 : decode cX4_serves 102 = .ok (.istore 13, 2) := by decide +kernel
theorem dX4_serves_104 : decode cX4_serves 104 = .ok (.iload 13, 2) := by decide +kernel
theorem dX4_serves_106 : decode cX4_serves 106 = .ok (.aload_n 0, 1) := by decide +kernel
theorem dX4_serves_107 : decode cX4_serves 107 = .ok (.getfield 7, 3) := by decide +kernel
theorem dX4_serves_110 : decode cX4_serves 110 = .ok (.iconst 0, 1) := by decide +kernel
theorem dX4_serves_111 : decode cX4_serves 111 = .ok (.iaload, 1) := by decide +kernel
theorem dX4_serves_112 : decode cX4_serves 112 = .ok (.if_icmp .ge 30, 3) := by decide +kernel
theorem dX4_serves_115 : decode cX4_serves 115 = .ok (.aload_n 0, 1) := by decide +kernel
theorem dX4_serves_116 : decode cX4_serves 116 = .ok (.getfield 50, 3) := by decide +kernel
theorem dX4_serves_119 : decode cX4_serves 119 = .ok (.iload 13, 2) := by decide +kernel
theorem dX4_serves_121 : decode cX4_serves 121 = .ok (.dup2, 1) := by decide +kernel
theorem dX4_serves_122 : decode cX4_serves 122 = .ok (.iaload, 1) := by decide +kernel
theorem dX4_serves_123 : decode cX4_serves 123 = .ok (.iload 10, 2) := by decide +kernel
theorem dX4_serves_125 : decode cX4_serves 125 = .ok (.iload 12, 2) := by decide +kernel
theorem dX4_serves_127 : decode cX4_serves 127 = .ok (.iload 9, 2) := by decide +kernel
theorem dX4_serves_129 : decode cX4_serves 129 = .ok (.iload 13, 2) := by decide +kernel
theorem dX4_serves_131 : decode cX4_serves 131 = .ok (.invokestatic 235, 3) := by decide +kernel
theorem dX4_serves_134 : decode cX4_serves 134 = .ok (.isub, 1) := by decide +kernel
theorem dX4_serves_135 : decode cX4_serves 135 = .ok (.iastore, 1) := by decide +kernel
theorem dX4_serves_136 : decode cX4_serves 136 = .ok (.iinc 13 1, 3) := by decide +kernel
theorem dX4_serves_139 : decode cX4_serves 139 = .ok (.goto (-35), 3) := by decide +kernel
theorem dX4_serves_142 : decode cX4_serves 142 = .ok (.sipush 242, 3) := by decide +kernel
theorem dX4_serves_145 : decode cX4_serves 145 = .ok (.bipush 8, 2) := by decide +kernel
theorem dX4_serves_147 : decode cX4_serves 147 = .ok (.aload_n 0, 1) := by decide +kernel
theorem dX4_serves_148 : decode cX4_serves 148 = .ok (.getfield 7, 3) := by decide +kernel
theorem dX4_serves_151 : decode cX4_serves 151 = .ok (.bipush 56, 2) := by decide +kernel
theorem dX4_serves_153 : decode cX4_serves 153 = .ok (.iaload, 1) := by decide +kernel
theorem dX4_serves_154 : decode cX4_serves 154 = .ok (.imul, 1) := by decide +kernel
theorem dX4_serves_155 : decode cX4_serves 155 = .ok (.iadd, 1) := by decide +kernel
theorem dX4_serves_156 : decode cX4_serves 156 = .ok (.istore 13, 2) := by decide +kernel
theorem dX4_serves_158 : decode cX4_serves 158 = .ok (.aload_n 0, 1) := by decide +kernel
theorem dX4_serves_159 : decode cX4_serves 159 = .ok (.getfield 7, 3) := by decide +kernel
theorem dX4_serves_162 : decode cX4_serves 162 = .ok (.bipush 56, 2) := by decide +kernel
theorem dX4_serves_164 : decode cX4_serves 164 = .ok (.dup2, 1) := by decide +kernel
theorem dX4_serves_165 : decode cX4_serves 165 = .ok (.iaload, 1) := by decide +kernel
theorem dX4_serves_166 : decode cX4_serves 166 = .ok (.iconst 1, 1) := by decide +kernel
theorem dX4_serves_167 : decode cX4_serves 167 = .ok (.iadd, 1) := by decide +kernel
theorem dX4_serves_168 : decode cX4_serves 168 = .ok (.iastore, 1) := by decide +kernel
theorem dX4_serves_169 : decode cX4_serves 169 = .ok (.aload_n 0, 1) := by decide +kernel
theorem dX4_serves_170 : decode cX4_serves 170 = .ok (.getfield 7, 3) := by decide +kernel
theorem dX4_serves_173 : decode cX4_serves 173 = .ok (.iload 13, 2) := by decide +kernel
theorem dX4_serves_175 : decode cX4_serves 175 = .ok (.iload_n 1, 1) := by decide +kernel
theorem dX4_serves_176 : decode cX4_serves 176 = .ok (.iastore, 1) := by decide +kernel
theorem dX4_serves_177 : decode cX4_serves 177 = .ok (.aload_n 0, 1) := by decide +kernel
theorem dX4_serves_178 : decode cX4_serves 178 = .ok (.getfield 7, 3) := by decide +kernel
theorem dX4_serves_181 : decode cX4_serves 181 = .ok (.iload 13, 2) := by decide +kernel
theorem dX4_serves_183 : decode cX4_serves 183 = .ok (.iconst 1, 1) := by decide +kernel
theorem dX4_serves_184 : decode cX4_serves 184 = .ok (.iadd, 1) := by decide +kernel
theorem dX4_serves_185 : decode cX4_serves 185 = .ok (.iload_n 2, 1) := by decide +kernel
theorem dX4_serves_186 : decode cX4_serves 186 = .ok (.iastore, 1) := by decide +kernel
theorem dX4_serves_187 : decode cX4_serves 187 = .ok (.aload_n 0, 1) := by decide +kernel
theorem dX4_serves_188 : decode cX4_serves 188 = .ok (.getfield 7, 3) := by decide +kernel
theorem dX4_serves_191 : decode cX4_serves 191 = .ok (.iload 13, 2) := by decide +kernel
theorem dX4_serves_193 : decode cX4_serves 193 = .ok (.iconst 2, 1) := by decide +kernel
theorem dX4_serves_194 : decode cX4_serves 194 = .ok (.iadd, 1) := by decide +kernel
theorem dX4_serves_195 : decode cX4_serves 195 = .ok (.iload_n 3, 1) := by decide +kernel
theorem dX4_serves_196 : decode cX4_serves 196 = .ok (.iastore, 1) := by decide +kernel
theorem dX4_serves_197 : decode cX4_serves 197 = .ok (.aload_n 0, 1) := by decide +kernel
theorem dX4_serves_198 : decode cX4_serves 198 = .ok (.getfield 7, 3) := by decide +kernel
theorem dX4_serves_201 : decode cX4_serves 201 = .ok (.iload 13, 2) := by decide +kernel
theorem dX4_serves_203 : decode cX4_serves 203 = .ok (.iconst 3, 1) := by decide +kernel
theorem dX4_serves_204 : decode cX4_serves 204 = .ok (.iadd, 1) := by decide +kernel
theorem dX4_serves_205 : decode cX4_serves 205 = .ok (.iload 4, 2) := by decide +kernel
theorem dX4_serves_207 : decode cX4_serves 207 = .ok (.iastore, 1) := by decide +kernel
theorem dX4_serves_208 : decode cX4_serves 208 = .ok (.aload_n 0, 1) := by decide +kernel
theorem dX4_serves_209 : decode cX4_serves 209 = .ok (.getfield 7, 3) := by decide +kernel
theorem dX4_serves_212 : decode cX4_serves 212 = .ok (.iload 13, 2) := by decide +kernel
theorem dX4_serves_214 : decode cX4_serves 214 = .ok (.iconst 4, 1) := by decide +kernel
theorem dX4_serves_215 : decode cX4_serves 215 = .ok (.iadd, 1) := by decide +kernel
theorem dX4_serves_216 : decode cX4_serves 216 = .ok (.iload 5, 2) := by decide +kernel
theorem dX4_serves_218 : decode cX4_serves 218 = .ok (.iastore, 1) := by decide +kernel
theorem dX4_serves_219 : decode cX4_serves 219 = .ok (.aload_n 0, 1) := by decide +kernel
theorem dX4_serves_220 : decode cX4_serves 220 = .ok (.getfield 7, 3) := by decide +kernel
theorem dX4_serves_223 : decode cX4_serves 223 = .ok (.iload 13, 2) := by decide +kernel
theorem dX4_serves_225 : decode cX4_serves 225 = .ok (.iconst 5, 1) := by decide +kernel
theorem dX4_serves_226 : decode cX4_serves 226 = .ok (.iadd, 1) := by decide +kernel
theorem dX4_serves_227 : decode cX4_serves 227 = .ok (.iload 10, 2) := by decide +kernel
theorem dX4_serves_229 : decode cX4_serves 229 = .ok (.iastore, 1) := by decide +kernel
theorem dX4_serves_230 : decode cX4_serves 230 = .ok (.aload_n 0, 1) := by decide +kernel
theorem dX4_serves_231 : decode cX4_serves 231 = .ok (.getfield 7, 3) := by decide +kernel
theorem dX4_serves_234 : decode cX4_serves 234 = .ok (.iload 13, 2) := by decide +kernel
theorem dX4_serves_236 : decode cX4_serves 236 = .ok (.bipush 6, 2) := by decide +kernel
theorem dX4_serves_238 : decode cX4_serves 238 = .ok (.iadd, 1) := by decide +kernel
theorem dX4_serves_239 : decode cX4_serves 239 = .ok (.iload 11, 2) := by decide +kernel
theorem dX4_serves_241 : decode cX4_serves 241 = .ok (.iastore, 1) := by decide +kernel
theorem dX4_serves_242 : decode cX4_serves 242 = .ok (.aload_n 0, 1) := by decide +kernel
theorem dX4_serves_243 : decode cX4_serves 243 = .ok (.getfield 7, 3) := by decide +kernel
theorem dX4_serves_246 : decode cX4_serves 246 = .ok (.iload 13, 2) := by decide +kernel
theorem dX4_serves_248 : decode cX4_serves 248 = .ok (.bipush 7, 2) := by decide +kernel
theorem dX4_serves_250 : decode cX4_serves 250 = .ok (.iadd, 1) := by decide +kernel
theorem dX4_serves_251 : decode cX4_serves 251 = .ok (.iload 12, 2) := by decide +kernel
theorem dX4_serves_253 : decode cX4_serves 253 = .ok (.iastore, 1) := by decide +kernel
theorem dX4_serves_254 : decode cX4_serves 254 = .ok (.aload_n 0, 1) := by decide +kernel
theorem dX4_serves_255 : decode cX4_serves 255 = .ok (.getfield 7, 3) := by decide +kernel
theorem dX4_serves_258 : decode cX4_serves 258 = .ok (.sipush 394, 3) := by decide +kernel
theorem dX4_serves_261 : decode cX4_serves 261 = .ok (.iconst 5, 1) := by decide +kernel
theorem dX4_serves_262 : decode cX4_serves 262 = .ok (.iload 4, 2) := by decide +kernel
theorem dX4_serves_264 : decode cX4_serves 264 = .ok (.imul, 1) := by decide +kernel
theorem dX4_serves_265 : decode cX4_serves 265 = .ok (.iadd, 1) := by decide +kernel
theorem dX4_serves_266 : decode cX4_serves 266 = .ok (.iconst 3, 1) := by decide +kernel
theorem dX4_serves_267 : decode cX4_serves 267 = .ok (.iadd, 1) := by decide +kernel
theorem dX4_serves_268 : decode cX4_serves 268 = .ok (.dup2, 1) := by decide +kernel
theorem dX4_serves_269 : decode cX4_serves 269 = .ok (.iaload, 1) := by decide +kernel
theorem dX4_serves_270 : decode cX4_serves 270 = .ok (.iload 10, 2) := by decide +kernel
theorem dX4_serves_272 : decode cX4_serves 272 = .ok (.iadd, 1) := by decide +kernel
theorem dX4_serves_273 : decode cX4_serves 273 = .ok (.iastore, 1) := by decide +kernel
theorem dX4_serves_274 : decode cX4_serves 274 = .ok (.aload_n 0, 1) := by decide +kernel
theorem dX4_serves_275 : decode cX4_serves 275 = .ok (.getfield 7, 3) := by decide +kernel
theorem dX4_serves_278 : decode cX4_serves 278 = .ok (.sipush 394, 3) := by decide +kernel
theorem dX4_serves_281 : decode cX4_serves 281 = .ok (.iconst 5, 1) := by decide +kernel
theorem dX4_serves_282 : decode cX4_serves 282 = .ok (.iload 9, 2) := by decide +kernel
theorem dX4_serves_284 : decode cX4_serves 284 = .ok (.imul, 1) := by decide +kernel
theorem dX4_serves_285 : decode cX4_serves 285 = .ok (.iadd, 1) := by decide +kernel
theorem dX4_serves_286 : decode cX4_serves 286 = .ok (.iconst 4, 1) := by decide +kernel
theorem dX4_serves_287 : decode cX4_serves 287 = .ok (.iadd, 1) := by decide +kernel
theorem dX4_serves_288 : decode cX4_serves 288 = .ok (.dup2, 1) := by decide +kernel
theorem dX4_serves_289 : decode cX4_serves 289 = .ok (.iaload, 1) := by decide +kernel
theorem dX4_serves_290 : decode cX4_serves 290 = .ok (.iload 12, 2) := by decide +kernel
theorem dX4_serves_292 : decode cX4_serves 292 = .ok (.iadd, 1) := by decide +kernel
theorem dX4_serves_293 : decode cX4_serves 293 = .ok (.iastore, 1) := by decide +kernel
theorem dX4_serves_294 : decode cX4_serves 294 = .ok (.aload_n 0, 1) := by decide +kernel
theorem dX4_serves_295 : decode cX4_serves 295 = .ok (.getfield 7, 3) := by decide +kernel
theorem dX4_serves_298 : decode cX4_serves 298 = .ok (.iload_n 2, 1) := by decide +kernel
theorem dX4_serves_299 : decode cX4_serves 299 = .ok (.bipush 7, 2) := by decide +kernel
theorem dX4_serves_301 : decode cX4_serves 301 = .ok (.invokestatic 80, 3) := by decide +kernel
theorem dX4_serves_304 : decode cX4_serves 304 = .ok (.dup2, 1) := by decide +kernel
theorem dX4_serves_305 : decode cX4_serves 305 = .ok (.iaload, 1) := by decide +kernel
theorem dX4_serves_306 : decode cX4_serves 306 = .ok (.iload 10, 2) := by decide +kernel
theorem dX4_serves_308 : decode cX4_serves 308 = .ok (.iadd, 1) := by decide +kernel
theorem dX4_serves_309 : decode cX4_serves 309 = .ok (.iastore, 1) := by decide +kernel
theorem dX4_serves_310 : decode cX4_serves 310 = .ok (.aload_n 0, 1) := by decide +kernel
theorem dX4_serves_311 : decode cX4_serves 311 = .ok (.getfield 7, 3) := by decide +kernel
theorem dX4_serves_314 : decode cX4_serves 314 = .ok (.iload_n 2, 1) := by decide +kernel
theorem dX4_serves_315 : decode cX4_serves 315 = .ok (.bipush 8, 2) := by decide +kernel
theorem dX4_serves_317 : decode cX4_serves 317 = .ok (.invokestatic 80, 3) := by decide +kernel
theorem dX4_serves_320 : decode cX4_serves 320 = .ok (.dup2, 1) := by decide +kernel
theorem dX4_serves_321 : decode cX4_serves 321 = .ok (.iaload, 1) := by decide +kernel
theorem dX4_serves_322 : decode cX4_serves 322 = .ok (.iload 12, 2) := by decide +kernel
theorem dX4_serves_324 : decode cX4_serves 324 = .ok (.iadd, 1) := by decide +kernel
theorem dX4_serves_325 : decode cX4_serves 325 = .ok (.iastore, 1) := by decide +kernel
theorem dX4_serves_326 : decode cX4_serves 326 = .ok (.aload_n 0, 1) := by decide +kernel
theorem dX4_serves_327 : decode cX4_serves 327 = .ok (.getfield 7, 3) := by decide +kernel
theorem dX4_serves_330 : decode cX4_serves 330 = .ok (.bipush 31, 2) := by decide +kernel
theorem dX4_serves_332 : decode cX4_serves 332 = .ok (.iload_n 3, 1) := by decide +kernel
theorem dX4_serves_333 : decode cX4_serves 333 = .ok (.iadd, 1) := by decide +kernel
theorem dX4_serves_334 : decode cX4_serves 334 = .ok (.dup2, 1) := by decide +kernel
theorem dX4_serves_335 : decode cX4_serves 335 = .ok (.iaload, 1) := by decide +kernel
theorem dX4_serves_336 : decode cX4_serves 336 = .ok (.iload 10, 2) := by decide +kernel
theorem dX4_serves_338 : decode cX4_serves 338 = .ok (.iadd, 1) := by decide +kernel
theorem dX4_serves_339 : decode cX4_serves 339 = .ok (.iastore, 1) := by decide +kernel
theorem dX4_serves_340 : decode cX4_serves 340 = .ok (.aload_n 0, 1) := by decide +kernel
theorem dX4_serves_341 : decode cX4_serves 341 = .ok (.getfield 7, 3) := by decide +kernel
theorem dX4_serves_344 : decode cX4_serves 344 = .ok (.bipush 26, 2) := by decide +kernel
theorem dX4_serves_346 : decode cX4_serves 346 = .ok (.aload_n 0, 1) := by decide +kernel
theorem dX4_serves_347 : decode cX4_serves 347 = .ok (.iload_n 2, 1) := by decide +kernel
theorem dX4_serves_348 : decode cX4_serves 348 = .ok (.iconst 0, 1) := by decide +kernel
theorem dX4_serves_349 : decode cX4_serves 349 = .ok (.invokevirtual 216, 3) := by decide +kernel
theorem dX4_serves_352 : decode cX4_serves 352 = .ok (.iadd, 1) := by decide +kernel
theorem dX4_serves_353 : decode cX4_serves 353 = .ok (.dup2, 1) := by decide +kernel
theorem dX4_serves_354 : decode cX4_serves 354 = .ok (.iaload, 1) := by decide +kernel
theorem dX4_serves_355 : decode cX4_serves 355 = .ok (.iload 11, 2) := by decide +kernel
theorem dX4_serves_357 : decode cX4_serves 357 = .ok (.iadd, 1) := by decide +kernel
theorem dX4_serves_358 : decode cX4_serves 358 = .ok (.iastore, 1) := by decide +kernel
theorem dX4_serves_359 : decode cX4_serves 359 = .ok (.aload_n 0, 1) := by decide +kernel
theorem dX4_serves_360 : decode cX4_serves 360 = .ok (.getfield 7, 3) := by decide +kernel
theorem dX4_serves_363 : decode cX4_serves 363 = .ok (.bipush 53, 2) := by decide +kernel
theorem dX4_serves_365 : decode cX4_serves 365 = .ok (.dup2, 1) := by decide +kernel
theorem dX4_serves_366 : decode cX4_serves 366 = .ok (.iaload, 1) := by decide +kernel
theorem dX4_serves_367 : decode cX4_serves 367 = .ok (.iload 11, 2) := by decide +kernel
theorem dX4_serves_369 : decode cX4_serves 369 = .ok (.iadd, 1) := by decide +kernel
theorem dX4_serves_370 : decode cX4_serves 370 = .ok (.iastore, 1) := by decide +kernel
theorem dX4_serves_371 : decode cX4_serves 371 = .ok (.aload_n 0, 1) := by decide +kernel
theorem dX4_serves_372 : decode cX4_serves 372 = .ok (.getfield 53, 3) := by decide +kernel
theorem dX4_serves_375 : decode cX4_serves 375 = .ok (.iload_n 2, 1) := by decide +kernel
theorem dX4_serves_376 : decode cX4_serves 376 = .ok (.aload_n 0, 1) := by decide +kernel
theorem dX4_serves_377 : decode cX4_serves 377 = .ok (.getfield 53, 3) := by decide +kernel
theorem dX4_serves_380 : decode cX4_serves 380 = .ok (.iload_n 2, 1) := by decide +kernel
theorem dX4_serves_381 : decode cX4_serves 381 = .ok (.baload, 1) := by decide +kernel
theorem dX4_serves_382 : decode cX4_serves 382 = .ok (.ifCond .ne 10, 3) := by decide +kernel
theorem dX4_serves_385 : decode cX4_serves 385 = .ok (.iload 10, 2) := by decide +kernel
theorem dX4_serves_387 : decode cX4_serves 387 = .ok (.iload 5, 2) := by decide +kernel
theorem dX4_serves_389 : decode cX4_serves 389 = .ok (.if_icmp .ge 7, 3) := by decide +kernel
theorem dX4_serves_392 : decode cX4_serves 392 = .ok (.iconst 1, 1) := by decide +kernel
theorem dX4_serves_393 : decode cX4_serves 393 = .ok (.goto 4, 3) := by decide +kernel
theorem dX4_serves_396 : decode cX4_serves 396 = .ok (.iconst 0, 1) := by decide +kernel
theorem dX4_serves_397 : decode cX4_serves 397 = .ok (.bastore, 1) := by decide +kernel
theorem dX4_serves_398 : decode cX4_serves 398 = .ok (.iload_n 1, 1) := by decide +kernel
theorem dX4_serves_399 : decode cX4_serves 399 = .ok (.ifCond .eq 39, 3) := by decide +kernel
theorem dX4_serves_402 : decode cX4_serves 402 = .ok (.aload_n 0, 1) := by decide +kernel
theorem dX4_serves_403 : decode cX4_serves 403 = .ok (.iload_n 3, 1) := by decide +kernel
theorem dX4_serves_404 : decode cX4_serves 404 = .ok (.aload_n 0, 1) := by decide +kernel
theorem dX4_serves_405 : decode cX4_serves 405 = .ok (.iload_n 2, 1) := by decide +kernel
theorem dX4_serves_406 : decode cX4_serves 406 = .ok (.iconst 0, 1) := by decide +kernel
theorem dX4_serves_407 : decode cX4_serves 407 = .ok (.invokevirtual 216, 3) := by decide +kernel
theorem dX4_serves_410 : decode cX4_serves 410 = .ok (.iload 10, 2) := by decide +kernel
theorem dX4_serves_412 : decode cX4_serves 412 = .ok (.i2l, 1) := by decide +kernel
theorem dX4_serves_413 : decode cX4_serves 413 = .ok (.iload 6, 2) := by decide +kernel
theorem dX4_serves_415 : decode cX4_serves 415 = .ok (.i2l, 1) := by decide +kernel
theorem dX4_serves_416 : decode cX4_serves 416 = .ok (.lmul, 1) := by decide +kernel
theorem dX4_serves_417 : decode cX4_serves 417 = .ok (.invokevirtual 246, 3) := by decide +kernel
theorem dX4_serves_420 : decode cX4_serves 420 = .ok (.aload_n 0, 1) := by decide +kernel
theorem dX4_serves_421 : decode cX4_serves 421 = .ok (.getfield 22, 3) := by decide +kernel
theorem dX4_serves_424 : decode cX4_serves 424 = .ok (.iconst 5, 1) := by decide +kernel
theorem dX4_serves_425 : decode cX4_serves 425 = .ok (.iload_n 2, 1) := by decide +kernel
theorem dX4_serves_426 : decode cX4_serves 426 = .ok (.iadd, 1) := by decide +kernel
theorem dX4_serves_427 : decode cX4_serves 427 = .ok (.dup2, 1) := by decide +kernel
theorem dX4_serves_428 : decode cX4_serves 428 = .ok (.laload, 1) := by decide +kernel
theorem dX4_serves_429 : decode cX4_serves 429 = .ok (.iload 10, 2) := by decide +kernel
theorem dX4_serves_431 : decode cX4_serves 431 = .ok (.i2l, 1) := by decide +kernel
theorem dX4_serves_432 : decode cX4_serves 432 = .ok (.iload 6, 2) := by decide +kernel
theorem dX4_serves_434 : decode cX4_serves 434 = .ok (.i2l, 1) := by decide +kernel
theorem dX4_serves_435 : decode cX4_serves 435 = .ok (.lmul, 1) := by decide +kernel
theorem dX4_serves_436 : decode cX4_serves 436 = .ok (.ladd, 1) := by decide +kernel
theorem dX4_serves_437 : decode cX4_serves 437 = .ok (.lastore, 1) := by decide +kernel
theorem dX4_serves_438 : decode cX4_serves 438 = .ok (.return_, 1) := by decide +kernel
theorem dX4_without_0 : decode cX4_without 0 = .ok (.iload_n 1, 1) := by decide +kernel
theorem dX4_without_1 : decode cX4_without 1 = .ok (.bipush 100, 2) := by decide +kernel
theorem dX4_without_3 : decode cX4_without 3 = .ok (.aload_n 0, 1) := by decide +kernel
theorem dX4_without_4 : decode cX4_without 4 = .ok (.iload_n 2, 1) := by decide +kernel
theorem dX4_without_5 : decode cX4_without 5 = .ok (.iconst 4, 1) := by decide +kernel
theorem dX4_without_6 : decode cX4_without 6 = .ok (.invokevirtual 216, 3) := by decide +kernel
theorem dX4_without_9 : decode cX4_without 9 = .ok (.isub, 1) := by decide +kernel
theorem dX4_without_10 : decode cX4_without 10 = .ok (.imul, 1) := by decide +kernel
theorem dX4_without_11 : decode cX4_without 11 = .ok (.bipush 100, 2) := by decide +kernel
theorem dX4_without_13 : decode cX4_without 13 = .ok (.idiv, 1) := by decide +kernel
theorem dX4_without_14 : decode cX4_without 14 = .ok (.ireturn, 1) := by decide +kernel
theorem dX4_optionBy_0 : decode cX4_optionBy 0 = .ok (.iconst 0, 1) := by decide +kernel
theorem dX4_optionBy_1 : decode cX4_optionBy 1 = .ok (.istore_n 2, 1) := by decide +kernel
theorem dX4_optionBy_2 : decode cX4_optionBy 2 = .ok (.iload_n 2, 1) := by decide +kernel
theorem dX4_optionBy_3 : decode cX4_optionBy 3 = .ok (.aload_n 0, 1) := by decide +kernel
theorem dX4_optionBy_4 : decode cX4_optionBy 4 = .ok (.getfield 7, 3) := by decide +kernel
theorem dX4_optionBy_7 : decode cX4_optionBy 7 = .ok (.iconst 4, 1) := by decide +kernel
theorem dX4_optionBy_8 : decode cX4_optionBy 8 = .ok (.iaload, 1) := by decide +kernel
theorem dX4_optionBy_9 : decode cX4_optionBy 9 = .ok (.if_icmp .ge 30, 3) := by decide +kernel
theorem dX4_optionBy_12 : decode cX4_optionBy 12 = .ok (.aload_n 0, 1) := by decide +kernel
theorem dX4_optionBy_13 : decode cX4_optionBy 13 = .ok (.iload_n 2, 1) := by decide +kernel
theorem dX4_optionBy_14 : decode cX4_optionBy 14 = .ok (.iconst 0, 1) := by decide +kernel
theorem dX4_optionBy_15 : decode cX4_optionBy 15 = .ok (.invokevirtual 228, 3) := by decide +kernel
theorem dX4_optionBy_18 : decode cX4_optionBy 18 = .ok (.iload_n 1, 1) := by decide +kernel
theorem dX4_optionBy_19 : decode cX4_optionBy 19 = .ok (.if_icmp .ne 14, 3) := by decide +kernel
theorem dX4_optionBy_22 : decode cX4_optionBy 22 = .ok (.aload_n 0, 1) := by decide +kernel
theorem dX4_optionBy_23 : decode cX4_optionBy 23 = .ok (.iload_n 2, 1) := by decide +kernel
theorem dX4_optionBy_24 : decode cX4_optionBy 24 = .ok (.iconst 0, 1) := by decide +kernel
theorem dX4_optionBy_25 : decode cX4_optionBy 25 = .ok (.invokevirtual 231, 3) := by decide +kernel
theorem dX4_optionBy_28 : decode cX4_optionBy 28 = .ok (.ifCond .eq 5, 3) := by decide +kernel
theorem dX4_optionBy_31 : decode cX4_optionBy 31 = .ok (.iload_n 2, 1) := by decide +kernel
theorem dX4_optionBy_32 : decode cX4_optionBy 32 = .ok (.ireturn, 1) := by decide +kernel
theorem dX4_optionBy_33 : decode cX4_optionBy 33 = .ok (.iinc 2 1, 3) := by decide +kernel
theorem dX4_optionBy_36 : decode cX4_optionBy 36 = .ok (.goto (-34), 3) := by decide +kernel
theorem dX4_optionBy_39 : decode cX4_optionBy 39 = .ok (.iconst (-1), 1) := by decide +kernel
theorem dX4_optionBy_40 : decode cX4_optionBy 40 = .ok (.ireturn, 1) := by decide +kernel
theorem dX4_claimsOf_0 : decode cX4_claimsOf 0 = .ok (.aload_n 0, 1) := by decide +kernel
theorem dX4_claimsOf_1 : decode cX4_claimsOf 1 = .ok (.iload_n 1, 1) := by decide +kernel
theorem dX4_claimsOf_2 : decode cX4_claimsOf 2 = .ok (.iconst 3, 1) := by decide +kernel
theorem dX4_claimsOf_3 : decode cX4_claimsOf 3 = .ok (.invokevirtual 216, 3) := by decide +kernel
theorem dX4_claimsOf_6 : decode cX4_claimsOf 6 = .ok (.istore_n 2, 1) := by decide +kernel
theorem dX4_claimsOf_7 : decode cX4_claimsOf 7 = .ok (.aload_n 0, 1) := by decide +kernel
theorem dX4_claimsOf_8 : decode cX4_claimsOf 8 = .ok (.getfield 53, 3) := by decide +kernel
theorem dX4_claimsOf_11 : decode cX4_claimsOf 11 = .ok (.iload_n 1, 1) := by decide +kernel
theorem dX4_claimsOf_12 : decode cX4_claimsOf 12 = .ok (.iconst 0, 1) := by decide +kernel
theorem dX4_claimsOf_13 : decode cX4_claimsOf 13 = .ok (.bastore, 1) := by decide +kernel
theorem dX4_claimsOf_14 : decode cX4_claimsOf 14 = .ok (.iload_n 1, 1) := by decide +kernel
theorem dX4_claimsOf_15 : decode cX4_claimsOf 15 = .ok (.aload_n 0, 1) := by decide +kernel
theorem dX4_claimsOf_16 : decode cX4_claimsOf 16 = .ok (.getfield 62, 3) := by decide +kernel
theorem dX4_claimsOf_19 : decode cX4_claimsOf 19 = .ok (.if_icmp .ne 4, 3) := by decide +kernel
theorem dX4_claimsOf_22 : decode cX4_claimsOf 22 = .ok (.return_, 1) := by decide +kernel
theorem dX4_claimsOf_23 : decode cX4_claimsOf 23 = .ok (.iload_n 1, 1) := by decide +kernel
theorem dX4_claimsOf_24 : decode cX4_claimsOf 24 = .ok (.aload_n 0, 1) := by decide +kernel
theorem dX4_claimsOf_25 : decode cX4_claimsOf 25 = .ok (.getfield 56, 3) := by decide +kernel
theorem dX4_claimsOf_28 : decode cX4_claimsOf 28 = .ok (.if_icmp .ne 27, 3) := by decide +kernel
theorem dX4_claimsOf_31 : decode cX4_claimsOf 31 = .ok (.aload_n 0, 1) := by decide +kernel
theorem dX4_claimsOf_32 : decode cX4_claimsOf 32 = .ok (.iconst 1, 1) := by decide +kernel
theorem dX4_claimsOf_33 : decode cX4_claimsOf 33 = .ok (.iload_n 1, 1) := by decide +kernel
theorem dX4_claimsOf_34 : decode cX4_claimsOf 34 = .ok (.aload_n 0, 1) := by decide +kernel
theorem dX4_claimsOf_35 : decode cX4_claimsOf 35 = .ok (.iload_n 1, 1) := by decide +kernel
theorem dX4_claimsOf_36 : decode cX4_claimsOf 36 = .ok (.iconst 0, 1) := by decide +kernel
theorem dX4_claimsOf_37 : decode cX4_claimsOf 37 = .ok (.invokevirtual 216, 3) := by decide +kernel
theorem dX4_claimsOf_40 : decode cX4_claimsOf 40 = .ok (.aload_n 0, 1) := by decide +kernel
theorem dX4_claimsOf_41 : decode cX4_claimsOf 41 = .ok (.getfield 250, 3) := by decide +kernel
theorem dX4_claimsOf_44 : decode cX4_claimsOf 44 = .ok (.aload_n 0, 1) := by decide +kernel
theorem dX4_claimsOf_45 : decode cX4_claimsOf 45 = .ok (.iload_n 2, 1) := by decide +kernel
theorem dX4_claimsOf_46 : decode cX4_claimsOf 46 = .ok (.iload_n 1, 1) := by decide +kernel
theorem dX4_claimsOf_47 : decode cX4_claimsOf 47 = .ok (.invokevirtual 253, 3) := by decide +kernel
theorem dX4_claimsOf_50 : decode cX4_claimsOf 50 = .ok (.iconst 0, 1) := by decide +kernel
theorem dX4_claimsOf_51 : decode cX4_claimsOf 51 = .ok (.invokevirtual 256, 3) := by decide +kernel
theorem dX4_claimsOf_54 : decode cX4_claimsOf 54 = .ok (.return_, 1) := by decide +kernel
theorem dX4_claimsOf_55 : decode cX4_claimsOf 55 = .ok (.iconst 0, 1) := by decide +kernel
theorem dX4_claimsOf_56 : decode cX4_claimsOf 56 = .ok (.istore_n 3, 1) := by decide +kernel
theorem dX4_claimsOf_57 : decode cX4_claimsOf 57 = .ok (.iload_n 3, 1) := by decide +kernel
theorem dX4_claimsOf_58 : decode cX4_claimsOf 58 = .ok (.aload_n 0, 1) := by decide +kernel
theorem dX4_claimsOf_59 : decode cX4_claimsOf 59 = .ok (.getfield 7, 3) := by decide +kernel
theorem dX4_claimsOf_62 : decode cX4_claimsOf 62 = .ok (.iconst 3, 1) := by decide +kernel
theorem dX4_claimsOf_63 : decode cX4_claimsOf 63 = .ok (.iaload, 1) := by decide +kernel
theorem dX4_claimsOf_64 : decode cX4_claimsOf 64 = .ok (.if_icmp .ge 67, 3) := by decide +kernel
theorem dX4_claimsOf_67 : decode cX4_claimsOf 67 = .ok (.aload_n 0, 1) := by decide +kernel
theorem dX4_claimsOf_68 : decode cX4_claimsOf 68 = .ok (.iload_n 3, 1) := by decide +kernel
theorem dX4_claimsOf_69 : decode cX4_claimsOf 69 = .ok (.iconst 0, 1) := by decide +kernel
theorem dX4_claimsOf_70 : decode cX4_claimsOf 70 = .ok (.invokevirtual 225, 3) := by decide +kernel
theorem dX4_claimsOf_73 : decode cX4_claimsOf 73 = .ok (.iload_n 1, 1) := by decide +kernel
theorem dX4_claimsOf_74 : decode cX4_claimsOf 74 = .ok (.if_icmp .ne 51, 3) := by decide +kernel
theorem dX4_claimsOf_77 : decode cX4_claimsOf 77 = .ok (.aload_n 0, 1) := by decide +kernel
theorem dX4_claimsOf_78 : decode cX4_claimsOf 78 = .ok (.iload_n 3, 1) := by decide +kernel
theorem dX4_claimsOf_79 : decode cX4_claimsOf 79 = .ok (.iconst 3, 1) := by decide +kernel
theorem dX4_claimsOf_80 : decode cX4_claimsOf 80 = .ok (.invokevirtual 225, 3) := by decide +kernel
theorem dX4_claimsOf_83 : decode cX4_claimsOf 83 = .ok (.iload_n 2, 1) := by decide +kernel
theorem dX4_claimsOf_84 : decode cX4_claimsOf 84 = .ok (.invokestatic 260, 3) := by decide +kernel
theorem dX4_claimsOf_87 : decode cX4_claimsOf 87 = .ok (.istore 4, 2) := by decide +kernel
theorem dX4_claimsOf_89 : decode cX4_claimsOf 89 = .ok (.iload_n 2, 1) := by decide +kernel
theorem dX4_claimsOf_90 : decode cX4_claimsOf 90 = .ok (.iload 4, 2) := by decide +kernel
theorem dX4_claimsOf_92 : decode cX4_claimsOf 92 = .ok (.isub, 1) := by decide +kernel
theorem dX4_claimsOf_93 : decode cX4_claimsOf 93 = .ok (.istore_n 2, 1) := by decide +kernel
theorem dX4_claimsOf_94 : decode cX4_claimsOf 94 = .ok (.aload_n 0, 1) := by decide +kernel
theorem dX4_claimsOf_95 : decode cX4_claimsOf 95 = .ok (.iconst 1, 1) := by decide +kernel
theorem dX4_claimsOf_96 : decode cX4_claimsOf 96 = .ok (.iload_n 1, 1) := by decide +kernel
theorem dX4_claimsOf_97 : decode cX4_claimsOf 97 = .ok (.aload_n 0, 1) := by decide +kernel
theorem dX4_claimsOf_98 : decode cX4_claimsOf 98 = .ok (.iload_n 3, 1) := by decide +kernel
theorem dX4_claimsOf_99 : decode cX4_claimsOf 99 = .ok (.iconst 1, 1) := by decide +kernel
theorem dX4_claimsOf_100 : decode cX4_claimsOf 100 = .ok (.invokevirtual 225, 3) := by decide +kernel
theorem dX4_claimsOf_103 : decode cX4_claimsOf 103 = .ok (.aload_n 0, 1) := by decide +kernel
theorem dX4_claimsOf_104 : decode cX4_claimsOf 104 = .ok (.iload_n 3, 1) := by decide +kernel
theorem dX4_claimsOf_105 : decode cX4_claimsOf 105 = .ok (.iconst 2, 1) := by decide +kernel
theorem dX4_claimsOf_106 : decode cX4_claimsOf 106 = .ok (.invokevirtual 225, 3) := by decide +kernel
theorem dX4_claimsOf_109 : decode cX4_claimsOf 109 = .ok (.aload_n 0, 1) := by decide +kernel
theorem dX4_claimsOf_110 : decode cX4_claimsOf 110 = .ok (.iload 4, 2) := by decide +kernel
theorem dX4_claimsOf_112 : decode cX4_claimsOf 112 = .ok (.iload_n 1, 1) := by decide +kernel
theorem dX4_claimsOf_113 : decode cX4_claimsOf 113 = .ok (.invokevirtual 253, 3) := by decide +kernel
theorem dX4_claimsOf_116 : decode cX4_claimsOf 116 = .ok (.aload_n 0, 1) := by decide +kernel
theorem dX4_claimsOf_117 : decode cX4_claimsOf 117 = .ok (.iload_n 3, 1) := by decide +kernel
theorem dX4_claimsOf_118 : decode cX4_claimsOf 118 = .ok (.iconst 4, 1) := by decide +kernel
theorem dX4_claimsOf_119 : decode cX4_claimsOf 119 = .ok (.invokevirtual 225, 3) := by decide +kernel
theorem dX4_claimsOf_122 : decode cX4_claimsOf 122 = .ok (.invokevirtual 256, 3) := by decide +kernel
theorem dX4_claimsOf_125 : decode cX4_claimsOf 125 = .ok (.iinc 3 1, 3) := by decide +kernel
theorem dX4_claimsOf_128 : decode cX4_claimsOf 128 = .ok (.goto (-71), 3) := by decide +kernel
theorem dX4_claimsOf_131 : decode cX4_claimsOf 131 = .ok (.iload_n 1, 1) := by decide +kernel
theorem dX4_claimsOf_132 : decode cX4_claimsOf 132 = .ok (.aload_n 0, 1) := by decide +kernel
theorem dX4_claimsOf_133 : decode cX4_claimsOf 133 = .ok (.getfield 59, 3) := by decide +kernel
theorem dX4_claimsOf_136 : decode cX4_claimsOf 136 = .ok (.if_icmp .ne 39, 3) := by decide +kernel
theorem dX4_claimsOf_139 : decode cX4_claimsOf 139 = .ok (.aload_n 0, 1) := by decide +kernel
theorem dX4_claimsOf_140 : decode cX4_claimsOf 140 = .ok (.getfield 263, 3) := by decide +kernel
theorem dX4_claimsOf_143 : decode cX4_claimsOf 143 = .ok (.iload_n 2, 1) := by decide +kernel
theorem dX4_claimsOf_144 : decode cX4_claimsOf 144 = .ok (.invokestatic 260, 3) := by decide +kernel
theorem dX4_claimsOf_147 : decode cX4_claimsOf 147 = .ok (.istore_n 3, 1) := by decide +kernel
theorem dX4_claimsOf_148 : decode cX4_claimsOf 148 = .ok (.iload_n 2, 1) := by decide +kernel
theorem dX4_claimsOf_149 : decode cX4_claimsOf 149 = .ok (.iload_n 3, 1) := by decide +kernel
theorem dX4_claimsOf_150 : decode cX4_claimsOf 150 = .ok (.isub, 1) := by decide +kernel
theorem dX4_claimsOf_151 : decode cX4_claimsOf 151 = .ok (.istore_n 2, 1) := by decide +kernel
theorem dX4_claimsOf_152 : decode cX4_claimsOf 152 = .ok (.aload_n 0, 1) := by decide +kernel
theorem dX4_claimsOf_153 : decode cX4_claimsOf 153 = .ok (.iconst 1, 1) := by decide +kernel
theorem dX4_claimsOf_154 : decode cX4_claimsOf 154 = .ok (.iload_n 1, 1) := by decide +kernel
theorem dX4_claimsOf_155 : decode cX4_claimsOf 155 = .ok (.aload_n 0, 1) := by decide +kernel
theorem dX4_claimsOf_156 : decode cX4_claimsOf 156 = .ok (.iload_n 1, 1) := by decide +kernel
theorem dX4_claimsOf_157 : decode cX4_claimsOf 157 = .ok (.iconst 0, 1) := by decide +kernel
theorem dX4_claimsOf_158 : decode cX4_claimsOf 158 = .ok (.invokevirtual 216, 3) := by decide +kernel
theorem dX4_claimsOf_161 : decode cX4_claimsOf 161 = .ok (.aload_n 0, 1) := by decide +kernel
theorem dX4_claimsOf_162 : decode cX4_claimsOf 162 = .ok (.getfield 250, 3) := by decide +kernel
theorem dX4_claimsOf_165 : decode cX4_claimsOf 165 = .ok (.aload_n 0, 1) := by decide +kernel
theorem dX4_claimsOf_166 : decode cX4_claimsOf 166 = .ok (.iload_n 3, 1) := by decide +kernel
theorem dX4_claimsOf_167 : decode cX4_claimsOf 167 = .ok (.iload_n 1, 1) := by decide +kernel
theorem dX4_claimsOf_168 : decode cX4_claimsOf 168 = .ok (.invokevirtual 253, 3) := by decide +kernel
theorem dX4_claimsOf_171 : decode cX4_claimsOf 171 = .ok (.iconst 0, 1) := by decide +kernel
theorem dX4_claimsOf_172 : decode cX4_claimsOf 172 = .ok (.invokevirtual 256, 3) := by decide +kernel
theorem dX4_claimsOf_175 : decode cX4_claimsOf 175 = .ok (.aload_n 0, 1) := by decide +kernel
theorem dX4_claimsOf_176 : decode cX4_claimsOf 176 = .ok (.iload_n 1, 1) := by decide +kernel
theorem dX4_claimsOf_177 : decode cX4_claimsOf 177 = .ok (.invokevirtual 266, 3) := by decide +kernel
theorem dX4_claimsOf_180 : decode cX4_claimsOf 180 = .ok (.istore_n 3, 1) := by decide +kernel
theorem dX4_claimsOf_181 : decode cX4_claimsOf 181 = .ok (.iload_n 3, 1) := by decide +kernel
theorem dX4_claimsOf_182 : decode cX4_claimsOf 182 = .ok (.iconst (-1), 1) := by decide +kernel
theorem dX4_claimsOf_183 : decode cX4_claimsOf 183 = .ok (.if_icmp .eq 36, 3) := by decide +kernel
theorem dX4_claimsOf_186 : decode cX4_claimsOf 186 = .ok (.aload_n 0, 1) := by decide +kernel
theorem dX4_claimsOf_187 : decode cX4_claimsOf 187 = .ok (.iconst 2, 1) := by decide +kernel
theorem dX4_claimsOf_188 : decode cX4_claimsOf 188 = .ok (.iload_n 1, 1) := by decide +kernel
theorem dX4_claimsOf_189 : decode cX4_claimsOf 189 = .ok (.aload_n 0, 1) := by decide +kernel
theorem dX4_claimsOf_190 : decode cX4_claimsOf 190 = .ok (.iload_n 3, 1) := by decide +kernel
theorem dX4_claimsOf_191 : decode cX4_claimsOf 191 = .ok (.iconst 1, 1) := by decide +kernel
theorem dX4_claimsOf_192 : decode cX4_claimsOf 192 = .ok (.invokevirtual 228, 3) := by decide +kernel
theorem dX4_claimsOf_195 : decode cX4_claimsOf 195 = .ok (.aload_n 0, 1) := by decide +kernel
theorem dX4_claimsOf_196 : decode cX4_claimsOf 196 = .ok (.iload_n 3, 1) := by decide +kernel
theorem dX4_claimsOf_197 : decode cX4_claimsOf 197 = .ok (.iconst 2, 1) := by decide +kernel
theorem dX4_claimsOf_198 : decode cX4_claimsOf 198 = .ok (.invokevirtual 228, 3) := by decide +kernel
theorem dX4_claimsOf_201 : decode cX4_claimsOf 201 = .ok (.aload_n 0, 1) := by decide +kernel
theorem dX4_claimsOf_202 : decode cX4_claimsOf 202 = .ok (.iload_n 2, 1) := by decide +kernel
theorem dX4_claimsOf_203 : decode cX4_claimsOf 203 = .ok (.iload_n 1, 1) := by decide +kernel
theorem dX4_claimsOf_204 : decode cX4_claimsOf 204 = .ok (.invokevirtual 253, 3) := by decide +kernel
theorem dX4_claimsOf_207 : decode cX4_claimsOf 207 = .ok (.aload_n 0, 1) := by decide +kernel
theorem dX4_claimsOf_208 : decode cX4_claimsOf 208 = .ok (.iload_n 3, 1) := by decide +kernel
theorem dX4_claimsOf_209 : decode cX4_claimsOf 209 = .ok (.iconst 5, 1) := by decide +kernel
theorem dX4_claimsOf_210 : decode cX4_claimsOf 210 = .ok (.invokevirtual 228, 3) := by decide +kernel
theorem dX4_claimsOf_213 : decode cX4_claimsOf 213 = .ok (.invokevirtual 256, 3) := by decide +kernel
theorem dX4_claimsOf_216 : decode cX4_claimsOf 216 = .ok (.goto 23, 3) := by decide +kernel
theorem dX4_claimsOf_219 : decode cX4_claimsOf 219 = .ok (.aload_n 0, 1) := by decide +kernel
theorem dX4_claimsOf_220 : decode cX4_claimsOf 220 = .ok (.iconst 0, 1) := by decide +kernel
theorem dX4_claimsOf_221 : decode cX4_claimsOf 221 = .ok (.iload_n 1, 1) := by decide +kernel
theorem dX4_claimsOf_222 : decode cX4_claimsOf 222 = .ok (.aload_n 0, 1) := by decide +kernel
theorem dX4_claimsOf_223 : decode cX4_claimsOf 223 = .ok (.iload_n 1, 1) := by decide +kernel
theorem dX4_claimsOf_224 : decode cX4_claimsOf 224 = .ok (.iconst 0, 1) := by decide +kernel
theorem dX4_claimsOf_225 : decode cX4_claimsOf 225 = .ok (.invokevirtual 216, 3) := by decide +kernel
theorem dX4_claimsOf_228 : decode cX4_claimsOf 228 = .ok (.aload_n 0, 1) := by decide +kernel
theorem dX4_claimsOf_229 : decode cX4_claimsOf 229 = .ok (.iload_n 1, 1) := by decide +kernel
theorem dX4_claimsOf_230 : decode cX4_claimsOf 230 = .ok (.iconst 1, 1) := by decide +kernel
theorem dX4_claimsOf_231 : decode cX4_claimsOf 231 = .ok (.invokevirtual 216, 3) := by decide +kernel
theorem dX4_claimsOf_234 : decode cX4_claimsOf 234 = .ok (.iload_n 2, 1) := by decide +kernel
theorem dX4_claimsOf_235 : decode cX4_claimsOf 235 = .ok (.iconst 0, 1) := by decide +kernel
theorem dX4_claimsOf_236 : decode cX4_claimsOf 236 = .ok (.invokevirtual 256, 3) := by decide +kernel
theorem dX4_claimsOf_239 : decode cX4_claimsOf 239 = .ok (.return_, 1) := by decide +kernel
theorem dX4_endsMonth_0 : decode cX4_endsMonth 0 = .ok (.iconst 0, 1) := by decide +kernel
theorem dX4_endsMonth_1 : decode cX4_endsMonth 1 = .ok (.istore_n 1, 1) := by decide +kernel
theorem dX4_endsMonth_2 : decode cX4_endsMonth 2 = .ok (.iconst 0, 1) := by decide +kernel
theorem dX4_endsMonth_3 : decode cX4_endsMonth 3 = .ok (.istore_n 2, 1) := by decide +kernel
theorem dX4_endsMonth_4 : decode cX4_endsMonth 4 = .ok (.iload_n 2, 1) := by decide +kernel
theorem dX4_endsMonth_5 : decode cX4_endsMonth 5 = .ok (.aload_n 0, 1) := by decide +kernel
theorem dX4_endsMonth_6 : decode cX4_endsMonth 6 = .ok (.getfield 7, 3) := by decide +kernel
theorem dX4_endsMonth_9 : decode cX4_endsMonth 9 = .ok (.iconst 3, 1) := by decide +kernel
theorem dX4_endsMonth_10 : decode cX4_endsMonth 10 = .ok (.iaload, 1) := by decide +kernel
theorem dX4_endsMonth_11 : decode cX4_endsMonth 11 = .ok (.if_icmp .ge 83, 3) := by decide +kernel
theorem dX4_endsMonth_14 : decode cX4_endsMonth 14 = .ok (.aload_n 0, 1) := by decide +kernel
theorem dX4_endsMonth_15 : decode cX4_endsMonth 15 = .ok (.iload_n 2, 1) := by decide +kernel
theorem dX4_endsMonth_16 : decode cX4_endsMonth 16 = .ok (.iconst 5, 1) := by decide +kernel
theorem dX4_endsMonth_17 : decode cX4_endsMonth 17 = .ok (.invokevirtual 225, 3) := by decide +kernel
theorem dX4_endsMonth_20 : decode cX4_endsMonth 20 = .ok (.iconst 1, 1) := by decide +kernel
theorem dX4_endsMonth_21 : decode cX4_endsMonth 21 = .ok (.isub, 1) := by decide +kernel
theorem dX4_endsMonth_22 : decode cX4_endsMonth 22 = .ok (.istore_n 3, 1) := by decide +kernel
theorem dX4_endsMonth_23 : decode cX4_endsMonth 23 = .ok (.iconst 0, 1) := by decide +kernel
theorem dX4_endsMonth_24 : decode cX4_endsMonth 24 = .ok (.istore 4, 2) := by decide +kernel
theorem dX4_endsMonth_26 : decode cX4_endsMonth 26 = .ok (.iload 4, 2) := by decide +kernel
theorem dX4_endsMonth_28 : decode cX4_endsMonth 28 = .ok (.bipush 6, 2) := by decide +kernel
theorem dX4_endsMonth_30 : decode cX4_endsMonth 30 = .ok (.if_icmp .ge 46, 3) := by decide +kernel
theorem dX4_endsMonth_33 : decode cX4_endsMonth 33 = .ok (.iload_n 3, 1) := by decide +kernel
theorem dX4_endsMonth_34 : decode cX4_endsMonth 34 = .ok (.ifCond .le 42, 3) := by decide +kernel
theorem dX4_endsMonth_37 : decode cX4_endsMonth 37 = .ok (.aload_n 0, 1) := by decide +kernel
theorem dX4_endsMonth_38 : decode cX4_endsMonth 38 = .ok (.getfield 7, 3) := by decide +kernel
theorem dX4_endsMonth_41 : decode cX4_endsMonth 41 = .ok (.sipush 158, 3) := by decide +kernel
theorem dX4_endsMonth_44 : decode cX4_endsMonth 44 = .ok (.bipush 6, 2) := by decide +kernel
theorem dX4_endsMonth_46 : decode cX4_endsMonth 46 = .ok (.iload_n 1, 1) := by decide +kernel
theorem dX4_endsMonth_47 : decode cX4_endsMonth 47 = .ok (.imul, 1) := by decide +kernel
theorem dX4_endsMonth_48 : decode cX4_endsMonth 48 = .ok (.iadd, 1) := by decide +kernel
theorem dX4_endsMonth_49 : decode cX4_endsMonth 49 = .ok (.iload 4, 2) := by decide +kernel
theorem dX4_endsMonth_51 : decode cX4_endsMonth 51 = .ok (.iadd, 1) := by decide +kernel
theorem dX4_endsMonth_52 : decode cX4_endsMonth 52 = .ok (.iload 4, 2) := by decide +kernel
theorem dX4_endsMonth_54 : decode cX4_endsMonth 54 = .ok (.iconst 5, 1) := by decide +kernel
theorem dX4_endsMonth_55 : decode cX4_endsMonth 55 = .ok (.if_icmp .ne 7, 3) := by decide +kernel
theorem dX4_endsMonth_58 : decode cX4_endsMonth 58 = .ok (.iload_n 3, 1) := by decide +kernel
theorem dX4_endsMonth_59 : decode cX4_endsMonth 59 = .ok (.goto 10, 3) := by decide +kernel
theorem dX4_endsMonth_62 : decode cX4_endsMonth 62 = .ok (.aload_n 0, 1) := by decide +kernel
theorem dX4_endsMonth_63 : decode cX4_endsMonth 63 = .ok (.iload_n 2, 1) := by decide +kernel
theorem dX4_endsMonth_64 : decode cX4_endsMonth 64 = .ok (.iload 4, 2) := by decide +kernel
theorem dX4_endsMonth_66 : decode cX4_endsMonth 66 = .ok (.invokevirtual 225, 3) := by decide +kernel
theorem dX4_endsMonth_69 : decode cX4_endsMonth 69 = .ok (.iastore, 1) := by decide +kernel
theorem dX4_endsMonth_70 : decode cX4_endsMonth 70 = .ok (.iinc 4 1, 3) := by decide +kernel
theorem dX4_endsMonth_73 : decode cX4_endsMonth 73 = .ok (.goto (-47), 3) := by decide +kernel
theorem dX4_endsMonth_76 : decode cX4_endsMonth 76 = .ok (.iload_n 1, 1) := by decide +kernel
theorem dX4_endsMonth_77 : decode cX4_endsMonth 77 = .ok (.iload_n 3, 1) := by decide +kernel
theorem dX4_endsMonth_78 : decode cX4_endsMonth 78 = .ok (.ifCond .le 7, 3) := by decide +kernel
theorem dX4_endsMonth_81 : decode cX4_endsMonth 81 = .ok (.iconst 1, 1) := by decide +kernel
theorem dX4_endsMonth_82 : decode cX4_endsMonth 82 = .ok (.goto 4, 3) := by decide +kernel
theorem dX4_endsMonth_85 : decode cX4_endsMonth 85 = .ok (.iconst 0, 1) := by decide +kernel
theorem dX4_endsMonth_86 : decode cX4_endsMonth 86 = .ok (.iadd, 1) := by decide +kernel
theorem dX4_endsMonth_87 : decode cX4_endsMonth 87 = .ok (.istore_n 1, 1) := by decide +kernel
theorem dX4_endsMonth_88 : decode cX4_endsMonth 88 = .ok (.iinc 2 1, 3) := by decide +kernel
theorem dX4_endsMonth_91 : decode cX4_endsMonth 91 = .ok (.goto (-87), 3) := by decide +kernel
theorem dX4_endsMonth_94 : decode cX4_endsMonth 94 = .ok (.aload_n 0, 1) := by decide +kernel
theorem dX4_endsMonth_95 : decode cX4_endsMonth 95 = .ok (.getfield 7, 3) := by decide +kernel
theorem dX4_endsMonth_98 : decode cX4_endsMonth 98 = .ok (.iconst 3, 1) := by decide +kernel
theorem dX4_endsMonth_99 : decode cX4_endsMonth 99 = .ok (.iload_n 1, 1) := by decide +kernel
theorem dX4_endsMonth_100 : decode cX4_endsMonth 100 = .ok (.iastore, 1) := by decide +kernel
theorem dX4_endsMonth_101 : decode cX4_endsMonth 101 = .ok (.iconst 0, 1) := by decide +kernel
theorem dX4_endsMonth_102 : decode cX4_endsMonth 102 = .ok (.istore_n 2, 1) := by decide +kernel
theorem dX4_endsMonth_103 : decode cX4_endsMonth 103 = .ok (.iload_n 2, 1) := by decide +kernel
theorem dX4_endsMonth_104 : decode cX4_endsMonth 104 = .ok (.aload_n 0, 1) := by decide +kernel
theorem dX4_endsMonth_105 : decode cX4_endsMonth 105 = .ok (.getfield 7, 3) := by decide +kernel
theorem dX4_endsMonth_108 : decode cX4_endsMonth 108 = .ok (.iconst 1, 1) := by decide +kernel
theorem dX4_endsMonth_109 : decode cX4_endsMonth 109 = .ok (.iaload, 1) := by decide +kernel
theorem dX4_endsMonth_110 : decode cX4_endsMonth 110 = .ok (.if_icmp .ge 57, 3) := by decide +kernel
theorem dX4_endsMonth_113 : decode cX4_endsMonth 113 = .ok (.aload_n 0, 1) := by decide +kernel
theorem dX4_endsMonth_114 : decode cX4_endsMonth 114 = .ok (.getfield 7, 3) := by decide +kernel
theorem dX4_endsMonth_117 : decode cX4_endsMonth 117 = .ok (.bipush 26, 2) := by decide +kernel
theorem dX4_endsMonth_119 : decode cX4_endsMonth 119 = .ok (.iload_n 2, 1) := by decide +kernel
theorem dX4_endsMonth_120 : decode cX4_endsMonth 120 = .ok (.iadd, 1) := by decide +kernel
theorem dX4_endsMonth_121 : decode cX4_endsMonth 121 = .ok (.iaload, 1) := by decide +kernel
theorem dX4_endsMonth_122 : decode cX4_endsMonth 122 = .ok (.aload_n 0, 1) := by decide +kernel
theorem dX4_endsMonth_123 : decode cX4_endsMonth 123 = .ok (.getfield 7, 3) := by decide +kernel
theorem dX4_endsMonth_126 : decode cX4_endsMonth 126 = .ok (.bipush 6, 2) := by decide +kernel
theorem dX4_endsMonth_128 : decode cX4_endsMonth 128 = .ok (.iaload, 1) := by decide +kernel
theorem dX4_endsMonth_129 : decode cX4_endsMonth 129 = .ok (.imul, 1) := by decide +kernel
theorem dX4_endsMonth_130 : decode cX4_endsMonth 130 = .ok (.bipush 99, 2) := by decide +kernel
theorem dX4_endsMonth_132 : decode cX4_endsMonth 132 = .ok (.iadd, 1) := by decide +kernel
theorem dX4_endsMonth_133 : decode cX4_endsMonth 133 = .ok (.bipush 100, 2) := by decide +kernel
theorem dX4_endsMonth_135 : decode cX4_endsMonth 135 = .ok (.idiv, 1) := by decide +kernel
theorem dX4_endsMonth_136 : decode cX4_endsMonth 136 = .ok (.istore_n 3, 1) := by decide +kernel
theorem dX4_endsMonth_137 : decode cX4_endsMonth 137 = .ok (.aload_n 0, 1) := by decide +kernel
theorem dX4_endsMonth_138 : decode cX4_endsMonth 138 = .ok (.getfield 7, 3) := by decide +kernel
theorem dX4_endsMonth_141 : decode cX4_endsMonth 141 = .ok (.bipush 26, 2) := by decide +kernel
theorem dX4_endsMonth_143 : decode cX4_endsMonth 143 = .ok (.iload_n 2, 1) := by decide +kernel
theorem dX4_endsMonth_144 : decode cX4_endsMonth 144 = .ok (.iadd, 1) := by decide +kernel
theorem dX4_endsMonth_145 : decode cX4_endsMonth 145 = .ok (.dup2, 1) := by decide +kernel
theorem dX4_endsMonth_146 : decode cX4_endsMonth 146 = .ok (.iaload, 1) := by decide +kernel
theorem dX4_endsMonth_147 : decode cX4_endsMonth 147 = .ok (.iload_n 3, 1) := by decide +kernel
theorem dX4_endsMonth_148 : decode cX4_endsMonth 148 = .ok (.isub, 1) := by decide +kernel
theorem dX4_endsMonth_149 : decode cX4_endsMonth 149 = .ok (.iastore, 1) := by decide +kernel
theorem dX4_endsMonth_150 : decode cX4_endsMonth 150 = .ok (.aload_n 0, 1) := by decide +kernel
theorem dX4_endsMonth_151 : decode cX4_endsMonth 151 = .ok (.getfield 7, 3) := by decide +kernel
theorem dX4_endsMonth_154 : decode cX4_endsMonth 154 = .ok (.bipush 54, 2) := by decide +kernel
theorem dX4_endsMonth_156 : decode cX4_endsMonth 156 = .ok (.dup2, 1) := by decide +kernel
theorem dX4_endsMonth_157 : decode cX4_endsMonth 157 = .ok (.iaload, 1) := by decide +kernel
theorem dX4_endsMonth_158 : decode cX4_endsMonth 158 = .ok (.iload_n 3, 1) := by decide +kernel
theorem dX4_endsMonth_159 : decode cX4_endsMonth 159 = .ok (.iadd, 1) := by decide +kernel
theorem dX4_endsMonth_160 : decode cX4_endsMonth 160 = .ok (.iastore, 1) := by decide +kernel
theorem dX4_endsMonth_161 : decode cX4_endsMonth 161 = .ok (.iinc 2 1, 3) := by decide +kernel
theorem dX4_endsMonth_164 : decode cX4_endsMonth 164 = .ok (.goto (-61), 3) := by decide +kernel
theorem dX4_endsMonth_167 : decode cX4_endsMonth 167 = .ok (.iconst 0, 1) := by decide +kernel
theorem dX4_endsMonth_168 : decode cX4_endsMonth 168 = .ok (.istore_n 2, 1) := by decide +kernel
theorem dX4_endsMonth_169 : decode cX4_endsMonth 169 = .ok (.iload_n 2, 1) := by decide +kernel
theorem dX4_endsMonth_170 : decode cX4_endsMonth 170 = .ok (.aload_n 0, 1) := by decide +kernel
theorem dX4_endsMonth_171 : decode cX4_endsMonth 171 = .ok (.getfield 7, 3) := by decide +kernel
theorem dX4_endsMonth_174 : decode cX4_endsMonth 174 = .ok (.iconst 0, 1) := by decide +kernel
theorem dX4_endsMonth_175 : decode cX4_endsMonth 175 = .ok (.iaload, 1) := by decide +kernel
theorem dX4_endsMonth_176 : decode cX4_endsMonth 176 = .ok (.if_icmp .ge 39, 3) := by decide +kernel
theorem dX4_endsMonth_179 : decode cX4_endsMonth 179 = .ok (.aload_n 0, 1) := by decide +kernel
theorem dX4_endsMonth_180 : decode cX4_endsMonth 180 = .ok (.getfield 7, 3) := by decide +kernel
theorem dX4_endsMonth_183 : decode cX4_endsMonth 183 = .ok (.sipush 394, 3) := by decide +kernel
theorem dX4_endsMonth_186 : decode cX4_endsMonth 186 = .ok (.iconst 5, 1) := by decide +kernel
theorem dX4_endsMonth_187 : decode cX4_endsMonth 187 = .ok (.iload_n 2, 1) := by decide +kernel
theorem dX4_endsMonth_188 : decode cX4_endsMonth 188 = .ok (.imul, 1) := by decide +kernel
theorem dX4_endsMonth_189 : decode cX4_endsMonth 189 = .ok (.iadd, 1) := by decide +kernel
theorem dX4_endsMonth_190 : decode cX4_endsMonth 190 = .ok (.iconst 2, 1) := by decide +kernel
theorem dX4_endsMonth_191 : decode cX4_endsMonth 191 = .ok (.iadd, 1) := by decide +kernel
theorem dX4_endsMonth_192 : decode cX4_endsMonth 192 = .ok (.aload_n 0, 1) := by decide +kernel
theorem dX4_endsMonth_193 : decode cX4_endsMonth 193 = .ok (.getfield 50, 3) := by decide +kernel
theorem dX4_endsMonth_196 : decode cX4_endsMonth 196 = .ok (.iload_n 2, 1) := by decide +kernel
theorem dX4_endsMonth_197 : decode cX4_endsMonth 197 = .ok (.iaload, 1) := by decide +kernel
theorem dX4_endsMonth_198 : decode cX4_endsMonth 198 = .ok (.iastore, 1) := by decide +kernel
theorem dX4_endsMonth_199 : decode cX4_endsMonth 199 = .ok (.aload_n 0, 1) := by decide +kernel
theorem dX4_endsMonth_200 : decode cX4_endsMonth 200 = .ok (.getfield 7, 3) := by decide +kernel
theorem dX4_endsMonth_203 : decode cX4_endsMonth 203 = .ok (.bipush 20, 2) := by decide +kernel
theorem dX4_endsMonth_205 : decode cX4_endsMonth 205 = .ok (.iload_n 2, 1) := by decide +kernel
theorem dX4_endsMonth_206 : decode cX4_endsMonth 206 = .ok (.iadd, 1) := by decide +kernel
theorem dX4_endsMonth_207 : decode cX4_endsMonth 207 = .ok (.iconst 0, 1) := by decide +kernel
theorem dX4_endsMonth_208 : decode cX4_endsMonth 208 = .ok (.iastore, 1) := by decide +kernel
theorem dX4_endsMonth_209 : decode cX4_endsMonth 209 = .ok (.iinc 2 1, 3) := by decide +kernel
theorem dX4_endsMonth_212 : decode cX4_endsMonth 212 = .ok (.goto (-43), 3) := by decide +kernel
theorem dX4_endsMonth_215 : decode cX4_endsMonth 215 = .ok (.aload_n 0, 1) := by decide +kernel
theorem dX4_endsMonth_216 : decode cX4_endsMonth 216 = .ok (.getfield 7, 3) := by decide +kernel
theorem dX4_endsMonth_219 : decode cX4_endsMonth 219 = .ok (.iconst 5, 1) := by decide +kernel
theorem dX4_endsMonth_220 : decode cX4_endsMonth 220 = .ok (.dup2, 1) := by decide +kernel
theorem dX4_endsMonth_221 : decode cX4_endsMonth 221 = .ok (.iaload, 1) := by decide +kernel
theorem dX4_endsMonth_222 : decode cX4_endsMonth 222 = .ok (.iconst 1, 1) := by decide +kernel
theorem dX4_endsMonth_223 : decode cX4_endsMonth 223 = .ok (.iadd, 1) := by decide +kernel
theorem dX4_endsMonth_224 : decode cX4_endsMonth 224 = .ok (.iastore, 1) := by decide +kernel
theorem dX4_endsMonth_225 : decode cX4_endsMonth 225 = .ok (.aload_n 0, 1) := by decide +kernel
theorem dX4_endsMonth_226 : decode cX4_endsMonth 226 = .ok (.getfield 7, 3) := by decide +kernel
theorem dX4_endsMonth_229 : decode cX4_endsMonth 229 = .ok (.bipush 57, 2) := by decide +kernel
theorem dX4_endsMonth_231 : decode cX4_endsMonth 231 = .ok (.iconst 1, 1) := by decide +kernel
theorem dX4_endsMonth_232 : decode cX4_endsMonth 232 = .ok (.iastore, 1) := by decide +kernel
theorem dX4_endsMonth_233 : decode cX4_endsMonth 233 = .ok (.return_, 1) := by decide +kernel
theorem dX4_month_0 : decode cX4_month 0 = .ok (.aload_n 0, 1) := by decide +kernel
theorem dX4_month_1 : decode cX4_month 1 = .ok (.invokevirtual 269, 3) := by decide +kernel
theorem dX4_month_4 : decode cX4_month 4 = .ok (.aload_n 0, 1) := by decide +kernel
theorem dX4_month_5 : decode cX4_month 5 = .ok (.getfield 7, 3) := by decide +kernel
theorem dX4_month_8 : decode cX4_month 8 = .ok (.bipush 56, 2) := by decide +kernel
theorem dX4_month_10 : decode cX4_month 10 = .ok (.iconst 0, 1) := by decide +kernel
theorem dX4_month_11 : decode cX4_month 11 = .ok (.iastore, 1) := by decide +kernel
theorem dX4_month_12 : decode cX4_month 12 = .ok (.iconst 0, 1) := by decide +kernel
theorem dX4_month_13 : decode cX4_month 13 = .ok (.istore_n 1, 1) := by decide +kernel
theorem dX4_month_14 : decode cX4_month 14 = .ok (.iload_n 1, 1) := by decide +kernel
theorem dX4_month_15 : decode cX4_month 15 = .ok (.aload_n 0, 1) := by decide +kernel
theorem dX4_month_16 : decode cX4_month 16 = .ok (.getfield 7, 3) := by decide +kernel
theorem dX4_month_19 : decode cX4_month 19 = .ok (.iconst 4, 1) := by decide +kernel
theorem dX4_month_20 : decode cX4_month 20 = .ok (.iaload, 1) := by decide +kernel
theorem dX4_month_21 : decode cX4_month 21 = .ok (.if_icmp .ge 49, 3) := by decide +kernel
theorem dX4_month_24 : decode cX4_month 24 = .ok (.aload_n 0, 1) := by decide +kernel
theorem dX4_month_25 : decode cX4_month 25 = .ok (.getfield 7, 3) := by decide +kernel
theorem dX4_month_28 : decode cX4_month 28 = .ok (.iconst 5, 1) := by decide +kernel
theorem dX4_month_29 : decode cX4_month 29 = .ok (.iaload, 1) := by decide +kernel
theorem dX4_month_30 : decode cX4_month 30 = .ok (.bipush 12, 2) := by decide +kernel
theorem dX4_month_32 : decode cX4_month 32 = .ok (.irem, 1) := by decide +kernel
theorem dX4_month_33 : decode cX4_month 33 = .ok (.ifCond .ne 37, 3) := by decide +kernel
theorem dX4_month_36 : decode cX4_month 36 = .ok (.aload_n 0, 1) := by decide +kernel
theorem dX4_month_37 : decode cX4_month 37 = .ok (.aload_n 0, 1) := by decide +kernel
theorem dX4_month_38 : decode cX4_month 38 = .ok (.iload_n 1, 1) := by decide +kernel
theorem dX4_month_39 : decode cX4_month 39 = .ok (.iconst 1, 1) := by decide +kernel
theorem dX4_month_40 : decode cX4_month 40 = .ok (.invokevirtual 228, 3) := by decide +kernel
theorem dX4_month_43 : decode cX4_month 43 = .ok (.aload_n 0, 1) := by decide +kernel
theorem dX4_month_44 : decode cX4_month 44 = .ok (.aload_n 0, 1) := by decide +kernel
theorem dX4_month_45 : decode cX4_month 45 = .ok (.iload_n 1, 1) := by decide +kernel
theorem dX4_month_46 : decode cX4_month 46 = .ok (.iconst 0, 1) := by decide +kernel
theorem dX4_month_47 : decode cX4_month 47 = .ok (.invokevirtual 228, 3) := by decide +kernel
theorem dX4_month_50 : decode cX4_month 50 = .ok (.iconst 0, 1) := by decide +kernel
theorem dX4_month_51 : decode cX4_month 51 = .ok (.invokevirtual 216, 3) := by decide +kernel
theorem dX4_month_54 : decode cX4_month 54 = .ok (.aload_n 0, 1) := by decide +kernel
theorem dX4_month_55 : decode cX4_month 55 = .ok (.iload_n 1, 1) := by decide +kernel
theorem dX4_month_56 : decode cX4_month 56 = .ok (.iconst 4, 1) := by decide +kernel
theorem dX4_month_57 : decode cX4_month 57 = .ok (.invokevirtual 228, 3) := by decide +kernel
theorem dX4_month_60 : decode cX4_month 60 = .ok (.i2l, 1) := by decide +kernel
theorem dX4_month_61 : decode cX4_month 61 = .ok (.invokevirtual 246, 3) := by decide +kernel
theorem dX4_month_64 : decode cX4_month 64 = .ok (.iinc 1 1, 3) := by decide +kernel
theorem dX4_month_67 : decode cX4_month 67 = .ok (.goto (-53), 3) := by decide +kernel
theorem dX4_month_70 : decode cX4_month 70 = .ok (.iconst 0, 1) := by decide +kernel
theorem dX4_month_71 : decode cX4_month 71 = .ok (.istore_n 1, 1) := by decide +kernel
theorem dX4_month_72 : decode cX4_month 72 = .ok (.iload_n 1, 1) := by decide +kernel
theorem dX4_month_73 : decode cX4_month 73 = .ok (.aload_n 0, 1) := by decide +kernel
theorem dX4_month_74 : decode cX4_month 74 = .ok (.getfield 7, 3) := by decide +kernel
theorem dX4_month_77 : decode cX4_month 77 = .ok (.iconst 2, 1) := by decide +kernel
theorem dX4_month_78 : decode cX4_month 78 = .ok (.iaload, 1) := by decide +kernel
theorem dX4_month_79 : decode cX4_month 79 = .ok (.if_icmp .ge 18, 3) := by decide +kernel
theorem dX4_month_82 : decode cX4_month 82 = .ok (.aload_n 0, 1) := by decide +kernel
theorem dX4_month_83 : decode cX4_month 83 = .ok (.aload_n 0, 1) := by decide +kernel
theorem dX4_month_84 : decode cX4_month 84 = .ok (.iload_n 1, 1) := by decide +kernel
theorem dX4_month_85 : decode cX4_month 85 = .ok (.invokevirtual 219, 3) := by decide +kernel
theorem dX4_month_88 : decode cX4_month 88 = .ok (.invokevirtual 272, 3) := by decide +kernel
theorem dX4_month_91 : decode cX4_month 91 = .ok (.iinc 1 1, 3) := by decide +kernel
theorem dX4_month_94 : decode cX4_month 94 = .ok (.goto (-22), 3) := by decide +kernel
theorem dX4_month_97 : decode cX4_month 97 = .ok (.iconst 0, 1) := by decide +kernel
theorem dX4_month_98 : decode cX4_month 98 = .ok (.istore_n 1, 1) := by decide +kernel
theorem dX4_month_99 : decode cX4_month 99 = .ok (.iload_n 1, 1) := by decide +kernel
theorem dX4_month_100 : decode cX4_month 100 = .ok (.aload_n 0, 1) := by decide +kernel
theorem dX4_month_101 : decode cX4_month 101 = .ok (.getfield 7, 3) := by decide +kernel
theorem dX4_month_104 : decode cX4_month 104 = .ok (.iconst 2, 1) := by decide +kernel
theorem dX4_month_105 : decode cX4_month 105 = .ok (.iaload, 1) := by decide +kernel
theorem dX4_month_106 : decode cX4_month 106 = .ok (.if_icmp .ge 37, 3) := by decide +kernel
theorem dX4_month_109 : decode cX4_month 109 = .ok (.aload_n 0, 1) := by decide +kernel
theorem dX4_month_110 : decode cX4_month 110 = .ok (.getfield 7, 3) := by decide +kernel
theorem dX4_month_113 : decode cX4_month 113 = .ok (.iload_n 1, 1) := by decide +kernel
theorem dX4_month_114 : decode cX4_month 114 = .ok (.bipush 9, 2) := by decide +kernel
theorem dX4_month_116 : decode cX4_month 116 = .ok (.invokestatic 80, 3) := by decide +kernel
theorem dX4_month_119 : decode cX4_month 119 = .ok (.dup2, 1) := by decide +kernel
theorem dX4_month_120 : decode cX4_month 120 = .ok (.iaload, 1) := by decide +kernel
theorem dX4_month_121 : decode cX4_month 121 = .ok (.aload_n 0, 1) := by decide +kernel
theorem dX4_month_122 : decode cX4_month 122 = .ok (.getfield 53, 3) := by decide +kernel
theorem dX4_month_125 : decode cX4_month 125 = .ok (.iload_n 1, 1) := by decide +kernel
theorem dX4_month_126 : decode cX4_month 126 = .ok (.baload, 1) := by decide +kernel
theorem dX4_month_127 : decode cX4_month 127 = .ok (.ifCond .eq 7, 3) := by decide +kernel
theorem dX4_month_130 : decode cX4_month 130 = .ok (.iconst 1, 1) := by decide +kernel
theorem dX4_month_131 : decode cX4_month 131 = .ok (.goto 4, 3) := by decide +kernel
theorem dX4_month_134 : decode cX4_month 134 = .ok (.iconst 0, 1) := by decide +kernel
theorem dX4_month_135 : decode cX4_month 135 = .ok (.iadd, 1) := by decide +kernel
theorem dX4_month_136 : decode cX4_month 136 = .ok (.iastore, 1) := by decide +kernel
theorem dX4_month_137 : decode cX4_month 137 = .ok (.iinc 1 1, 3) := by decide +kernel
theorem dX4_month_140 : decode cX4_month 140 = .ok (.goto (-41), 3) := by decide +kernel
theorem dX4_month_143 : decode cX4_month 143 = .ok (.aload_n 0, 1) := by decide +kernel
theorem dX4_month_144 : decode cX4_month 144 = .ok (.invokevirtual 275, 3) := by decide +kernel
theorem dX4_month_147 : decode cX4_month 147 = .ok (.iconst 0, 1) := by decide +kernel
theorem dX4_month_148 : decode cX4_month 148 = .ok (.istore_n 1, 1) := by decide +kernel
theorem dX4_month_149 : decode cX4_month 149 = .ok (.iconst 0, 1) := by decide +kernel
theorem dX4_month_150 : decode cX4_month 150 = .ok (.istore_n 2, 1) := by decide +kernel
theorem dX4_month_151 : decode cX4_month 151 = .ok (.iload_n 2, 1) := by decide +kernel
theorem dX4_month_152 : decode cX4_month 152 = .ok (.aload_n 0, 1) := by decide +kernel
theorem dX4_month_153 : decode cX4_month 153 = .ok (.getfield 7, 3) := by decide +kernel
theorem dX4_month_156 : decode cX4_month 156 = .ok (.bipush 56, 2) := by decide +kernel
theorem dX4_month_158 : decode cX4_month 158 = .ok (.iaload, 1) := by decide +kernel
theorem dX4_month_159 : decode cX4_month 159 = .ok (.if_icmp .ge 18, 3) := by decide +kernel
theorem dX4_month_162 : decode cX4_month 162 = .ok (.iload_n 1, 1) := by decide +kernel
theorem dX4_month_163 : decode cX4_month 163 = .ok (.aload_n 0, 1) := by decide +kernel
theorem dX4_month_164 : decode cX4_month 164 = .ok (.iload_n 2, 1) := by decide +kernel
theorem dX4_month_165 : decode cX4_month 165 = .ok (.iconst 5, 1) := by decide +kernel
theorem dX4_month_166 : decode cX4_month 166 = .ok (.invokevirtual 278, 3) := by decide +kernel
theorem dX4_month_169 : decode cX4_month 169 = .ok (.iadd, 1) := by decide +kernel
theorem dX4_month_170 : decode cX4_month 170 = .ok (.istore_n 1, 1) := by decide +kernel
theorem dX4_month_171 : decode cX4_month 171 = .ok (.iinc 2 1, 3) := by decide +kernel
theorem dX4_month_174 : decode cX4_month 174 = .ok (.goto (-23), 3) := by decide +kernel
theorem dX4_month_177 : decode cX4_month 177 = .ok (.aload_n 0, 1) := by decide +kernel
theorem dX4_month_178 : decode cX4_month 178 = .ok (.iload_n 1, 1) := by decide +kernel
theorem dX4_month_179 : decode cX4_month 179 = .ok (.invokevirtual 281, 3) := by decide +kernel
theorem dX4_month_182 : decode cX4_month 182 = .ok (.iload_n 1, 1) := by decide +kernel
theorem dX4_month_183 : decode cX4_month 183 = .ok (.ireturn, 1) := by decide +kernel
theorem dX4_calledNow_0 : decode cX4_calledNow 0 = .ok (.iconst (-1), 1) := by decide +kernel
theorem dX4_calledNow_1 : decode cX4_calledNow 1 = .ok (.istore_n 1, 1) := by decide +kernel
theorem dX4_calledNow_2 : decode cX4_calledNow 2 = .ok (.iconst 0, 1) := by decide +kernel
theorem dX4_calledNow_3 : decode cX4_calledNow 3 = .ok (.istore_n 2, 1) := by decide +kernel
theorem dX4_calledNow_4 : decode cX4_calledNow 4 = .ok (.iload_n 2, 1) := by decide +kernel
theorem dX4_calledNow_5 : decode cX4_calledNow 5 = .ok (.aload_n 0, 1) := by decide +kernel
theorem dX4_calledNow_6 : decode cX4_calledNow 6 = .ok (.getfield 7, 3) := by decide +kernel
theorem dX4_calledNow_9 : decode cX4_calledNow 9 = .ok (.bipush 56, 2) := by decide +kernel
theorem dX4_calledNow_11 : decode cX4_calledNow 11 = .ok (.iaload, 1) := by decide +kernel
theorem dX4_calledNow_12 : decode cX4_calledNow 12 = .ok (.if_icmp .ge 52, 3) := by decide +kernel
theorem dX4_calledNow_15 : decode cX4_calledNow 15 = .ok (.aload_n 0, 1) := by decide +kernel
theorem dX4_calledNow_16 : decode cX4_calledNow 16 = .ok (.aload_n 0, 1) := by decide +kernel
theorem dX4_calledNow_17 : decode cX4_calledNow 17 = .ok (.iload_n 2, 1) := by decide +kernel
theorem dX4_calledNow_18 : decode cX4_calledNow 18 = .ok (.iconst 1, 1) := by decide +kernel
theorem dX4_calledNow_19 : decode cX4_calledNow 19 = .ok (.invokevirtual 278, 3) := by decide +kernel
theorem dX4_calledNow_22 : decode cX4_calledNow 22 = .ok (.iconst 2, 1) := by decide +kernel
theorem dX4_calledNow_23 : decode cX4_calledNow 23 = .ok (.invokevirtual 216, 3) := by decide +kernel
theorem dX4_calledNow_26 : decode cX4_calledNow 26 = .ok (.istore_n 3, 1) := by decide +kernel
theorem dX4_calledNow_27 : decode cX4_calledNow 27 = .ok (.aload_n 0, 1) := by decide +kernel
theorem dX4_calledNow_28 : decode cX4_calledNow 28 = .ok (.iload_n 2, 1) := by decide +kernel
theorem dX4_calledNow_29 : decode cX4_calledNow 29 = .ok (.iconst 5, 1) := by decide +kernel
theorem dX4_calledNow_30 : decode cX4_calledNow 30 = .ok (.invokevirtual 278, 3) := by decide +kernel
theorem dX4_calledNow_33 : decode cX4_calledNow 33 = .ok (.aload_n 0, 1) := by decide +kernel
theorem dX4_calledNow_34 : decode cX4_calledNow 34 = .ok (.iload_n 2, 1) := by decide +kernel
theorem dX4_calledNow_35 : decode cX4_calledNow 35 = .ok (.iconst 4, 1) := by decide +kernel
theorem dX4_calledNow_36 : decode cX4_calledNow 36 = .ok (.invokevirtual 278, 3) := by decide +kernel
theorem dX4_calledNow_39 : decode cX4_calledNow 39 = .ok (.if_icmp .ge 17, 3) := by decide +kernel
theorem dX4_calledNow_42 : decode cX4_calledNow 42 = .ok (.iload_n 1, 1) := by decide +kernel
theorem dX4_calledNow_43 : decode cX4_calledNow 43 = .ok (.iconst (-1), 1) := by decide +kernel
theorem dX4_calledNow_44 : decode cX4_calledNow 44 = .ok (.if_icmp .eq 8, 3) := by decide +kernel
theorem dX4_calledNow_47 : decode cX4_calledNow 47 = .ok (.iload_n 3, 1) := by decide +kernel
theorem dX4_calledNow_48 : decode cX4_calledNow 48 = .ok (.iload_n 1, 1) := by decide +kernel
theorem dX4_calledNow_49 : decode cX4_calledNow 49 = .ok (.if_icmp .ge 7, 3) := by decide +kernel
theorem dX4_calledNow_52 : decode cX4_calledNow 52 = .ok (.iload_n 3, 1) := by decide +kernel
theorem dX4_calledNow_53 : decode cX4_calledNow 53 = .ok (.goto 4, 3) := by decide +kernel
theorem dX4_calledNow_56 : decode cX4_calledNow 56 = .ok (.iload_n 1, 1) := by decide +kernel
theorem dX4_calledNow_57 : decode cX4_calledNow 57 = .ok (.istore_n 1, 1) := by decide +kernel
theorem dX4_calledNow_58 : decode cX4_calledNow 58 = .ok (.iinc 2 1, 3) := by decide +kernel
theorem dX4_calledNow_61 : decode cX4_calledNow 61 = .ok (.goto (-57), 3) := by decide +kernel
theorem dX4_calledNow_64 : decode cX4_calledNow 64 = .ok (.iload_n 1, 1) := by decide +kernel
theorem dX4_calledNow_65 : decode cX4_calledNow 65 = .ok (.ireturn, 1) := by decide +kernel
theorem dX4_remembers_0 : decode cX4_remembers 0 = .ok (.sipush 520, 3) := by decide +kernel
theorem dX4_remembers_3 : decode cX4_remembers 3 = .ok (.istore_n 2, 1) := by decide +kernel
theorem dX4_remembers_4 : decode cX4_remembers 4 = .ok (.iload_n 2, 1) := by decide +kernel
theorem dX4_remembers_5 : decode cX4_remembers 5 = .ok (.sipush 429, 3) := by decide +kernel
theorem dX4_remembers_8 : decode cX4_remembers 8 = .ok (.if_icmp .lt 23, 3) := by decide +kernel
theorem dX4_remembers_11 : decode cX4_remembers 11 = .ok (.aload_n 0, 1) := by decide +kernel
theorem dX4_remembers_12 : decode cX4_remembers 12 = .ok (.getfield 7, 3) := by decide +kernel
theorem dX4_remembers_15 : decode cX4_remembers 15 = .ok (.iload_n 2, 1) := by decide +kernel
theorem dX4_remembers_16 : decode cX4_remembers 16 = .ok (.aload_n 0, 1) := by decide +kernel
theorem dX4_remembers_17 : decode cX4_remembers 17 = .ok (.getfield 7, 3) := by decide +kernel
theorem dX4_remembers_20 : decode cX4_remembers 20 = .ok (.iload_n 2, 1) := by decide +kernel
theorem dX4_remembers_21 : decode cX4_remembers 21 = .ok (.iconst 4, 1) := by decide +kernel
theorem dX4_remembers_22 : decode cX4_remembers 22 = .ok (.isub, 1) := by decide +kernel
theorem dX4_remembers_23 : decode cX4_remembers 23 = .ok (.iaload, 1) := by decide +kernel
theorem dX4_remembers_24 : decode cX4_remembers 24 = .ok (.iastore, 1) := by decide +kernel
theorem dX4_remembers_25 : decode cX4_remembers 25 = .ok (.iinc 2 (-1), 3) := by decide +kernel
theorem dX4_remembers_28 : decode cX4_remembers 28 = .ok (.goto (-24), 3) := by decide +kernel
theorem dX4_remembers_31 : decode cX4_remembers 31 = .ok (.aload_n 0, 1) := by decide +kernel
theorem dX4_remembers_32 : decode cX4_remembers 32 = .ok (.getfield 7, 3) := by decide +kernel
theorem dX4_remembers_35 : decode cX4_remembers 35 = .ok (.sipush 425, 3) := by decide +kernel
theorem dX4_remembers_38 : decode cX4_remembers 38 = .ok (.aload_n 0, 1) := by decide +kernel
theorem dX4_remembers_39 : decode cX4_remembers 39 = .ok (.getfield 7, 3) := by decide +kernel
theorem dX4_remembers_42 : decode cX4_remembers 42 = .ok (.iconst 5, 1) := by decide +kernel
theorem dX4_remembers_43 : decode cX4_remembers 43 = .ok (.iaload, 1) := by decide +kernel
theorem dX4_remembers_44 : decode cX4_remembers 44 = .ok (.iconst 1, 1) := by decide +kernel
theorem dX4_remembers_45 : decode cX4_remembers 45 = .ok (.isub, 1) := by decide +kernel
theorem dX4_remembers_46 : decode cX4_remembers 46 = .ok (.iastore, 1) := by decide +kernel
theorem dX4_remembers_47 : decode cX4_remembers 47 = .ok (.aload_n 0, 1) := by decide +kernel
theorem dX4_remembers_48 : decode cX4_remembers 48 = .ok (.getfield 7, 3) := by decide +kernel
theorem dX4_remembers_51 : decode cX4_remembers 51 = .ok (.sipush 426, 3) := by decide +kernel
theorem dX4_remembers_54 : decode cX4_remembers 54 = .ok (.iload_n 1, 1) := by decide +kernel
theorem dX4_remembers_55 : decode cX4_remembers 55 = .ok (.iastore, 1) := by decide +kernel
theorem dX4_remembers_56 : decode cX4_remembers 56 = .ok (.aload_n 0, 1) := by decide +kernel
theorem dX4_remembers_57 : decode cX4_remembers 57 = .ok (.getfield 7, 3) := by decide +kernel
theorem dX4_remembers_60 : decode cX4_remembers 60 = .ok (.sipush 427, 3) := by decide +kernel
theorem dX4_remembers_63 : decode cX4_remembers 63 = .ok (.aload_n 0, 1) := by decide +kernel
theorem dX4_remembers_64 : decode cX4_remembers 64 = .ok (.invokevirtual 284, 3) := by decide +kernel
theorem dX4_remembers_67 : decode cX4_remembers 67 = .ok (.iastore, 1) := by decide +kernel
theorem dX4_remembers_68 : decode cX4_remembers 68 = .ok (.aload_n 0, 1) := by decide +kernel
theorem dX4_remembers_69 : decode cX4_remembers 69 = .ok (.getfield 7, 3) := by decide +kernel
theorem dX4_remembers_72 : decode cX4_remembers 72 = .ok (.sipush 428, 3) := by decide +kernel
theorem dX4_remembers_75 : decode cX4_remembers 75 = .ok (.aload_n 0, 1) := by decide +kernel
theorem dX4_remembers_76 : decode cX4_remembers 76 = .ok (.invokevirtual 287, 3) := by decide +kernel
theorem dX4_remembers_79 : decode cX4_remembers 79 = .ok (.iastore, 1) := by decide +kernel
theorem dX4_remembers_80 : decode cX4_remembers 80 = .ok (.aload_n 0, 1) := by decide +kernel
theorem dX4_remembers_81 : decode cX4_remembers 81 = .ok (.getfield 7, 3) := by decide +kernel
theorem dX4_remembers_84 : decode cX4_remembers 84 = .ok (.sipush 424, 3) := by decide +kernel
theorem dX4_remembers_87 : decode cX4_remembers 87 = .ok (.bipush 24, 2) := by decide +kernel
theorem dX4_remembers_89 : decode cX4_remembers 89 = .ok (.aload_n 0, 1) := by decide +kernel
theorem dX4_remembers_90 : decode cX4_remembers 90 = .ok (.getfield 7, 3) := by decide +kernel
theorem dX4_remembers_93 : decode cX4_remembers 93 = .ok (.sipush 424, 3) := by decide +kernel
theorem dX4_remembers_96 : decode cX4_remembers 96 = .ok (.iaload, 1) := by decide +kernel
theorem dX4_remembers_97 : decode cX4_remembers 97 = .ok (.iconst 1, 1) := by decide +kernel
theorem dX4_remembers_98 : decode cX4_remembers 98 = .ok (.iadd, 1) := by decide +kernel
theorem dX4_remembers_99 : decode cX4_remembers 99 = .ok (.invokestatic 260, 3) := by decide +kernel
theorem dX4_remembers_102 : decode cX4_remembers 102 = .ok (.iastore, 1) := by decide +kernel
theorem dX4_remembers_103 : decode cX4_remembers 103 = .ok (.return_, 1) := by decide +kernel
theorem dX4_claimOf_0 : decode cX4_claimOf 0 = .ok (.aload_n 0, 1) := by decide +kernel
theorem dX4_claimOf_1 : decode cX4_claimOf 1 = .ok (.getfield 7, 3) := by decide +kernel
theorem dX4_claimOf_4 : decode cX4_claimOf 4 = .ok (.sipush 242, 3) := by decide +kernel
theorem dX4_claimOf_7 : decode cX4_claimOf 7 = .ok (.bipush 8, 2) := by decide +kernel
theorem dX4_claimOf_9 : decode cX4_claimOf 9 = .ok (.iload_n 1, 1) := by decide +kernel
theorem dX4_claimOf_10 : decode cX4_claimOf 10 = .ok (.imul, 1) := by decide +kernel
theorem dX4_claimOf_11 : decode cX4_claimOf 11 = .ok (.iadd, 1) := by decide +kernel
theorem dX4_claimOf_12 : decode cX4_claimOf 12 = .ok (.iload_n 2, 1) := by decide +kernel
theorem dX4_claimOf_13 : decode cX4_claimOf 13 = .ok (.iadd, 1) := by decide +kernel
theorem dX4_claimOf_14 : decode cX4_claimOf 14 = .ok (.iaload, 1) := by decide +kernel
theorem dX4_claimOf_15 : decode cX4_claimOf 15 = .ok (.ireturn, 1) := by decide +kernel
theorem dX4_claims_0 : decode cX4_claims 0 = .ok (.aload_n 0, 1) := by decide +kernel
theorem dX4_claims_1 : decode cX4_claims 1 = .ok (.iconst 0, 1) := by decide +kernel
theorem dX4_claims_2 : decode cX4_claims 2 = .ok (.putfield 77, 3) := by decide +kernel
theorem dX4_claims_5 : decode cX4_claims 5 = .ok (.aload_n 0, 1) := by decide +kernel
theorem dX4_claims_6 : decode cX4_claims 6 = .ok (.getfield 7, 3) := by decide +kernel
theorem dX4_claims_9 : decode cX4_claims 9 = .ok (.bipush 56, 2) := by decide +kernel
theorem dX4_claims_11 : decode cX4_claims 11 = .ok (.iaload, 1) := by decide +kernel
theorem dX4_claims_12 : decode cX4_claims 12 = .ok (.ireturn, 1) := by decide +kernel
theorem dX4_claim_0 : decode cX4_claim 0 = .ok (.aload_n 0, 1) := by decide +kernel
theorem dX4_claim_1 : decode cX4_claim 1 = .ok (.iload_n 1, 1) := by decide +kernel
theorem dX4_claim_2 : decode cX4_claim 2 = .ok (.iconst 0, 1) := by decide +kernel
theorem dX4_claim_3 : decode cX4_claim 3 = .ok (.aload_n 0, 1) := by decide +kernel
theorem dX4_claim_4 : decode cX4_claim 4 = .ok (.getfield 7, 3) := by decide +kernel
theorem dX4_claim_7 : decode cX4_claim 7 = .ok (.bipush 56, 2) := by decide +kernel
theorem dX4_claim_9 : decode cX4_claim 9 = .ok (.iaload, 1) := by decide +kernel
theorem dX4_claim_10 : decode cX4_claim 10 = .ok (.iconst 1, 1) := by decide +kernel
theorem dX4_claim_11 : decode cX4_claim 11 = .ok (.isub, 1) := by decide +kernel
theorem dX4_claim_12 : decode cX4_claim 12 = .ok (.invokestatic 104, 3) := by decide +kernel
theorem dX4_claim_15 : decode cX4_claim 15 = .ok (.ifCond .ne 7, 3) := by decide +kernel
theorem dX4_claim_18 : decode cX4_claim 18 = .ok (.iconst 1, 1) := by decide +kernel
theorem dX4_claim_19 : decode cX4_claim 19 = .ok (.goto 18, 3) := by decide +kernel
theorem dX4_claim_22 : decode cX4_claim 22 = .ok (.iload_n 2, 1) := by decide +kernel
theorem dX4_claim_23 : decode cX4_claim 23 = .ok (.iconst 0, 1) := by decide +kernel
theorem dX4_claim_24 : decode cX4_claim 24 = .ok (.bipush 7, 2) := by decide +kernel
theorem dX4_claim_26 : decode cX4_claim 26 = .ok (.invokestatic 104, 3) := by decide +kernel
theorem dX4_claim_29 : decode cX4_claim 29 = .ok (.ifCond .ne 7, 3) := by decide +kernel
theorem dX4_claim_32 : decode cX4_claim 32 = .ok (.iconst 2, 1) := by decide +kernel
theorem dX4_claim_33 : decode cX4_claim 33 = .ok (.goto 4, 3) := by decide +kernel
theorem dX4_claim_36 : decode cX4_claim 36 = .ok (.iconst 0, 1) := by decide +kernel
theorem dX4_claim_37 : decode cX4_claim 37 = .ok (.putfield 77, 3) := by decide +kernel
theorem dX4_claim_40 : decode cX4_claim 40 = .ok (.aload_n 0, 1) := by decide +kernel
theorem dX4_claim_41 : decode cX4_claim 41 = .ok (.getfield 77, 3) := by decide +kernel
theorem dX4_claim_44 : decode cX4_claim 44 = .ok (.ifCond .le 7, 3) := by decide +kernel
theorem dX4_claim_47 : decode cX4_claim 47 = .ok (.iconst 0, 1) := by decide +kernel
theorem dX4_claim_48 : decode cX4_claim 48 = .ok (.goto 9, 3) := by decide +kernel
theorem dX4_claim_51 : decode cX4_claim 51 = .ok (.aload_n 0, 1) := by decide +kernel
theorem dX4_claim_52 : decode cX4_claim 52 = .ok (.iload_n 1, 1) := by decide +kernel
theorem dX4_claim_53 : decode cX4_claim 53 = .ok (.iload_n 2, 1) := by decide +kernel
theorem dX4_claim_54 : decode cX4_claim 54 = .ok (.invokevirtual 278, 3) := by decide +kernel
theorem dX4_claim_57 : decode cX4_claim 57 = .ok (.ireturn, 1) := by decide +kernel
theorem dX4_gauge_0 : decode cX4_gauge 0 = .ok (.aload_n 0, 1) := by decide +kernel
theorem dX4_gauge_1 : decode cX4_gauge 1 = .ok (.aload_n 0, 1) := by decide +kernel
theorem dX4_gauge_2 : decode cX4_gauge 2 = .ok (.iload_n 1, 1) := by decide +kernel
theorem dX4_gauge_3 : decode cX4_gauge 3 = .ok (.invokevirtual 203, 3) := by decide +kernel
theorem dX4_gauge_6 : decode cX4_gauge 6 = .ok (.ifCond .ne 7, 3) := by decide +kernel
theorem dX4_gauge_9 : decode cX4_gauge 9 = .ok (.iconst 1, 1) := by decide +kernel
theorem dX4_gauge_10 : decode cX4_gauge 10 = .ok (.goto 17, 3) := by decide +kernel
theorem dX4_gauge_13 : decode cX4_gauge 13 = .ok (.iload_n 2, 1) := by decide +kernel
theorem dX4_gauge_14 : decode cX4_gauge 14 = .ok (.iconst 0, 1) := by decide +kernel
theorem dX4_gauge_15 : decode cX4_gauge 15 = .ok (.iconst 4, 1) := by decide +kernel
theorem dX4_gauge_16 : decode cX4_gauge 16 = .ok (.invokestatic 104, 3) := by decide +kernel
theorem dX4_gauge_19 : decode cX4_gauge 19 = .ok (.ifCond .ne 7, 3) := by decide +kernel
theorem dX4_gauge_22 : decode cX4_gauge 22 = .ok (.iconst 2, 1) := by decide +kernel
theorem dX4_gauge_23 : decode cX4_gauge 23 = .ok (.goto 4, 3) := by decide +kernel
theorem dX4_gauge_26 : decode cX4_gauge 26 = .ok (.iconst 0, 1) := by decide +kernel
theorem dX4_gauge_27 : decode cX4_gauge 27 = .ok (.putfield 77, 3) := by decide +kernel
theorem dX4_gauge_30 : decode cX4_gauge 30 = .ok (.aload_n 0, 1) := by decide +kernel
theorem dX4_gauge_31 : decode cX4_gauge 31 = .ok (.getfield 77, 3) := by decide +kernel
theorem dX4_gauge_34 : decode cX4_gauge 34 = .ok (.ifCond .le 7, 3) := by decide +kernel
theorem dX4_gauge_37 : decode cX4_gauge 37 = .ok (.iconst 0, 1) := by decide +kernel
theorem dX4_gauge_38 : decode cX4_gauge 38 = .ok (.goto 9, 3) := by decide +kernel
theorem dX4_gauge_41 : decode cX4_gauge 41 = .ok (.aload_n 0, 1) := by decide +kernel
theorem dX4_gauge_42 : decode cX4_gauge 42 = .ok (.iload_n 1, 1) := by decide +kernel
theorem dX4_gauge_43 : decode cX4_gauge 43 = .ok (.iload_n 2, 1) := by decide +kernel
theorem dX4_gauge_44 : decode cX4_gauge 44 = .ok (.invokevirtual 290, 3) := by decide +kernel
theorem dX4_gauge_47 : decode cX4_gauge 47 = .ok (.ireturn, 1) := by decide +kernel
theorem dX4_call_0 : decode cX4_call 0 = .ok (.aload_n 0, 1) := by decide +kernel
theorem dX4_call_1 : decode cX4_call 1 = .ok (.iconst 0, 1) := by decide +kernel
theorem dX4_call_2 : decode cX4_call 2 = .ok (.putfield 77, 3) := by decide +kernel
theorem dX4_call_5 : decode cX4_call 5 = .ok (.aload_n 0, 1) := by decide +kernel
theorem dX4_call_6 : decode cX4_call 6 = .ok (.getfield 7, 3) := by decide +kernel
theorem dX4_call_9 : decode cX4_call 9 = .ok (.sipush 424, 3) := by decide +kernel
theorem dX4_call_12 : decode cX4_call 12 = .ok (.iaload, 1) := by decide +kernel
theorem dX4_call_13 : decode cX4_call 13 = .ok (.ifCond .ne 7, 3) := by decide +kernel
theorem dX4_call_16 : decode cX4_call 16 = .ok (.iconst (-1), 1) := by decide +kernel
theorem dX4_call_17 : decode cX4_call 17 = .ok (.goto 11, 3) := by decide +kernel
theorem dX4_call_20 : decode cX4_call 20 = .ok (.aload_n 0, 1) := by decide +kernel
theorem dX4_call_21 : decode cX4_call 21 = .ok (.getfield 7, 3) := by decide +kernel
theorem dX4_call_24 : decode cX4_call 24 = .ok (.sipush 428, 3) := by decide +kernel
theorem dX4_call_27 : decode cX4_call 27 = .ok (.iaload, 1) := by decide +kernel
theorem dX4_call_28 : decode cX4_call 28 = .ok (.ireturn, 1) := by decide +kernel
theorem dX4_history_0 : decode cX4_history 0 = .ok (.aload_n 0, 1) := by decide +kernel
theorem dX4_history_1 : decode cX4_history 1 = .ok (.iload_n 2, 1) := by decide +kernel
theorem dX4_history_2 : decode cX4_history 2 = .ok (.iconst 0, 1) := by decide +kernel
theorem dX4_history_3 : decode cX4_history 3 = .ok (.iconst 3, 1) := by decide +kernel
theorem dX4_history_4 : decode cX4_history 4 = .ok (.invokestatic 104, 3) := by decide +kernel
theorem dX4_history_7 : decode cX4_history 7 = .ok (.ifCond .eq 7, 3) := by decide +kernel
theorem dX4_history_10 : decode cX4_history 10 = .ok (.iconst 0, 1) := by decide +kernel
theorem dX4_history_11 : decode cX4_history 11 = .ok (.goto 4, 3) := by decide +kernel
theorem dX4_history_14 : decode cX4_history 14 = .ok (.iconst 1, 1) := by decide +kernel
theorem dX4_history_15 : decode cX4_history 15 = .ok (.putfield 77, 3) := by decide +kernel
theorem dX4_history_18 : decode cX4_history 18 = .ok (.aload_n 0, 1) := by decide +kernel
theorem dX4_history_19 : decode cX4_history 19 = .ok (.getfield 77, 3) := by decide +kernel
theorem dX4_history_22 : decode cX4_history 22 = .ok (.ifCond .le 7, 3) := by decide +kernel
theorem dX4_history_25 : decode cX4_history 25 = .ok (.iconst 0, 1) := by decide +kernel
theorem dX4_history_26 : decode cX4_history 26 = .ok (.goto 39, 3) := by decide +kernel
theorem dX4_history_29 : decode cX4_history 29 = .ok (.iload_n 1, 1) := by decide +kernel
theorem dX4_history_30 : decode cX4_history 30 = .ok (.iconst 0, 1) := by decide +kernel
theorem dX4_history_31 : decode cX4_history 31 = .ok (.aload_n 0, 1) := by decide +kernel
theorem dX4_history_32 : decode cX4_history 32 = .ok (.getfield 7, 3) := by decide +kernel
theorem dX4_history_35 : decode cX4_history 35 = .ok (.sipush 424, 3) := by decide +kernel
theorem dX4_history_38 : decode cX4_history 38 = .ok (.iaload, 1) := by decide +kernel
theorem dX4_history_39 : decode cX4_history 39 = .ok (.iconst 1, 1) := by decide +kernel
theorem dX4_history_40 : decode cX4_history 40 = .ok (.isub, 1) := by decide +kernel
theorem dX4_history_41 : decode cX4_history 41 = .ok (.invokestatic 104, 3) := by decide +kernel
theorem dX4_history_44 : decode cX4_history 44 = .ok (.ifCond .eq 20, 3) := by decide +kernel
theorem dX4_history_47 : decode cX4_history 47 = .ok (.aload_n 0, 1) := by decide +kernel
theorem dX4_history_48 : decode cX4_history 48 = .ok (.getfield 7, 3) := by decide +kernel
theorem dX4_history_51 : decode cX4_history 51 = .ok (.sipush 425, 3) := by decide +kernel
theorem dX4_history_54 : decode cX4_history 54 = .ok (.iconst 4, 1) := by decide +kernel
theorem dX4_history_55 : decode cX4_history 55 = .ok (.iload_n 1, 1) := by decide +kernel
theorem dX4_history_56 : decode cX4_history 56 = .ok (.imul, 1) := by decide +kernel
theorem dX4_history_57 : decode cX4_history 57 = .ok (.iadd, 1) := by decide +kernel
theorem dX4_history_58 : decode cX4_history 58 = .ok (.iload_n 2, 1) := by decide +kernel
theorem dX4_history_59 : decode cX4_history 59 = .ok (.iadd, 1) := by decide +kernel
theorem dX4_history_60 : decode cX4_history 60 = .ok (.iaload, 1) := by decide +kernel
theorem dX4_history_61 : decode cX4_history 61 = .ok (.goto 4, 3) := by decide +kernel
theorem dX4_history_64 : decode cX4_history 64 = .ok (.iconst (-1), 1) := by decide +kernel
theorem dX4_history_65 : decode cX4_history 65 = .ok (.ireturn, 1) := by decide +kernel
theorem dX4_meanGot_0 : decode cX4_meanGot 0 = .ok (.aload_n 0, 1) := by decide +kernel
theorem dX4_meanGot_1 : decode cX4_meanGot 1 = .ok (.iconst 0, 1) := by decide +kernel
theorem dX4_meanGot_2 : decode cX4_meanGot 2 = .ok (.putfield 77, 3) := by decide +kernel
theorem dX4_meanGot_5 : decode cX4_meanGot 5 = .ok (.iconst 0, 1) := by decide +kernel
theorem dX4_meanGot_6 : decode cX4_meanGot 6 = .ok (.istore_n 1, 1) := by decide +kernel
theorem dX4_meanGot_7 : decode cX4_meanGot 7 = .ok (.iconst 0, 1) := by decide +kernel
theorem dX4_meanGot_8 : decode cX4_meanGot 8 = .ok (.istore_n 2, 1) := by decide +kernel
theorem dX4_meanGot_9 : decode cX4_meanGot 9 = .ok (.iload_n 2, 1) := by decide +kernel
theorem dX4_meanGot_10 : decode cX4_meanGot 10 = .ok (.aload_n 0, 1) := by decide +kernel
theorem dX4_meanGot_11 : decode cX4_meanGot 11 = .ok (.getfield 7, 3) := by decide +kernel
theorem dX4_meanGot_14 : decode cX4_meanGot 14 = .ok (.sipush 424, 3) := by decide +kernel
theorem dX4_meanGot_17 : decode cX4_meanGot 17 = .ok (.iaload, 1) := by decide +kernel
theorem dX4_meanGot_18 : decode cX4_meanGot 18 = .ok (.if_icmp .ge 26, 3) := by decide +kernel
theorem dX4_meanGot_21 : decode cX4_meanGot 21 = .ok (.iload_n 1, 1) := by decide +kernel
theorem dX4_meanGot_22 : decode cX4_meanGot 22 = .ok (.aload_n 0, 1) := by decide +kernel
theorem dX4_meanGot_23 : decode cX4_meanGot 23 = .ok (.getfield 7, 3) := by decide +kernel
theorem dX4_meanGot_26 : decode cX4_meanGot 26 = .ok (.sipush 425, 3) := by decide +kernel
theorem dX4_meanGot_29 : decode cX4_meanGot 29 = .ok (.iconst 4, 1) := by decide +kernel
theorem dX4_meanGot_30 : decode cX4_meanGot 30 = .ok (.iload_n 2, 1) := by decide +kernel
theorem dX4_meanGot_31 : decode cX4_meanGot 31 = .ok (.imul, 1) := by decide +kernel
theorem dX4_meanGot_32 : decode cX4_meanGot 32 = .ok (.iadd, 1) := by decide +kernel
theorem dX4_meanGot_33 : decode cX4_meanGot 33 = .ok (.iconst 1, 1) := by decide +kernel
theorem dX4_meanGot_34 : decode cX4_meanGot 34 = .ok (.iadd, 1) := by decide +kernel
theorem dX4_meanGot_35 : decode cX4_meanGot 35 = .ok (.iaload, 1) := by decide +kernel
theorem dX4_meanGot_36 : decode cX4_meanGot 36 = .ok (.iadd, 1) := by decide +kernel
theorem dX4_meanGot_37 : decode cX4_meanGot 37 = .ok (.istore_n 1, 1) := by decide +kernel
theorem dX4_meanGot_38 : decode cX4_meanGot 38 = .ok (.iinc 2 1, 3) := by decide +kernel
theorem dX4_meanGot_41 : decode cX4_meanGot 41 = .ok (.goto (-32), 3) := by decide +kernel
theorem dX4_meanGot_44 : decode cX4_meanGot 44 = .ok (.aload_n 0, 1) := by decide +kernel
theorem dX4_meanGot_45 : decode cX4_meanGot 45 = .ok (.getfield 7, 3) := by decide +kernel
theorem dX4_meanGot_48 : decode cX4_meanGot 48 = .ok (.sipush 424, 3) := by decide +kernel
theorem dX4_meanGot_51 : decode cX4_meanGot 51 = .ok (.iaload, 1) := by decide +kernel
theorem dX4_meanGot_52 : decode cX4_meanGot 52 = .ok (.ifCond .ne 7, 3) := by decide +kernel
theorem dX4_meanGot_55 : decode cX4_meanGot 55 = .ok (.dconst 0, 1) := by decide +kernel
theorem dX4_meanGot_56 : decode cX4_meanGot 56 = .ok (.goto 15, 3) := by decide +kernel
theorem dX4_meanGot_59 : decode cX4_meanGot 59 = .ok (.iload_n 1, 1) := by decide +kernel
theorem dX4_meanGot_60 : decode cX4_meanGot 60 = .ok (.i2d, 1) := by decide +kernel
theorem dX4_meanGot_61 : decode cX4_meanGot 61 = .ok (.aload_n 0, 1) := by decide +kernel
theorem dX4_meanGot_62 : decode cX4_meanGot 62 = .ok (.getfield 7, 3) := by decide +kernel
theorem dX4_meanGot_65 : decode cX4_meanGot 65 = .ok (.sipush 424, 3) := by decide +kernel
theorem dX4_meanGot_68 : decode cX4_meanGot 68 = .ok (.iaload, 1) := by decide +kernel
theorem dX4_meanGot_69 : decode cX4_meanGot 69 = .ok (.i2d, 1) := by decide +kernel
theorem dX4_meanGot_70 : decode cX4_meanGot 70 = .ok (.ddiv, 1) := by decide +kernel
theorem dX4_meanGot_71 : decode cX4_meanGot 71 = .ok (.dreturn, 1) := by decide +kernel
theorem dX4_dryGauges_0 : decode cX4_dryGauges 0 = .ok (.aload_n 0, 1) := by decide +kernel
theorem dX4_dryGauges_1 : decode cX4_dryGauges 1 = .ok (.iconst 0, 1) := by decide +kernel
theorem dX4_dryGauges_2 : decode cX4_dryGauges 2 = .ok (.putfield 77, 3) := by decide +kernel
theorem dX4_dryGauges_5 : decode cX4_dryGauges 5 = .ok (.iconst 0, 1) := by decide +kernel
theorem dX4_dryGauges_6 : decode cX4_dryGauges 6 = .ok (.istore_n 1, 1) := by decide +kernel
theorem dX4_dryGauges_7 : decode cX4_dryGauges 7 = .ok (.iconst 0, 1) := by decide +kernel
theorem dX4_dryGauges_8 : decode cX4_dryGauges 8 = .ok (.istore_n 2, 1) := by decide +kernel
theorem dX4_dryGauges_9 : decode cX4_dryGauges 9 = .ok (.iload_n 2, 1) := by decide +kernel
theorem dX4_dryGauges_10 : decode cX4_dryGauges 10 = .ok (.aload_n 0, 1) := by decide +kernel
theorem dX4_dryGauges_11 : decode cX4_dryGauges 11 = .ok (.getfield 7, 3) := by decide +kernel
theorem dX4_dryGauges_14 : decode cX4_dryGauges 14 = .ok (.iconst 0, 1) := by decide +kernel
theorem dX4_dryGauges_15 : decode cX4_dryGauges 15 = .ok (.iaload, 1) := by decide +kernel
theorem dX4_dryGauges_16 : decode cX4_dryGauges 16 = .ok (.if_icmp .ge 48, 3) := by decide +kernel
theorem dX4_dryGauges_19 : decode cX4_dryGauges 19 = .ok (.iload_n 1, 1) := by decide +kernel
theorem dX4_dryGauges_20 : decode cX4_dryGauges 20 = .ok (.aload_n 0, 1) := by decide +kernel
theorem dX4_dryGauges_21 : decode cX4_dryGauges 21 = .ok (.getfield 7, 3) := by decide +kernel
theorem dX4_dryGauges_24 : decode cX4_dryGauges 24 = .ok (.bipush 57, 2) := by decide +kernel
theorem dX4_dryGauges_26 : decode cX4_dryGauges 26 = .ok (.iaload, 1) := by decide +kernel
theorem dX4_dryGauges_27 : decode cX4_dryGauges 27 = .ok (.iconst 1, 1) := by decide +kernel
theorem dX4_dryGauges_28 : decode cX4_dryGauges 28 = .ok (.if_icmp .ne 27, 3) := by decide +kernel
theorem dX4_dryGauges_31 : decode cX4_dryGauges 31 = .ok (.aload_n 0, 1) := by decide +kernel
theorem dX4_dryGauges_32 : decode cX4_dryGauges 32 = .ok (.iload_n 2, 1) := by decide +kernel
theorem dX4_dryGauges_33 : decode cX4_dryGauges 33 = .ok (.iconst 2, 1) := by decide +kernel
theorem dX4_dryGauges_34 : decode cX4_dryGauges 34 = .ok (.invokevirtual 290, 3) := by decide +kernel
theorem dX4_dryGauges_37 : decode cX4_dryGauges 37 = .ok (.aload_n 0, 1) := by decide +kernel
theorem dX4_dryGauges_38 : decode cX4_dryGauges 38 = .ok (.getfield 7, 3) := by decide +kernel
theorem dX4_dryGauges_41 : decode cX4_dryGauges 41 = .ok (.bipush 14, 2) := by decide +kernel
theorem dX4_dryGauges_43 : decode cX4_dryGauges 43 = .ok (.iload_n 2, 1) := by decide +kernel
theorem dX4_dryGauges_44 : decode cX4_dryGauges 44 = .ok (.iadd, 1) := by decide +kernel
theorem dX4_dryGauges_45 : decode cX4_dryGauges 45 = .ok (.iaload, 1) := by decide +kernel
theorem dX4_dryGauges_46 : decode cX4_dryGauges 46 = .ok (.if_icmp .ge 9, 3) := by decide +kernel
theorem dX4_dryGauges_49 : decode cX4_dryGauges 49 = .ok (.iconst 1, 1) := by decide +kernel
theorem dX4_dryGauges_50 : decode cX4_dryGauges 50 = .ok (.iload_n 2, 1) := by decide +kernel
theorem dX4_dryGauges_51 : decode cX4_dryGauges 51 = .ok (.ishl, 1) := by decide +kernel
theorem dX4_dryGauges_52 : decode cX4_dryGauges 52 = .ok (.goto 4, 3) := by decide +kernel
theorem dX4_dryGauges_55 : decode cX4_dryGauges 55 = .ok (.iconst 0, 1) := by decide +kernel
theorem dX4_dryGauges_56 : decode cX4_dryGauges 56 = .ok (.ior, 1) := by decide +kernel
theorem dX4_dryGauges_57 : decode cX4_dryGauges 57 = .ok (.istore_n 1, 1) := by decide +kernel
theorem dX4_dryGauges_58 : decode cX4_dryGauges 58 = .ok (.iinc 2 1, 3) := by decide +kernel
theorem dX4_dryGauges_61 : decode cX4_dryGauges 61 = .ok (.goto (-52), 3) := by decide +kernel
theorem dX4_dryGauges_64 : decode cX4_dryGauges 64 = .ok (.iload_n 1, 1) := by decide +kernel
theorem dX4_dryGauges_65 : decode cX4_dryGauges 65 = .ok (.ireturn, 1) := by decide +kernel
theorem dX4_served_0 : decode cX4_served 0 = .ok (.aload_n 0, 1) := by decide +kernel
theorem dX4_served_1 : decode cX4_served 1 = .ok (.iconst 0, 1) := by decide +kernel
theorem dX4_served_2 : decode cX4_served 2 = .ok (.putfield 77, 3) := by decide +kernel
theorem dX4_served_5 : decode cX4_served 5 = .ok (.iconst 0, 1) := by decide +kernel
theorem dX4_served_6 : decode cX4_served 6 = .ok (.istore_n 1, 1) := by decide +kernel
theorem dX4_served_7 : decode cX4_served 7 = .ok (.iconst 0, 1) := by decide +kernel
theorem dX4_served_8 : decode cX4_served 8 = .ok (.istore_n 2, 1) := by decide +kernel
theorem dX4_served_9 : decode cX4_served 9 = .ok (.iconst 0, 1) := by decide +kernel
theorem dX4_served_10 : decode cX4_served 10 = .ok (.istore_n 3, 1) := by decide +kernel
theorem dX4_served_11 : decode cX4_served 11 = .ok (.iload_n 3, 1) := by decide +kernel
theorem dX4_served_12 : decode cX4_served 12 = .ok (.aload_n 0, 1) := by decide +kernel
theorem dX4_served_13 : decode cX4_served 13 = .ok (.getfield 7, 3) := by decide +kernel
theorem dX4_served_16 : decode cX4_served 16 = .ok (.bipush 56, 2) := by decide +kernel
theorem dX4_served_18 : decode cX4_served 18 = .ok (.iaload, 1) := by decide +kernel
theorem dX4_served_19 : decode cX4_served 19 = .ok (.if_icmp .ge 27, 3) := by decide +kernel
theorem dX4_served_22 : decode cX4_served 22 = .ok (.iload_n 1, 1) := by decide +kernel
theorem dX4_served_23 : decode cX4_served 23 = .ok (.aload_n 0, 1) := by decide +kernel
theorem dX4_served_24 : decode cX4_served 24 = .ok (.iload_n 3, 1) := by decide +kernel
theorem dX4_served_25 : decode cX4_served 25 = .ok (.iconst 4, 1) := by decide +kernel
theorem dX4_served_26 : decode cX4_served 26 = .ok (.invokevirtual 278, 3) := by decide +kernel
theorem dX4_served_29 : decode cX4_served 29 = .ok (.iadd, 1) := by decide +kernel
theorem dX4_served_30 : decode cX4_served 30 = .ok (.istore_n 1, 1) := by decide +kernel
theorem dX4_served_31 : decode cX4_served 31 = .ok (.iload_n 2, 1) := by decide +kernel
theorem dX4_served_32 : decode cX4_served 32 = .ok (.aload_n 0, 1) := by decide +kernel
theorem dX4_served_33 : decode cX4_served 33 = .ok (.iload_n 3, 1) := by decide +kernel
theorem dX4_served_34 : decode cX4_served 34 = .ok (.iconst 5, 1) := by decide +kernel
theorem dX4_served_35 : decode cX4_served 35 = .ok (.invokevirtual 278, 3) := by decide +kernel
theorem dX4_served_38 : decode cX4_served 38 = .ok (.iadd, 1) := by decide +kernel
theorem dX4_served_39 : decode cX4_served 39 = .ok (.istore_n 2, 1) := by decide +kernel
theorem dX4_served_40 : decode cX4_served 40 = .ok (.iinc 3 1, 3) := by decide +kernel
theorem dX4_served_43 : decode cX4_served 43 = .ok (.goto (-32), 3) := by decide +kernel
theorem dX4_served_46 : decode cX4_served 46 = .ok (.iload_n 1, 1) := by decide +kernel
theorem dX4_served_47 : decode cX4_served 47 = .ok (.ifCond .ne 7, 3) := by decide +kernel
theorem dX4_served_50 : decode cX4_served 50 = .ok (.dconst 1, 1) := by decide +kernel
theorem dX4_served_51 : decode cX4_served 51 = .ok (.goto 8, 3) := by decide +kernel
theorem dX4_served_54 : decode cX4_served 54 = .ok (.iload_n 2, 1) := by decide +kernel
theorem dX4_served_55 : decode cX4_served 55 = .ok (.i2d, 1) := by decide +kernel
theorem dX4_served_56 : decode cX4_served 56 = .ok (.iload_n 1, 1) := by decide +kernel
theorem dX4_served_57 : decode cX4_served 57 = .ok (.i2d, 1) := by decide +kernel
theorem dX4_served_58 : decode cX4_served 58 = .ok (.ddiv, 1) := by decide +kernel
theorem dX4_served_59 : decode cX4_served 59 = .ok (.dreturn, 1) := by decide +kernel
theorem dX4_outflowNow_0 : decode cX4_outflowNow 0 = .ok (.aload_n 0, 1) := by decide +kernel
theorem dX4_outflowNow_1 : decode cX4_outflowNow 1 = .ok (.getfield 7, 3) := by decide +kernel
theorem dX4_outflowNow_4 : decode cX4_outflowNow 4 = .ok (.iconst 0, 1) := by decide +kernel
theorem dX4_outflowNow_5 : decode cX4_outflowNow 5 = .ok (.iaload, 1) := by decide +kernel
theorem dX4_outflowNow_6 : decode cX4_outflowNow 6 = .ok (.ifCond .ne 7, 3) := by decide +kernel
theorem dX4_outflowNow_9 : decode cX4_outflowNow 9 = .ok (.iconst 0, 1) := by decide +kernel
theorem dX4_outflowNow_10 : decode cX4_outflowNow 10 = .ok (.goto 16, 3) := by decide +kernel
theorem dX4_outflowNow_13 : decode cX4_outflowNow 13 = .ok (.aload_n 0, 1) := by decide +kernel
theorem dX4_outflowNow_14 : decode cX4_outflowNow 14 = .ok (.aload_n 0, 1) := by decide +kernel
theorem dX4_outflowNow_15 : decode cX4_outflowNow 15 = .ok (.getfield 7, 3) := by decide +kernel
theorem dX4_outflowNow_18 : decode cX4_outflowNow 18 = .ok (.iconst 0, 1) := by decide +kernel
theorem dX4_outflowNow_19 : decode cX4_outflowNow 19 = .ok (.iaload, 1) := by decide +kernel
theorem dX4_outflowNow_20 : decode cX4_outflowNow 20 = .ok (.iconst 1, 1) := by decide +kernel
theorem dX4_outflowNow_21 : decode cX4_outflowNow 21 = .ok (.isub, 1) := by decide +kernel
theorem dX4_outflowNow_22 : decode cX4_outflowNow 22 = .ok (.iconst 2, 1) := by decide +kernel
theorem dX4_outflowNow_23 : decode cX4_outflowNow 23 = .ok (.invokevirtual 290, 3) := by decide +kernel
theorem dX4_outflowNow_26 : decode cX4_outflowNow 26 = .ok (.ireturn, 1) := by decide +kernel
theorem dX4_outflow_0 : decode cX4_outflow 0 = .ok (.aload_n 0, 1) := by decide +kernel
theorem dX4_outflow_1 : decode cX4_outflow 1 = .ok (.iconst 0, 1) := by decide +kernel
theorem dX4_outflow_2 : decode cX4_outflow 2 = .ok (.putfield 77, 3) := by decide +kernel
theorem dX4_outflow_5 : decode cX4_outflow 5 = .ok (.aload_n 0, 1) := by decide +kernel
theorem dX4_outflow_6 : decode cX4_outflow 6 = .ok (.invokevirtual 284, 3) := by decide +kernel
theorem dX4_outflow_9 : decode cX4_outflow 9 = .ok (.ireturn, 1) := by decide +kernel
theorem dX4_isBalanced_0 : decode cX4_isBalanced 0 = .ok (.aload_n 0, 1) := by decide +kernel
theorem dX4_isBalanced_1 : decode cX4_isBalanced 1 = .ok (.iconst 0, 1) := by decide +kernel
theorem dX4_isBalanced_2 : decode cX4_isBalanced 2 = .ok (.putfield 77, 3) := by decide +kernel
theorem dX4_isBalanced_5 : decode cX4_isBalanced 5 = .ok (.iconst 0, 1) := by decide +kernel
theorem dX4_isBalanced_6 : decode cX4_isBalanced 6 = .ok (.istore_n 1, 1) := by decide +kernel
theorem dX4_isBalanced_7 : decode cX4_isBalanced 7 = .ok (.iconst 0, 1) := by decide +kernel
theorem dX4_isBalanced_8 : decode cX4_isBalanced 8 = .ok (.istore_n 2, 1) := by decide +kernel
theorem dX4_isBalanced_9 : decode cX4_isBalanced 9 = .ok (.iload_n 2, 1) := by decide +kernel
theorem dX4_isBalanced_10 : decode cX4_isBalanced 10 = .ok (.aload_n 0, 1) := by decide +kernel
theorem dX4_isBalanced_11 : decode cX4_isBalanced 11 = .ok (.getfield 7, 3) := by decide +kernel
theorem dX4_isBalanced_14 : decode cX4_isBalanced 14 = .ok (.iconst 0, 1) := by decide +kernel
theorem dX4_isBalanced_15 : decode cX4_isBalanced 15 = .ok (.iaload, 1) := by decide +kernel
theorem dX4_isBalanced_16 : decode cX4_isBalanced 16 = .ok (.if_icmp .ge 44, 3) := by decide +kernel
theorem dX4_isBalanced_19 : decode cX4_isBalanced 19 = .ok (.iload_n 1, 1) := by decide +kernel
theorem dX4_isBalanced_20 : decode cX4_isBalanced 20 = .ok (.aload_n 0, 1) := by decide +kernel
theorem dX4_isBalanced_21 : decode cX4_isBalanced 21 = .ok (.iload_n 2, 1) := by decide +kernel
theorem dX4_isBalanced_22 : decode cX4_isBalanced 22 = .ok (.iconst 0, 1) := by decide +kernel
theorem dX4_isBalanced_23 : decode cX4_isBalanced 23 = .ok (.invokevirtual 290, 3) := by decide +kernel
theorem dX4_isBalanced_26 : decode cX4_isBalanced 26 = .ok (.aload_n 0, 1) := by decide +kernel
theorem dX4_isBalanced_27 : decode cX4_isBalanced 27 = .ok (.iload_n 2, 1) := by decide +kernel
theorem dX4_isBalanced_28 : decode cX4_isBalanced 28 = .ok (.iconst 3, 1) := by decide +kernel
theorem dX4_isBalanced_29 : decode cX4_isBalanced 29 = .ok (.invokevirtual 290, 3) := by decide +kernel
theorem dX4_isBalanced_32 : decode cX4_isBalanced 32 = .ok (.isub, 1) := by decide +kernel
theorem dX4_isBalanced_33 : decode cX4_isBalanced 33 = .ok (.aload_n 0, 1) := by decide +kernel
theorem dX4_isBalanced_34 : decode cX4_isBalanced 34 = .ok (.iload_n 2, 1) := by decide +kernel
theorem dX4_isBalanced_35 : decode cX4_isBalanced 35 = .ok (.iconst 4, 1) := by decide +kernel
theorem dX4_isBalanced_36 : decode cX4_isBalanced 36 = .ok (.invokevirtual 290, 3) := by decide +kernel
theorem dX4_isBalanced_39 : decode cX4_isBalanced 39 = .ok (.iadd, 1) := by decide +kernel
theorem dX4_isBalanced_40 : decode cX4_isBalanced 40 = .ok (.iadd, 1) := by decide +kernel
theorem dX4_isBalanced_41 : decode cX4_isBalanced 41 = .ok (.istore_n 1, 1) := by decide +kernel
theorem dX4_isBalanced_42 : decode cX4_isBalanced 42 = .ok (.aload_n 0, 1) := by decide +kernel
theorem dX4_isBalanced_43 : decode cX4_isBalanced 43 = .ok (.iload_n 2, 1) := by decide +kernel
theorem dX4_isBalanced_44 : decode cX4_isBalanced 44 = .ok (.iconst 2, 1) := by decide +kernel
theorem dX4_isBalanced_45 : decode cX4_isBalanced 45 = .ok (.invokevirtual 290, 3) := by decide +kernel
theorem dX4_isBalanced_48 : decode cX4_isBalanced 48 = .ok (.iload_n 1, 1) := by decide +kernel
theorem dX4_isBalanced_49 : decode cX4_isBalanced 49 = .ok (.if_icmp .eq 5, 3) := by decide +kernel
theorem dX4_isBalanced_52 : decode cX4_isBalanced 52 = .ok (.iconst 0, 1) := by decide +kernel
theorem dX4_isBalanced_53 : decode cX4_isBalanced 53 = .ok (.ireturn, 1) := by decide +kernel
theorem dX4_isBalanced_54 : decode cX4_isBalanced 54 = .ok (.iinc 2 1, 3) := by decide +kernel
theorem dX4_isBalanced_57 : decode cX4_isBalanced 57 = .ok (.goto (-48), 3) := by decide +kernel
theorem dX4_isBalanced_60 : decode cX4_isBalanced 60 = .ok (.iconst 1, 1) := by decide +kernel
theorem dX4_isBalanced_61 : decode cX4_isBalanced 61 = .ok (.ireturn, 1) := by decide +kernel
theorem dX4_got_0 : decode cX4_got 0 = .ok (.aload_n 0, 1) := by decide +kernel
theorem dX4_got_1 : decode cX4_got 1 = .ok (.aload_n 0, 1) := by decide +kernel
theorem dX4_got_2 : decode cX4_got 2 = .ok (.iload_n 1, 1) := by decide +kernel
theorem dX4_got_3 : decode cX4_got 3 = .ok (.invokevirtual 210, 3) := by decide +kernel
theorem dX4_got_6 : decode cX4_got 6 = .ok (.ifCond .eq 7, 3) := by decide +kernel
theorem dX4_got_9 : decode cX4_got 9 = .ok (.iconst 0, 1) := by decide +kernel
theorem dX4_got_10 : decode cX4_got 10 = .ok (.goto 4, 3) := by decide +kernel
theorem dX4_got_13 : decode cX4_got 13 = .ok (.iconst 1, 1) := by decide +kernel
theorem dX4_got_14 : decode cX4_got 14 = .ok (.putfield 77, 3) := by decide +kernel
theorem dX4_got_17 : decode cX4_got 17 = .ok (.aload_n 0, 1) := by decide +kernel
theorem dX4_got_18 : decode cX4_got 18 = .ok (.getfield 77, 3) := by decide +kernel
theorem dX4_got_21 : decode cX4_got 21 = .ok (.ifCond .le 7, 3) := by decide +kernel
theorem dX4_got_24 : decode cX4_got 24 = .ok (.iconst 0, 1) := by decide +kernel
theorem dX4_got_25 : decode cX4_got 25 = .ok (.goto 12, 3) := by decide +kernel
theorem dX4_got_28 : decode cX4_got 28 = .ok (.aload_n 0, 1) := by decide +kernel
theorem dX4_got_29 : decode cX4_got 29 = .ok (.getfield 7, 3) := by decide +kernel
theorem dX4_got_32 : decode cX4_got 32 = .ok (.bipush 31, 2) := by decide +kernel
theorem dX4_got_34 : decode cX4_got 34 = .ok (.iload_n 1, 1) := by decide +kernel
theorem dX4_got_35 : decode cX4_got 35 = .ok (.iadd, 1) := by decide +kernel
theorem dX4_got_36 : decode cX4_got 36 = .ok (.iaload, 1) := by decide +kernel
theorem dX4_got_37 : decode cX4_got 37 = .ok (.ireturn, 1) := by decide +kernel
theorem dX4_earned_0 : decode cX4_earned 0 = .ok (.aload_n 0, 1) := by decide +kernel
theorem dX4_earned_1 : decode cX4_earned 1 = .ok (.aload_n 0, 1) := by decide +kernel
theorem dX4_earned_2 : decode cX4_earned 2 = .ok (.iload_n 1, 1) := by decide +kernel
theorem dX4_earned_3 : decode cX4_earned 3 = .ok (.invokevirtual 213, 3) := by decide +kernel
theorem dX4_earned_6 : decode cX4_earned 6 = .ok (.ifCond .eq 7, 3) := by decide +kernel
theorem dX4_earned_9 : decode cX4_earned 9 = .ok (.iconst 0, 1) := by decide +kernel
theorem dX4_earned_10 : decode cX4_earned 10 = .ok (.goto 4, 3) := by decide +kernel
theorem dX4_earned_13 : decode cX4_earned 13 = .ok (.iconst 1, 1) := by decide +kernel
theorem dX4_earned_14 : decode cX4_earned 14 = .ok (.putfield 77, 3) := by decide +kernel
theorem dX4_earned_17 : decode cX4_earned 17 = .ok (.aload_n 0, 1) := by decide +kernel
theorem dX4_earned_18 : decode cX4_earned 18 = .ok (.getfield 77, 3) := by decide +kernel
theorem dX4_earned_21 : decode cX4_earned 21 = .ok (.ifCond .le 7, 3) := by decide +kernel
theorem dX4_earned_24 : decode cX4_earned 24 = .ok (.lconst 0, 1) := by decide +kernel
theorem dX4_earned_25 : decode cX4_earned 25 = .ok (.goto 11, 3) := by decide +kernel
theorem dX4_earned_28 : decode cX4_earned 28 = .ok (.aload_n 0, 1) := by decide +kernel
theorem dX4_earned_29 : decode cX4_earned 29 = .ok (.getfield 22, 3) := by decide +kernel
theorem dX4_earned_32 : decode cX4_earned 32 = .ok (.iconst 5, 1) := by decide +kernel
theorem dX4_earned_33 : decode cX4_earned 33 = .ok (.iload_n 1, 1) := by decide +kernel
theorem dX4_earned_34 : decode cX4_earned 34 = .ok (.iadd, 1) := by decide +kernel
theorem dX4_earned_35 : decode cX4_earned 35 = .ok (.laload, 1) := by decide +kernel
theorem dX4_earned_36 : decode cX4_earned 36 = .ok (.lreturn, 1) := by decide +kernel
theorem dX4_bankedInAll_0 : decode cX4_bankedInAll 0 = .ok (.aload_n 0, 1) := by decide +kernel
theorem dX4_bankedInAll_1 : decode cX4_bankedInAll 1 = .ok (.iconst 0, 1) := by decide +kernel
theorem dX4_bankedInAll_2 : decode cX4_bankedInAll 2 = .ok (.putfield 77, 3) := by decide +kernel
theorem dX4_bankedInAll_5 : decode cX4_bankedInAll 5 = .ok (.aload_n 0, 1) := by decide +kernel
theorem dX4_bankedInAll_6 : decode cX4_bankedInAll 6 = .ok (.getfield 7, 3) := by decide +kernel
theorem dX4_bankedInAll_9 : decode cX4_bankedInAll 9 = .ok (.bipush 53, 2) := by decide +kernel
theorem dX4_bankedInAll_11 : decode cX4_bankedInAll 11 = .ok (.iaload, 1) := by decide +kernel
theorem dX4_bankedInAll_12 : decode cX4_bankedInAll 12 = .ok (.ireturn, 1) := by decide +kernel
theorem dX4_lostInAll_0 : decode cX4_lostInAll 0 = .ok (.aload_n 0, 1) := by decide +kernel
theorem dX4_lostInAll_1 : decode cX4_lostInAll 1 = .ok (.iconst 0, 1) := by decide +kernel
theorem dX4_lostInAll_2 : decode cX4_lostInAll 2 = .ok (.putfield 77, 3) := by decide +kernel
theorem dX4_lostInAll_5 : decode cX4_lostInAll 5 = .ok (.aload_n 0, 1) := by decide +kernel
theorem dX4_lostInAll_6 : decode cX4_lostInAll 6 = .ok (.getfield 7, 3) := by decide +kernel
theorem dX4_lostInAll_9 : decode cX4_lostInAll 9 = .ok (.bipush 54, 2) := by decide +kernel
theorem dX4_lostInAll_11 : decode cX4_lostInAll 11 = .ok (.iaload, 1) := by decide +kernel
theorem dX4_lostInAll_12 : decode cX4_lostInAll 12 = .ok (.ireturn, 1) := by decide +kernel
theorem dX4_releasedInAll_0 : decode cX4_releasedInAll 0 = .ok (.aload_n 0, 1) := by decide +kernel
theorem dX4_releasedInAll_1 : decode cX4_releasedInAll 1 = .ok (.iconst 0, 1) := by decide +kernel
theorem dX4_releasedInAll_2 : decode cX4_releasedInAll 2 = .ok (.putfield 77, 3) := by decide +kernel
theorem dX4_releasedInAll_5 : decode cX4_releasedInAll 5 = .ok (.aload_n 0, 1) := by decide +kernel
theorem dX4_releasedInAll_6 : decode cX4_releasedInAll 6 = .ok (.getfield 7, 3) := by decide +kernel
theorem dX4_releasedInAll_9 : decode cX4_releasedInAll 9 = .ok (.bipush 55, 2) := by decide +kernel
theorem dX4_releasedInAll_11 : decode cX4_releasedInAll 11 = .ok (.iaload, 1) := by decide +kernel
theorem dX4_releasedInAll_12 : decode cX4_releasedInAll 12 = .ok (.ireturn, 1) := by decide +kernel
theorem dX4_areAccountsRight_0 : decode cX4_areAccountsRight 0 = .ok (.aload_n 0, 1) := by decide +kernel
theorem dX4_areAccountsRight_1 : decode cX4_areAccountsRight 1 = .ok (.iconst 0, 1) := by decide +kernel
theorem dX4_areAccountsRight_2 : decode cX4_areAccountsRight 2 = .ok (.putfield 77, 3) := by decide +kernel
theorem dX4_areAccountsRight_5 : decode cX4_areAccountsRight 5 = .ok (.iconst 0, 1) := by decide +kernel
theorem dX4_areAccountsRight_6 : decode cX4_areAccountsRight 6 = .ok (.istore_n 1, 1) := by decide +kernel
theorem dX4_areAccountsRight_7 : decode cX4_areAccountsRight 7 = .ok (.lconst 0, 1) := by decide +kernel
theorem dX4_areAccountsRight_8 : decode cX4_areAccountsRight 8 = .ok (.lstore_n 2, 1) := by decide +kernel
theorem dX4_areAccountsRight_9 : decode cX4_areAccountsRight 9 = .ok (.iconst 0, 1) := by decide +kernel
theorem dX4_areAccountsRight_10 : decode cX4_areAccountsRight 10 = .ok (.istore 4, 2) := by decide +kernel
theorem dX4_areAccountsRight_12 : decode cX4_areAccountsRight 12 = .ok (.iload 4, 2) := by decide +kernel
theorem dX4_areAccountsRight_14 : decode cX4_areAccountsRight 14 = .ok (.aload_n 0, 1) := by decide +kernel
theorem dX4_areAccountsRight_15 : decode cX4_areAccountsRight 15 = .ok (.getfield 7, 3) := by decide +kernel
theorem dX4_areAccountsRight_18 : decode cX4_areAccountsRight 18 = .ok (.iconst 1, 1) := by decide +kernel
theorem dX4_areAccountsRight_19 : decode cX4_areAccountsRight 19 = .ok (.iaload, 1) := by decide +kernel
theorem dX4_areAccountsRight_20 : decode cX4_areAccountsRight 20 = .ok (.if_icmp .ge 32, 3) := by decide +kernel
theorem dX4_areAccountsRight_23 : decode cX4_areAccountsRight 23 = .ok (.iload_n 1, 1) := by decide +kernel
theorem dX4_areAccountsRight_24 : decode cX4_areAccountsRight 24 = .ok (.aload_n 0, 1) := by decide +kernel
theorem dX4_areAccountsRight_25 : decode cX4_areAccountsRight 25 = .ok (.getfield 7, 3) := by decide +kernel
theorem dX4_areAccountsRight_28 : decode cX4_areAccountsRight 28 = .ok (.bipush 26, 2) := by decide +kernel
theorem dX4_areAccountsRight_30 : decode cX4_areAccountsRight 30 = .ok (.iload 4, 2) := by decide +kernel
theorem dX4_areAccountsRight_32 : decode cX4_areAccountsRight 32 = .ok (.iadd, 1) := by decide +kernel
theorem dX4_areAccountsRight_33 : decode cX4_areAccountsRight 33 = .ok (.iaload, 1) := by decide +kernel
theorem dX4_areAccountsRight_34 : decode cX4_areAccountsRight 34 = .ok (.iadd, 1) := by decide +kernel
theorem dX4_areAccountsRight_35 : decode cX4_areAccountsRight 35 = .ok (.istore_n 1, 1) := by decide +kernel
theorem dX4_areAccountsRight_36 : decode cX4_areAccountsRight 36 = .ok (.lload_n 2, 1) := by decide +kernel
theorem dX4_areAccountsRight_37 : decode cX4_areAccountsRight 37 = .ok (.aload_n 0, 1) := by decide +kernel
theorem dX4_areAccountsRight_38 : decode cX4_areAccountsRight 38 = .ok (.getfield 22, 3) := by decide +kernel
theorem dX4_areAccountsRight_41 : decode cX4_areAccountsRight 41 = .ok (.iload 4, 2) := by decide +kernel
theorem dX4_areAccountsRight_43 : decode cX4_areAccountsRight 43 = .ok (.laload, 1) := by decide +kernel
theorem dX4_areAccountsRight_44 : decode cX4_areAccountsRight 44 = .ok (.ladd, 1) := by decide +kernel
theorem dX4_areAccountsRight_45 : decode cX4_areAccountsRight 45 = .ok (.lstore_n 2, 1) := by decide +kernel
theorem dX4_areAccountsRight_46 : decode cX4_areAccountsRight 46 = .ok (.iinc 4 1, 3) := by decide +kernel
theorem dX4_areAccountsRight_49 : decode cX4_areAccountsRight 49 = .ok (.goto (-37), 3) := by decide +kernel
theorem dX4_areAccountsRight_52 : decode cX4_areAccountsRight 52 = .ok (.iload_n 1, 1) := by decide +kernel
theorem dX4_areAccountsRight_53 : decode cX4_areAccountsRight 53 = .ok (.aload_n 0, 1) := by decide +kernel
theorem dX4_areAccountsRight_54 : decode cX4_areAccountsRight 54 = .ok (.getfield 7, 3) := by decide +kernel
theorem dX4_areAccountsRight_57 : decode cX4_areAccountsRight 57 = .ok (.bipush 53, 2) := by decide +kernel
theorem dX4_areAccountsRight_59 : decode cX4_areAccountsRight 59 = .ok (.iaload, 1) := by decide +kernel
theorem dX4_areAccountsRight_60 : decode cX4_areAccountsRight 60 = .ok (.aload_n 0, 1) := by decide +kernel
theorem dX4_areAccountsRight_61 : decode cX4_areAccountsRight 61 = .ok (.getfield 7, 3) := by decide +kernel
theorem dX4_areAccountsRight_64 : decode cX4_areAccountsRight 64 = .ok (.bipush 54, 2) := by decide +kernel
theorem dX4_areAccountsRight_66 : decode cX4_areAccountsRight 66 = .ok (.iaload, 1) := by decide +kernel
theorem dX4_areAccountsRight_67 : decode cX4_areAccountsRight 67 = .ok (.isub, 1) := by decide +kernel
theorem dX4_areAccountsRight_68 : decode cX4_areAccountsRight 68 = .ok (.aload_n 0, 1) := by decide +kernel
theorem dX4_areAccountsRight_69 : decode cX4_areAccountsRight 69 = .ok (.getfield 7, 3) := by decide +kernel
theorem dX4_areAccountsRight_72 : decode cX4_areAccountsRight 72 = .ok (.bipush 55, 2) := by decide +kernel
theorem dX4_areAccountsRight_74 : decode cX4_areAccountsRight 74 = .ok (.iaload, 1) := by decide +kernel
theorem dX4_areAccountsRight_75 : decode cX4_areAccountsRight 75 = .ok (.isub, 1) := by decide +kernel
theorem dX4_areAccountsRight_76 : decode cX4_areAccountsRight 76 = .ok (.if_icmp .ne 13, 3) := by decide +kernel
theorem dX4_areAccountsRight_79 : decode cX4_areAccountsRight 79 = .ok (.lload_n 2, 1) := by decide +kernel
theorem dX4_areAccountsRight_80 : decode cX4_areAccountsRight 80 = .ok (.lconst 0, 1) := by decide +kernel
theorem dX4_areAccountsRight_81 : decode cX4_areAccountsRight 81 = .ok (.lcmp, 1) := by decide +kernel
theorem dX4_areAccountsRight_82 : decode cX4_areAccountsRight 82 = .ok (.ifCond .ne 7, 3) := by decide +kernel
theorem dX4_areAccountsRight_85 : decode cX4_areAccountsRight 85 = .ok (.iconst 1, 1) := by decide +kernel
theorem dX4_areAccountsRight_86 : decode cX4_areAccountsRight 86 = .ok (.goto 4, 3) := by decide +kernel
theorem dX4_areAccountsRight_89 : decode cX4_areAccountsRight 89 = .ok (.iconst 0, 1) := by decide +kernel
theorem dX4_areAccountsRight_90 : decode cX4_areAccountsRight 90 = .ok (.ireturn, 1) := by decide +kernel
theorem dX4_richest_0 : decode cX4_richest 0 = .ok (.aload_n 0, 1) := by decide +kernel
theorem dX4_richest_1 : decode cX4_richest 1 = .ok (.iconst 0, 1) := by decide +kernel
theorem dX4_richest_2 : decode cX4_richest 2 = .ok (.putfield 77, 3) := by decide +kernel
theorem dX4_richest_5 : decode cX4_richest 5 = .ok (.iconst 0, 1) := by decide +kernel
theorem dX4_richest_6 : decode cX4_richest 6 = .ok (.istore_n 1, 1) := by decide +kernel
theorem dX4_richest_7 : decode cX4_richest 7 = .ok (.iconst 1, 1) := by decide +kernel
theorem dX4_richest_8 : decode cX4_richest 8 = .ok (.istore_n 2, 1) := by decide +kernel
theorem dX4_richest_9 : decode cX4_richest 9 = .ok (.iload_n 2, 1) := by decide +kernel
theorem dX4_richest_10 : decode cX4_richest 10 = .ok (.aload_n 0, 1) := by decide +kernel
theorem dX4_richest_11 : decode cX4_richest 11 = .ok (.getfield 7, 3) := by decide +kernel
theorem dX4_richest_14 : decode cX4_richest 14 = .ok (.iconst 1, 1) := by decide +kernel
theorem dX4_richest_15 : decode cX4_richest 15 = .ok (.iaload, 1) := by decide +kernel
theorem dX4_richest_16 : decode cX4_richest 16 = .ok (.if_icmp .ge 31, 3) := by decide +kernel
theorem dX4_richest_19 : decode cX4_richest 19 = .ok (.aload_n 0, 1) := by decide +kernel
theorem dX4_richest_20 : decode cX4_richest 20 = .ok (.getfield 22, 3) := by decide +kernel
theorem dX4_richest_23 : decode cX4_richest 23 = .ok (.iload_n 2, 1) := by decide +kernel
theorem dX4_richest_24 : decode cX4_richest 24 = .ok (.laload, 1) := by decide +kernel
theorem dX4_richest_25 : decode cX4_richest 25 = .ok (.aload_n 0, 1) := by decide +kernel
theorem dX4_richest_26 : decode cX4_richest 26 = .ok (.getfield 22, 3) := by decide +kernel
theorem dX4_richest_29 : decode cX4_richest 29 = .ok (.iload_n 1, 1) := by decide +kernel
theorem dX4_richest_30 : decode cX4_richest 30 = .ok (.laload, 1) := by decide +kernel
theorem dX4_richest_31 : decode cX4_richest 31 = .ok (.lcmp, 1) := by decide +kernel
theorem dX4_richest_32 : decode cX4_richest 32 = .ok (.ifCond .le 7, 3) := by decide +kernel
theorem dX4_richest_35 : decode cX4_richest 35 = .ok (.iload_n 2, 1) := by decide +kernel
theorem dX4_richest_36 : decode cX4_richest 36 = .ok (.goto 4, 3) := by decide +kernel
theorem dX4_richest_39 : decode cX4_richest 39 = .ok (.iload_n 1, 1) := by decide +kernel
theorem dX4_richest_40 : decode cX4_richest 40 = .ok (.istore_n 1, 1) := by decide +kernel
theorem dX4_richest_41 : decode cX4_richest 41 = .ok (.iinc 2 1, 3) := by decide +kernel
theorem dX4_richest_44 : decode cX4_richest 44 = .ok (.goto (-35), 3) := by decide +kernel
theorem dX4_richest_47 : decode cX4_richest 47 = .ok (.iload_n 1, 1) := by decide +kernel
theorem dX4_richest_48 : decode cX4_richest 48 = .ok (.ireturn, 1) := by decide +kernel
theorem dX4_putsAside_0 : decode cX4_putsAside 0 = .ok (.iconst 0, 1) := by decide +kernel
theorem dX4_putsAside_1 : decode cX4_putsAside 1 = .ok (.istore_n 1, 1) := by decide +kernel
theorem dX4_putsAside_2 : decode cX4_putsAside 2 = .ok (.iload_n 1, 1) := by decide +kernel
theorem dX4_putsAside_3 : decode cX4_putsAside 3 = .ok (.sipush 521, 3) := by decide +kernel
theorem dX4_putsAside_6 : decode cX4_putsAside 6 = .ok (.if_icmp .ge 21, 3) := by decide +kernel
theorem dX4_putsAside_9 : decode cX4_putsAside 9 = .ok (.aload_n 0, 1) := by decide +kernel
theorem dX4_putsAside_10 : decode cX4_putsAside 10 = .ok (.getfield 16, 3) := by decide +kernel
theorem dX4_putsAside_13 : decode cX4_putsAside 13 = .ok (.iload_n 1, 1) := by decide +kernel
theorem dX4_putsAside_14 : decode cX4_putsAside 14 = .ok (.aload_n 0, 1) := by decide +kernel
theorem dX4_putsAside_15 : decode cX4_putsAside 15 = .ok (.getfield 7, 3) := by decide +kernel
theorem dX4_putsAside_18 : decode cX4_putsAside 18 = .ok (.iload_n 1, 1) := by decide +kernel
theorem dX4_putsAside_19 : decode cX4_putsAside 19 = .ok (.iaload, 1) := by decide +kernel
theorem dX4_putsAside_20 : decode cX4_putsAside 20 = .ok (.iastore, 1) := by decide +kernel
theorem dX4_putsAside_21 : decode cX4_putsAside 21 = .ok (.iinc 1 1, 3) := by decide +kernel
theorem dX4_putsAside_24 : decode cX4_putsAside 24 = .ok (.goto (-22), 3) := by decide +kernel
theorem dX4_putsAside_27 : decode cX4_putsAside 27 = .ok (.iconst 0, 1) := by decide +kernel
theorem dX4_putsAside_28 : decode cX4_putsAside 28 = .ok (.istore_n 1, 1) := by decide +kernel
theorem dX4_putsAside_29 : decode cX4_putsAside 29 = .ok (.iload_n 1, 1) := by decide +kernel
theorem dX4_putsAside_30 : decode cX4_putsAside 30 = .ok (.bipush 15, 2) := by decide +kernel
theorem dX4_putsAside_32 : decode cX4_putsAside 32 = .ok (.if_icmp .ge 21, 3) := by decide +kernel
theorem dX4_putsAside_35 : decode cX4_putsAside 35 = .ok (.aload_n 0, 1) := by decide +kernel
theorem dX4_putsAside_36 : decode cX4_putsAside 36 = .ok (.getfield 26, 3) := by decide +kernel
theorem dX4_putsAside_39 : decode cX4_putsAside 39 = .ok (.iload_n 1, 1) := by decide +kernel
theorem dX4_putsAside_40 : decode cX4_putsAside 40 = .ok (.aload_n 0, 1) := by decide +kernel
theorem dX4_putsAside_41 : decode cX4_putsAside 41 = .ok (.getfield 22, 3) := by decide +kernel
theorem dX4_putsAside_44 : decode cX4_putsAside 44 = .ok (.iload_n 1, 1) := by decide +kernel
theorem dX4_putsAside_45 : decode cX4_putsAside 45 = .ok (.laload, 1) := by decide +kernel
theorem dX4_putsAside_46 : decode cX4_putsAside 46 = .ok (.lastore, 1) := by decide +kernel
theorem dX4_putsAside_47 : decode cX4_putsAside 47 = .ok (.iinc 1 1, 3) := by decide +kernel
theorem dX4_putsAside_50 : decode cX4_putsAside 50 = .ok (.goto (-21), 3) := by decide +kernel
theorem dX4_putsAside_53 : decode cX4_putsAside 53 = .ok (.return_, 1) := by decide +kernel
theorem dX4_takesBack_0 : decode cX4_takesBack 0 = .ok (.iconst 0, 1) := by decide +kernel
theorem dX4_takesBack_1 : decode cX4_takesBack 1 = .ok (.istore_n 1, 1) := by decide +kernel
theorem dX4_takesBack_2 : decode cX4_takesBack 2 = .ok (.iload_n 1, 1) := by decide +kernel
theorem dX4_takesBack_3 : decode cX4_takesBack 3 = .ok (.sipush 521, 3) := by decide +kernel
theorem dX4_takesBack_6 : decode cX4_takesBack 6 = .ok (.if_icmp .ge 21, 3) := by decide +kernel
theorem dX4_takesBack_9 : decode cX4_takesBack 9 = .ok (.aload_n 0, 1) := by decide +kernel
theorem dX4_takesBack_10 : decode cX4_takesBack 10 = .ok (.getfield 7, 3) := by decide +kernel
theorem dX4_takesBack_13 : decode cX4_takesBack 13 = .ok (.iload_n 1, 1) := by decide +kernel
theorem dX4_takesBack_14 : decode cX4_takesBack 14 = .ok (.aload_n 0, 1) := by decide +kernel
theorem dX4_takesBack_15 : decode cX4_takesBack 15 = .ok (.getfield 16, 3) := by decide +kernel
theorem dX4_takesBack_18 : decode cX4_takesBack 18 = .ok (.iload_n 1, 1) := by decide +kernel
theorem dX4_takesBack_19 : decode cX4_takesBack 19 = .ok (.iaload, 1) := by decide +kernel
theorem dX4_takesBack_20 : decode cX4_takesBack 20 = .ok (.iastore, 1) := by decide +kernel
theorem dX4_takesBack_21 : decode cX4_takesBack 21 = .ok (.iinc 1 1, 3) := by decide +kernel
theorem dX4_takesBack_24 : decode cX4_takesBack 24 = .ok (.goto (-22), 3) := by decide +kernel
theorem dX4_takesBack_27 : decode cX4_takesBack 27 = .ok (.iconst 0, 1) := by decide +kernel
theorem dX4_takesBack_28 : decode cX4_takesBack 28 = .ok (.istore_n 1, 1) := by decide +kernel
theorem dX4_takesBack_29 : decode cX4_takesBack 29 = .ok (.iload_n 1, 1) := by decide +kernel
theorem dX4_takesBack_30 : decode cX4_takesBack 30 = .ok (.bipush 15, 2) := by decide +kernel
theorem dX4_takesBack_32 : decode cX4_takesBack 32 = .ok (.if_icmp .ge 21, 3) := by decide +kernel
theorem dX4_takesBack_35 : decode cX4_takesBack 35 = .ok (.aload_n 0, 1) := by decide +kernel
theorem dX4_takesBack_36 : decode cX4_takesBack 36 = .ok (.getfield 22, 3) := by decide +kernel
theorem dX4_takesBack_39 : decode cX4_takesBack 39 = .ok (.iload_n 1, 1) := by decide +kernel
theorem dX4_takesBack_40 : decode cX4_takesBack 40 = .ok (.aload_n 0, 1) := by decide +kernel
theorem dX4_takesBack_41 : decode cX4_takesBack 41 = .ok (.getfield 26, 3) := by decide +kernel
theorem dX4_takesBack_44 : decode cX4_takesBack 44 = .ok (.iload_n 1, 1) := by decide +kernel
theorem dX4_takesBack_45 : decode cX4_takesBack 45 = .ok (.laload, 1) := by decide +kernel
theorem dX4_takesBack_46 : decode cX4_takesBack 46 = .ok (.lastore, 1) := by decide +kernel
theorem dX4_takesBack_47 : decode cX4_takesBack 47 = .ok (.iinc 1 1, 3) := by decide +kernel
theorem dX4_takesBack_50 : decode cX4_takesBack 50 = .ok (.goto (-21), 3) := by decide +kernel
theorem dX4_takesBack_53 : decode cX4_takesBack 53 = .ok (.return_, 1) := by decide +kernel
theorem dX4_months_0 : decode cX4_months 0 = .ok (.iconst 0, 1) := by decide +kernel
theorem dX4_months_1 : decode cX4_months 1 = .ok (.istore_n 2, 1) := by decide +kernel
theorem dX4_months_2 : decode cX4_months 2 = .ok (.iload_n 2, 1) := by decide +kernel
theorem dX4_months_3 : decode cX4_months 3 = .ok (.iload_n 1, 1) := by decide +kernel
theorem dX4_months_4 : decode cX4_months 4 = .ok (.if_icmp .ge 14, 3) := by decide +kernel
theorem dX4_months_7 : decode cX4_months 7 = .ok (.aload_n 0, 1) := by decide +kernel
theorem dX4_months_8 : decode cX4_months 8 = .ok (.invokevirtual 293, 3) := by decide +kernel
theorem dX4_months_11 : decode cX4_months 11 = .ok (.istore_n 3, 1) := by decide +kernel
theorem dX4_months_12 : decode cX4_months 12 = .ok (.iinc 2 1, 3) := by decide +kernel
theorem dX4_months_15 : decode cX4_months 15 = .ok (.goto (-13), 3) := by decide +kernel
theorem dX4_months_18 : decode cX4_months 18 = .ok (.return_, 1) := by decide +kernel
theorem dX4_grows_0 : decode cX4_grows 0 = .ok (.aload_n 0, 1) := by decide +kernel
theorem dX4_grows_1 : decode cX4_grows 1 = .ok (.iload_n 1, 1) := by decide +kernel
theorem dX4_grows_2 : decode cX4_grows 2 = .ok (.iload_n 2, 1) := by decide +kernel
theorem dX4_grows_3 : decode cX4_grows 3 = .ok (.invokevirtual 216, 3) := by decide +kernel
theorem dX4_grows_6 : decode cX4_grows 6 = .ok (.istore 4, 2) := by decide +kernel
theorem dX4_grows_8 : decode cX4_grows 8 = .ok (.aload_n 0, 1) := by decide +kernel
theorem dX4_grows_9 : decode cX4_grows 9 = .ok (.invokevirtual 296, 3) := by decide +kernel
theorem dX4_grows_12 : decode cX4_grows 12 = .ok (.aload_n 0, 1) := by decide +kernel
theorem dX4_grows_13 : decode cX4_grows 13 = .ok (.iload_n 3, 1) := by decide +kernel
theorem dX4_grows_14 : decode cX4_grows 14 = .ok (.invokevirtual 299, 3) := by decide +kernel
theorem dX4_grows_17 : decode cX4_grows 17 = .ok (.aload_n 0, 1) := by decide +kernel
theorem dX4_grows_18 : decode cX4_grows 18 = .ok (.iload_n 1, 1) := by decide +kernel
theorem dX4_grows_19 : decode cX4_grows 19 = .ok (.iload_n 2, 1) := by decide +kernel
theorem dX4_grows_20 : decode cX4_grows 20 = .ok (.invokevirtual 216, 3) := by decide +kernel
theorem dX4_grows_23 : decode cX4_grows 23 = .ok (.iload 4, 2) := by decide +kernel
theorem dX4_grows_25 : decode cX4_grows 25 = .ok (.isub, 1) := by decide +kernel
theorem dX4_grows_26 : decode cX4_grows 26 = .ok (.istore 5, 2) := by decide +kernel
theorem dX4_grows_28 : decode cX4_grows 28 = .ok (.aload_n 0, 1) := by decide +kernel
theorem dX4_grows_29 : decode cX4_grows 29 = .ok (.invokevirtual 302, 3) := by decide +kernel
theorem dX4_grows_32 : decode cX4_grows 32 = .ok (.iload 5, 2) := by decide +kernel
theorem dX4_grows_34 : decode cX4_grows 34 = .ok (.ireturn, 1) := by decide +kernel
theorem dX4_expected_0 : decode cX4_expected 0 = .ok (.aload_n 0, 1) := by decide +kernel
theorem dX4_expected_1 : decode cX4_expected 1 = .ok (.aload_n 0, 1) := by decide +kernel
theorem dX4_expected_2 : decode cX4_expected 2 = .ok (.iload_n 1, 1) := by decide +kernel
theorem dX4_expected_3 : decode cX4_expected 3 = .ok (.invokevirtual 213, 3) := by decide +kernel
theorem dX4_expected_6 : decode cX4_expected 6 = .ok (.ifCond .ne 7, 3) := by decide +kernel
theorem dX4_expected_9 : decode cX4_expected 9 = .ok (.iconst 1, 1) := by decide +kernel
theorem dX4_expected_10 : decode cX4_expected 10 = .ok (.goto 16, 3) := by decide +kernel
theorem dX4_expected_13 : decode cX4_expected 13 = .ok (.aload_n 0, 1) := by decide +kernel
theorem dX4_expected_14 : decode cX4_expected 14 = .ok (.iload_n 2, 1) := by decide +kernel
theorem dX4_expected_15 : decode cX4_expected 15 = .ok (.invokevirtual 305, 3) := by decide +kernel
theorem dX4_expected_18 : decode cX4_expected 18 = .ok (.ifCond .ne 7, 3) := by decide +kernel
theorem dX4_expected_21 : decode cX4_expected 21 = .ok (.iconst 2, 1) := by decide +kernel
theorem dX4_expected_22 : decode cX4_expected 22 = .ok (.goto 4, 3) := by decide +kernel
theorem dX4_expected_25 : decode cX4_expected 25 = .ok (.iconst 0, 1) := by decide +kernel
theorem dX4_expected_26 : decode cX4_expected 26 = .ok (.putfield 77, 3) := by decide +kernel
theorem dX4_expected_29 : decode cX4_expected 29 = .ok (.aload_n 0, 1) := by decide +kernel
theorem dX4_expected_30 : decode cX4_expected 30 = .ok (.getfield 77, 3) := by decide +kernel
theorem dX4_expected_33 : decode cX4_expected 33 = .ok (.ifCond .le 7, 3) := by decide +kernel
theorem dX4_expected_36 : decode cX4_expected 36 = .ok (.iconst 0, 1) := by decide +kernel
theorem dX4_expected_37 : decode cX4_expected 37 = .ok (.goto 11, 3) := by decide +kernel
theorem dX4_expected_40 : decode cX4_expected 40 = .ok (.aload_n 0, 1) := by decide +kernel
theorem dX4_expected_41 : decode cX4_expected 41 = .ok (.iload_n 1, 1) := by decide +kernel
theorem dX4_expected_42 : decode cX4_expected 42 = .ok (.bipush 7, 2) := by decide +kernel
theorem dX4_expected_44 : decode cX4_expected 44 = .ok (.iload_n 2, 1) := by decide +kernel
theorem dX4_expected_45 : decode cX4_expected 45 = .ok (.invokevirtual 308, 3) := by decide +kernel
theorem dX4_expected_48 : decode cX4_expected 48 = .ok (.ireturn, 1) := by decide +kernel
theorem dX4_cutMonths_0 : decode cX4_cutMonths 0 = .ok (.aload_n 0, 1) := by decide +kernel
theorem dX4_cutMonths_1 : decode cX4_cutMonths 1 = .ok (.aload_n 0, 1) := by decide +kernel
theorem dX4_cutMonths_2 : decode cX4_cutMonths 2 = .ok (.iload_n 1, 1) := by decide +kernel
theorem dX4_cutMonths_3 : decode cX4_cutMonths 3 = .ok (.invokevirtual 213, 3) := by decide +kernel
theorem dX4_cutMonths_6 : decode cX4_cutMonths 6 = .ok (.ifCond .ne 7, 3) := by decide +kernel
theorem dX4_cutMonths_9 : decode cX4_cutMonths 9 = .ok (.iconst 1, 1) := by decide +kernel
theorem dX4_cutMonths_10 : decode cX4_cutMonths 10 = .ok (.goto 16, 3) := by decide +kernel
theorem dX4_cutMonths_13 : decode cX4_cutMonths 13 = .ok (.aload_n 0, 1) := by decide +kernel
theorem dX4_cutMonths_14 : decode cX4_cutMonths 14 = .ok (.iload_n 2, 1) := by decide +kernel
theorem dX4_cutMonths_15 : decode cX4_cutMonths 15 = .ok (.invokevirtual 305, 3) := by decide +kernel
theorem dX4_cutMonths_18 : decode cX4_cutMonths 18 = .ok (.ifCond .ne 7, 3) := by decide +kernel
theorem dX4_cutMonths_21 : decode cX4_cutMonths 21 = .ok (.iconst 2, 1) := by decide +kernel
theorem dX4_cutMonths_22 : decode cX4_cutMonths 22 = .ok (.goto 4, 3) := by decide +kernel
theorem dX4_cutMonths_25 : decode cX4_cutMonths 25 = .ok (.iconst 0, 1) := by decide +kernel
theorem dX4_cutMonths_26 : decode cX4_cutMonths 26 = .ok (.putfield 77, 3) := by decide +kernel
theorem dX4_cutMonths_29 : decode cX4_cutMonths 29 = .ok (.aload_n 0, 1) := by decide +kernel
theorem dX4_cutMonths_30 : decode cX4_cutMonths 30 = .ok (.getfield 77, 3) := by decide +kernel
theorem dX4_cutMonths_33 : decode cX4_cutMonths 33 = .ok (.ifCond .le 7, 3) := by decide +kernel
theorem dX4_cutMonths_36 : decode cX4_cutMonths 36 = .ok (.iconst 0, 1) := by decide +kernel
theorem dX4_cutMonths_37 : decode cX4_cutMonths 37 = .ok (.goto 11, 3) := by decide +kernel
theorem dX4_cutMonths_40 : decode cX4_cutMonths 40 = .ok (.aload_n 0, 1) := by decide +kernel
theorem dX4_cutMonths_41 : decode cX4_cutMonths 41 = .ok (.iload_n 1, 1) := by decide +kernel
theorem dX4_cutMonths_42 : decode cX4_cutMonths 42 = .ok (.bipush 9, 2) := by decide +kernel
theorem dX4_cutMonths_44 : decode cX4_cutMonths 44 = .ok (.iload_n 2, 1) := by decide +kernel
theorem dX4_cutMonths_45 : decode cX4_cutMonths 45 = .ok (.invokevirtual 308, 3) := by decide +kernel
theorem dX4_cutMonths_48 : decode cX4_cutMonths 48 = .ok (.ireturn, 1) := by decide +kernel
theorem dX4_balanceAfter_0 : decode cX4_balanceAfter 0 = .ok (.aload_n 0, 1) := by decide +kernel
theorem dX4_balanceAfter_1 : decode cX4_balanceAfter 1 = .ok (.aload_n 0, 1) := by decide +kernel
theorem dX4_balanceAfter_2 : decode cX4_balanceAfter 2 = .ok (.iload_n 1, 1) := by decide +kernel
theorem dX4_balanceAfter_3 : decode cX4_balanceAfter 3 = .ok (.invokevirtual 210, 3) := by decide +kernel
theorem dX4_balanceAfter_6 : decode cX4_balanceAfter 6 = .ok (.ifCond .ne 7, 3) := by decide +kernel
theorem dX4_balanceAfter_9 : decode cX4_balanceAfter 9 = .ok (.iconst 1, 1) := by decide +kernel
theorem dX4_balanceAfter_10 : decode cX4_balanceAfter 10 = .ok (.goto 16, 3) := by decide +kernel
theorem dX4_balanceAfter_13 : decode cX4_balanceAfter 13 = .ok (.aload_n 0, 1) := by decide +kernel
theorem dX4_balanceAfter_14 : decode cX4_balanceAfter 14 = .ok (.iload_n 2, 1) := by decide +kernel
theorem dX4_balanceAfter_15 : decode cX4_balanceAfter 15 = .ok (.invokevirtual 305, 3) := by decide +kernel
theorem dX4_balanceAfter_18 : decode cX4_balanceAfter 18 = .ok (.ifCond .ne 7, 3) := by decide +kernel
theorem dX4_balanceAfter_21 : decode cX4_balanceAfter 21 = .ok (.iconst 2, 1) := by decide +kernel
theorem dX4_balanceAfter_22 : decode cX4_balanceAfter 22 = .ok (.goto 4, 3) := by decide +kernel
theorem dX4_balanceAfter_25 : decode cX4_balanceAfter 25 = .ok (.iconst 0, 1) := by decide +kernel
theorem dX4_balanceAfter_26 : decode cX4_balanceAfter 26 = .ok (.putfield 77, 3) := by decide +kernel
theorem dX4_balanceAfter_29 : decode cX4_balanceAfter 29 = .ok (.aload_n 0, 1) := by decide +kernel
theorem dX4_balanceAfter_30 : decode cX4_balanceAfter 30 = .ok (.getfield 77, 3) := by decide +kernel
theorem dX4_balanceAfter_33 : decode cX4_balanceAfter 33 = .ok (.ifCond .le 5, 3) := by decide +kernel
theorem dX4_balanceAfter_36 : decode cX4_balanceAfter 36 = .ok (.lconst 0, 1) := by decide +kernel
theorem dX4_balanceAfter_37 : decode cX4_balanceAfter 37 = .ok (.lreturn, 1) := by decide +kernel
theorem dX4_balanceAfter_38 : decode cX4_balanceAfter 38 = .ok (.aload_n 0, 1) := by decide +kernel
theorem dX4_balanceAfter_39 : decode cX4_balanceAfter 39 = .ok (.invokevirtual 296, 3) := by decide +kernel
theorem dX4_balanceAfter_42 : decode cX4_balanceAfter 42 = .ok (.aload_n 0, 1) := by decide +kernel
theorem dX4_balanceAfter_43 : decode cX4_balanceAfter 43 = .ok (.iload_n 2, 1) := by decide +kernel
theorem dX4_balanceAfter_44 : decode cX4_balanceAfter 44 = .ok (.invokevirtual 299, 3) := by decide +kernel
theorem dX4_balanceAfter_47 : decode cX4_balanceAfter 47 = .ok (.aload_n 0, 1) := by decide +kernel
theorem dX4_balanceAfter_48 : decode cX4_balanceAfter 48 = .ok (.getfield 22, 3) := by decide +kernel
theorem dX4_balanceAfter_51 : decode cX4_balanceAfter 51 = .ok (.iload_n 1, 1) := by decide +kernel
theorem dX4_balanceAfter_52 : decode cX4_balanceAfter 52 = .ok (.laload, 1) := by decide +kernel
theorem dX4_balanceAfter_53 : decode cX4_balanceAfter 53 = .ok (.lstore_n 3, 1) := by decide +kernel
theorem dX4_balanceAfter_54 : decode cX4_balanceAfter 54 = .ok (.aload_n 0, 1) := by decide +kernel
theorem dX4_balanceAfter_55 : decode cX4_balanceAfter 55 = .ok (.invokevirtual 302, 3) := by decide +kernel
theorem dX4_balanceAfter_58 : decode cX4_balanceAfter 58 = .ok (.lload_n 3, 1) := by decide +kernel
theorem dX4_balanceAfter_59 : decode cX4_balanceAfter 59 = .ok (.lreturn, 1) := by decide +kernel
theorem dX4_driestMonth_0 : decode cX4_driestMonth 0 = .ok (.aload_n 0, 1) := by decide +kernel
theorem dX4_driestMonth_1 : decode cX4_driestMonth 1 = .ok (.aload_n 0, 1) := by decide +kernel
theorem dX4_driestMonth_2 : decode cX4_driestMonth 2 = .ok (.iload_n 1, 1) := by decide +kernel
theorem dX4_driestMonth_3 : decode cX4_driestMonth 3 = .ok (.invokevirtual 305, 3) := by decide +kernel
theorem dX4_driestMonth_6 : decode cX4_driestMonth 6 = .ok (.ifCond .ne 7, 3) := by decide +kernel
theorem dX4_driestMonth_9 : decode cX4_driestMonth 9 = .ok (.iconst 1, 1) := by decide +kernel
theorem dX4_driestMonth_10 : decode cX4_driestMonth 10 = .ok (.goto 17, 3) := by decide +kernel
theorem dX4_driestMonth_13 : decode cX4_driestMonth 13 = .ok (.aload_n 0, 1) := by decide +kernel
theorem dX4_driestMonth_14 : decode cX4_driestMonth 14 = .ok (.getfield 7, 3) := by decide +kernel
theorem dX4_driestMonth_17 : decode cX4_driestMonth 17 = .ok (.iconst 0, 1) := by decide +kernel
theorem dX4_driestMonth_18 : decode cX4_driestMonth 18 = .ok (.iaload, 1) := by decide +kernel
theorem dX4_driestMonth_19 : decode cX4_driestMonth 19 = .ok (.ifCond .ne 7, 3) := by decide +kernel
theorem dX4_driestMonth_22 : decode cX4_driestMonth 22 = .ok (.iconst 2, 1) := by decide +kernel
theorem dX4_driestMonth_23 : decode cX4_driestMonth 23 = .ok (.goto 4, 3) := by decide +kernel
theorem dX4_driestMonth_26 : decode cX4_driestMonth 26 = .ok (.iconst 0, 1) := by decide +kernel
theorem dX4_driestMonth_27 : decode cX4_driestMonth 27 = .ok (.putfield 77, 3) := by decide +kernel
theorem dX4_driestMonth_30 : decode cX4_driestMonth 30 = .ok (.aload_n 0, 1) := by decide +kernel
theorem dX4_driestMonth_31 : decode cX4_driestMonth 31 = .ok (.getfield 77, 3) := by decide +kernel
theorem dX4_driestMonth_34 : decode cX4_driestMonth 34 = .ok (.ifCond .le 5, 3) := by decide +kernel
theorem dX4_driestMonth_37 : decode cX4_driestMonth 37 = .ok (.iconst 0, 1) := by decide +kernel
theorem dX4_driestMonth_38 : decode cX4_driestMonth 38 = .ok (.ireturn, 1) := by decide +kernel
theorem dX4_driestMonth_39 : decode cX4_driestMonth 39 = .ok (.aload_n 0, 1) := by decide +kernel
theorem dX4_driestMonth_40 : decode cX4_driestMonth 40 = .ok (.invokevirtual 296, 3) := by decide +kernel
theorem dX4_driestMonth_43 : decode cX4_driestMonth 43 = .ok (.iconst 0, 1) := by decide +kernel
theorem dX4_driestMonth_44 : decode cX4_driestMonth 44 = .ok (.istore_n 2, 1) := by decide +kernel
theorem dX4_driestMonth_45 : decode cX4_driestMonth 45 = .ok (.iconst 0, 1) := by decide +kernel
theorem dX4_driestMonth_46 : decode cX4_driestMonth 46 = .ok (.istore_n 3, 1) := by decide +kernel
theorem dX4_driestMonth_47 : decode cX4_driestMonth 47 = .ok (.iconst 1, 1) := by decide +kernel
theorem dX4_driestMonth_48 : decode cX4_driestMonth 48 = .ok (.istore 4, 2) := by decide +kernel
theorem dX4_driestMonth_50 : decode cX4_driestMonth 50 = .ok (.iload 4, 2) := by decide +kernel
theorem dX4_driestMonth_52 : decode cX4_driestMonth 52 = .ok (.iload_n 1, 1) := by decide +kernel
theorem dX4_driestMonth_53 : decode cX4_driestMonth 53 = .ok (.if_icmp .gt 34, 3) := by decide +kernel
theorem dX4_driestMonth_56 : decode cX4_driestMonth 56 = .ok (.aload_n 0, 1) := by decide +kernel
theorem dX4_driestMonth_57 : decode cX4_driestMonth 57 = .ok (.iconst 1, 1) := by decide +kernel
theorem dX4_driestMonth_58 : decode cX4_driestMonth 58 = .ok (.invokevirtual 299, 3) := by decide +kernel
theorem dX4_driestMonth_61 : decode cX4_driestMonth 61 = .ok (.iload_n 2, 1) := by decide +kernel
theorem dX4_driestMonth_62 : decode cX4_driestMonth 62 = .ok (.ifCond .eq 11, 3) := by decide +kernel
theorem dX4_driestMonth_65 : decode cX4_driestMonth 65 = .ok (.aload_n 0, 1) := by decide +kernel
theorem dX4_driestMonth_66 : decode cX4_driestMonth 66 = .ok (.invokevirtual 284, 3) := by decide +kernel
theorem dX4_driestMonth_69 : decode cX4_driestMonth 69 = .ok (.iload_n 3, 1) := by decide +kernel
theorem dX4_driestMonth_70 : decode cX4_driestMonth 70 = .ok (.if_icmp .ge 11, 3) := by decide +kernel
theorem dX4_driestMonth_73 : decode cX4_driestMonth 73 = .ok (.iload 4, 2) := by decide +kernel
theorem dX4_driestMonth_75 : decode cX4_driestMonth 75 = .ok (.istore_n 2, 1) := by decide +kernel
theorem dX4_driestMonth_76 : decode cX4_driestMonth 76 = .ok (.aload_n 0, 1) := by decide +kernel
theorem dX4_driestMonth_77 : decode cX4_driestMonth 77 = .ok (.invokevirtual 284, 3) := by decide +kernel
theorem dX4_driestMonth_80 : decode cX4_driestMonth 80 = .ok (.istore_n 3, 1) := by decide +kernel
theorem dX4_driestMonth_81 : decode cX4_driestMonth 81 = .ok (.iinc 4 1, 3) := by decide +kernel
theorem dX4_driestMonth_84 : decode cX4_driestMonth 84 = .ok (.goto (-34), 3) := by decide +kernel
theorem dX4_driestMonth_87 : decode cX4_driestMonth 87 = .ok (.aload_n 0, 1) := by decide +kernel
theorem dX4_driestMonth_88 : decode cX4_driestMonth 88 = .ok (.invokevirtual 302, 3) := by decide +kernel
theorem dX4_driestMonth_91 : decode cX4_driestMonth 91 = .ok (.iload_n 2, 1) := by decide +kernel
theorem dX4_driestMonth_92 : decode cX4_driestMonth 92 = .ok (.ireturn, 1) := by decide +kernel
theorem dX4_nextExercise_0 : decode cX4_nextExercise 0 = .ok (.aload_n 0, 1) := by decide +kernel
theorem dX4_nextExercise_1 : decode cX4_nextExercise 1 = .ok (.iconst 0, 1) := by decide +kernel
theorem dX4_nextExercise_2 : decode cX4_nextExercise 2 = .ok (.putfield 77, 3) := by decide +kernel
theorem dX4_nextExercise_5 : decode cX4_nextExercise 5 = .ok (.iconst 0, 1) := by decide +kernel
theorem dX4_nextExercise_6 : decode cX4_nextExercise 6 = .ok (.istore_n 1, 1) := by decide +kernel
theorem dX4_nextExercise_7 : decode cX4_nextExercise 7 = .ok (.iload_n 1, 1) := by decide +kernel
theorem dX4_nextExercise_8 : decode cX4_nextExercise 8 = .ok (.bipush 60, 2) := by decide +kernel
theorem dX4_nextExercise_10 : decode cX4_nextExercise 10 = .ok (.if_icmp .gt 38, 3) := by decide +kernel
theorem dX4_nextExercise_13 : decode cX4_nextExercise 13 = .ok (.iconst 0, 1) := by decide +kernel
theorem dX4_nextExercise_14 : decode cX4_nextExercise 14 = .ok (.istore_n 2, 1) := by decide +kernel
theorem dX4_nextExercise_15 : decode cX4_nextExercise 15 = .ok (.iload_n 2, 1) := by decide +kernel
theorem dX4_nextExercise_16 : decode cX4_nextExercise 16 = .ok (.aload_n 0, 1) := by decide +kernel
theorem dX4_nextExercise_17 : decode cX4_nextExercise 17 = .ok (.getfield 7, 3) := by decide +kernel
theorem dX4_nextExercise_20 : decode cX4_nextExercise 20 = .ok (.iconst 4, 1) := by decide +kernel
theorem dX4_nextExercise_21 : decode cX4_nextExercise 21 = .ok (.iaload, 1) := by decide +kernel
theorem dX4_nextExercise_22 : decode cX4_nextExercise 22 = .ok (.if_icmp .ge 20, 3) := by decide +kernel
theorem dX4_nextExercise_25 : decode cX4_nextExercise 25 = .ok (.aload_n 0, 1) := by decide +kernel
theorem dX4_nextExercise_26 : decode cX4_nextExercise 26 = .ok (.iload_n 2, 1) := by decide +kernel
theorem dX4_nextExercise_27 : decode cX4_nextExercise 27 = .ok (.iload_n 1, 1) := by decide +kernel
theorem dX4_nextExercise_28 : decode cX4_nextExercise 28 = .ok (.invokevirtual 231, 3) := by decide +kernel
theorem dX4_nextExercise_31 : decode cX4_nextExercise 31 = .ok (.ifCond .eq 5, 3) := by decide +kernel
theorem dX4_nextExercise_34 : decode cX4_nextExercise 34 = .ok (.iload_n 1, 1) := by decide +kernel
theorem dX4_nextExercise_35 : decode cX4_nextExercise 35 = .ok (.ireturn, 1) := by decide +kernel
theorem dX4_nextExercise_36 : decode cX4_nextExercise 36 = .ok (.iinc 2 1, 3) := by decide +kernel
theorem dX4_nextExercise_39 : decode cX4_nextExercise 39 = .ok (.goto (-24), 3) := by decide +kernel
theorem dX4_nextExercise_42 : decode cX4_nextExercise 42 = .ok (.iinc 1 1, 3) := by decide +kernel
theorem dX4_nextExercise_45 : decode cX4_nextExercise 45 = .ok (.goto (-38), 3) := by decide +kernel
theorem dX4_nextExercise_48 : decode cX4_nextExercise 48 = .ok (.iconst (-1), 1) := by decide +kernel
theorem dX4_nextExercise_49 : decode cX4_nextExercise 49 = .ok (.ireturn, 1) := by decide +kernel
theorem dX4_free_0 : decode cX4_free 0 = .ok (.aload_n 0, 1) := by decide +kernel
theorem dX4_free_1 : decode cX4_free 1 = .ok (.aload_n 0, 1) := by decide +kernel
theorem dX4_free_2 : decode cX4_free 2 = .ok (.iload_n 1, 1) := by decide +kernel
theorem dX4_free_3 : decode cX4_free 3 = .ok (.invokevirtual 203, 3) := by decide +kernel
theorem dX4_free_6 : decode cX4_free 6 = .ok (.ifCond .eq 7, 3) := by decide +kernel
theorem dX4_free_9 : decode cX4_free 9 = .ok (.iconst 0, 1) := by decide +kernel
theorem dX4_free_10 : decode cX4_free 10 = .ok (.goto 4, 3) := by decide +kernel
theorem dX4_free_13 : decode cX4_free 13 = .ok (.iconst 1, 1) := by decide +kernel
theorem dX4_free_14 : decode cX4_free 14 = .ok (.putfield 77, 3) := by decide +kernel
theorem dX4_free_17 : decode cX4_free 17 = .ok (.iconst 0, 1) := by decide +kernel
theorem dX4_free_18 : decode cX4_free 18 = .ok (.istore_n 2, 1) := by decide +kernel
theorem dX4_free_19 : decode cX4_free 19 = .ok (.sipush 999, 3) := by decide +kernel
theorem dX4_free_22 : decode cX4_free 22 = .ok (.istore_n 3, 1) := by decide +kernel
theorem dX4_free_23 : decode cX4_free 23 = .ok (.iconst 0, 1) := by decide +kernel
theorem dX4_free_24 : decode cX4_free 24 = .ok (.istore 4, 2) := by decide +kernel
theorem dX4_free_26 : decode cX4_free 26 = .ok (.iload 4, 2) := by decide +kernel
theorem dX4_free_28 : decode cX4_free 28 = .ok (.aload_n 0, 1) := by decide +kernel
theorem dX4_free_29 : decode cX4_free 29 = .ok (.getfield 7, 3) := by decide +kernel
theorem dX4_free_32 : decode cX4_free 32 = .ok (.iconst 0, 1) := by decide +kernel
theorem dX4_free_33 : decode cX4_free 33 = .ok (.iaload, 1) := by decide +kernel
theorem dX4_free_34 : decode cX4_free 34 = .ok (.if_icmp .ge 52, 3) := by decide +kernel
theorem dX4_free_37 : decode cX4_free 37 = .ok (.aload_n 0, 1) := by decide +kernel
theorem dX4_free_38 : decode cX4_free 38 = .ok (.getfield 77, 3) := by decide +kernel
theorem dX4_free_41 : decode cX4_free 41 = .ok (.ifCond .ne 45, 3) := by decide +kernel
theorem dX4_free_44 : decode cX4_free 44 = .ok (.iload_n 2, 1) := by decide +kernel
theorem dX4_free_45 : decode cX4_free 45 = .ok (.aload_n 0, 1) := by decide +kernel
theorem dX4_free_46 : decode cX4_free 46 = .ok (.iload 4, 2) := by decide +kernel
theorem dX4_free_48 : decode cX4_free 48 = .ok (.invokevirtual 207, 3) := by decide +kernel
theorem dX4_free_51 : decode cX4_free 51 = .ok (.iadd, 1) := by decide +kernel
theorem dX4_free_52 : decode cX4_free 52 = .ok (.istore_n 2, 1) := by decide +kernel
theorem dX4_free_53 : decode cX4_free 53 = .ok (.iload 4, 2) := by decide +kernel
theorem dX4_free_55 : decode cX4_free 55 = .ok (.iload_n 1, 1) := by decide +kernel
theorem dX4_free_56 : decode cX4_free 56 = .ok (.if_icmp .lt 22, 3) := by decide +kernel
theorem dX4_free_59 : decode cX4_free 59 = .ok (.iload_n 3, 1) := by decide +kernel
theorem dX4_free_60 : decode cX4_free 60 = .ok (.iload_n 2, 1) := by decide +kernel
theorem dX4_free_61 : decode cX4_free 61 = .ok (.aload_n 0, 1) := by decide +kernel
theorem dX4_free_62 : decode cX4_free 62 = .ok (.getfield 7, 3) := by decide +kernel
theorem dX4_free_65 : decode cX4_free 65 = .ok (.bipush 14, 2) := by decide +kernel
theorem dX4_free_67 : decode cX4_free 67 = .ok (.iload 4, 2) := by decide +kernel
theorem dX4_free_69 : decode cX4_free 69 = .ok (.iadd, 1) := by decide +kernel
theorem dX4_free_70 : decode cX4_free 70 = .ok (.iaload, 1) := by decide +kernel
theorem dX4_free_71 : decode cX4_free 71 = .ok (.isub, 1) := by decide +kernel
theorem dX4_free_72 : decode cX4_free 72 = .ok (.invokestatic 260, 3) := by decide +kernel
theorem dX4_free_75 : decode cX4_free 75 = .ok (.goto 4, 3) := by decide +kernel
theorem dX4_free_78 : decode cX4_free 78 = .ok (.iload_n 3, 1) := by decide +kernel
theorem dX4_free_79 : decode cX4_free 79 = .ok (.istore_n 3, 1) := by decide +kernel
theorem dX4_free_80 : decode cX4_free 80 = .ok (.iinc 4 1, 3) := by decide +kernel
theorem dX4_free_83 : decode cX4_free 83 = .ok (.goto (-57), 3) := by decide +kernel
theorem dX4_free_86 : decode cX4_free 86 = .ok (.aload_n 0, 1) := by decide +kernel
theorem dX4_free_87 : decode cX4_free 87 = .ok (.getfield 77, 3) := by decide +kernel
theorem dX4_free_90 : decode cX4_free 90 = .ok (.ifCond .gt 7, 3) := by decide +kernel
theorem dX4_free_93 : decode cX4_free 93 = .ok (.iload_n 3, 1) := by decide +kernel
theorem dX4_free_94 : decode cX4_free 94 = .ok (.ifCond .ge 7, 3) := by decide +kernel
theorem dX4_free_97 : decode cX4_free 97 = .ok (.iconst 0, 1) := by decide +kernel
theorem dX4_free_98 : decode cX4_free 98 = .ok (.goto 4, 3) := by decide +kernel
theorem dX4_free_101 : decode cX4_free 101 = .ok (.iload_n 3, 1) := by decide +kernel
theorem dX4_free_102 : decode cX4_free 102 = .ok (.ireturn, 1) := by decide +kernel
theorem dX4_bestReach_0 : decode cX4_bestReach 0 = .ok (.aload_n 0, 1) := by decide +kernel
theorem dX4_bestReach_1 : decode cX4_bestReach 1 = .ok (.aload_n 0, 1) := by decide +kernel
theorem dX4_bestReach_2 : decode cX4_bestReach 2 = .ok (.iload_n 1, 1) := by decide +kernel
theorem dX4_bestReach_3 : decode cX4_bestReach 3 = .ok (.invokevirtual 213, 3) := by decide +kernel
theorem dX4_bestReach_6 : decode cX4_bestReach 6 = .ok (.ifCond .eq 7, 3) := by decide +kernel
theorem dX4_bestReach_9 : decode cX4_bestReach 9 = .ok (.iconst 0, 1) := by decide +kernel
theorem dX4_bestReach_10 : decode cX4_bestReach 10 = .ok (.goto 4, 3) := by decide +kernel
theorem dX4_bestReach_13 : decode cX4_bestReach 13 = .ok (.iconst 1, 1) := by decide +kernel
theorem dX4_bestReach_14 : decode cX4_bestReach 14 = .ok (.putfield 77, 3) := by decide +kernel
theorem dX4_bestReach_17 : decode cX4_bestReach 17 = .ok (.aload_n 0, 1) := by decide +kernel
theorem dX4_bestReach_18 : decode cX4_bestReach 18 = .ok (.getfield 77, 3) := by decide +kernel
theorem dX4_bestReach_21 : decode cX4_bestReach 21 = .ok (.ifCond .le 5, 3) := by decide +kernel
theorem dX4_bestReach_24 : decode cX4_bestReach 24 = .ok (.iconst 0, 1) := by decide +kernel
theorem dX4_bestReach_25 : decode cX4_bestReach 25 = .ok (.ireturn, 1) := by decide +kernel
theorem dX4_bestReach_26 : decode cX4_bestReach 26 = .ok (.iconst 0, 1) := by decide +kernel
theorem dX4_bestReach_27 : decode cX4_bestReach 27 = .ok (.istore_n 2, 1) := by decide +kernel
theorem dX4_bestReach_28 : decode cX4_bestReach 28 = .ok (.iconst (-1), 1) := by decide +kernel
theorem dX4_bestReach_29 : decode cX4_bestReach 29 = .ok (.istore_n 3, 1) := by decide +kernel
theorem dX4_bestReach_30 : decode cX4_bestReach 30 = .ok (.aload_n 0, 1) := by decide +kernel
theorem dX4_bestReach_31 : decode cX4_bestReach 31 = .ok (.invokevirtual 296, 3) := by decide +kernel
theorem dX4_bestReach_34 : decode cX4_bestReach 34 = .ok (.aload_n 0, 1) := by decide +kernel
theorem dX4_bestReach_35 : decode cX4_bestReach 35 = .ok (.iload_n 1, 1) := by decide +kernel
theorem dX4_bestReach_36 : decode cX4_bestReach 36 = .ok (.putfield 56, 3) := by decide +kernel
theorem dX4_bestReach_39 : decode cX4_bestReach 39 = .ok (.aload_n 0, 1) := by decide +kernel
theorem dX4_bestReach_40 : decode cX4_bestReach 40 = .ok (.iconst 0, 1) := by decide +kernel
theorem dX4_bestReach_41 : decode cX4_bestReach 41 = .ok (.putfield 250, 3) := by decide +kernel
theorem dX4_bestReach_44 : decode cX4_bestReach 44 = .ok (.aload_n 0, 1) := by decide +kernel
theorem dX4_bestReach_45 : decode cX4_bestReach 45 = .ok (.getfield 250, 3) := by decide +kernel
theorem dX4_bestReach_48 : decode cX4_bestReach 48 = .ok (.aload_n 0, 1) := by decide +kernel
theorem dX4_bestReach_49 : decode cX4_bestReach 49 = .ok (.getfield 7, 3) := by decide +kernel
theorem dX4_bestReach_52 : decode cX4_bestReach 52 = .ok (.iconst 0, 1) := by decide +kernel
theorem dX4_bestReach_53 : decode cX4_bestReach 53 = .ok (.iaload, 1) := by decide +kernel
theorem dX4_bestReach_54 : decode cX4_bestReach 54 = .ok (.if_icmp .ge 74, 3) := by decide +kernel
theorem dX4_bestReach_57 : decode cX4_bestReach 57 = .ok (.aload_n 0, 1) := by decide +kernel
theorem dX4_bestReach_58 : decode cX4_bestReach 58 = .ok (.iload_n 1, 1) := by decide +kernel
theorem dX4_bestReach_59 : decode cX4_bestReach 59 = .ok (.bipush 7, 2) := by decide +kernel
theorem dX4_bestReach_61 : decode cX4_bestReach 61 = .ok (.invokevirtual 216, 3) := by decide +kernel
theorem dX4_bestReach_64 : decode cX4_bestReach 64 = .ok (.istore 4, 2) := by decide +kernel
theorem dX4_bestReach_66 : decode cX4_bestReach 66 = .ok (.aload_n 0, 1) := by decide +kernel
theorem dX4_bestReach_67 : decode cX4_bestReach 67 = .ok (.iconst 1, 1) := by decide +kernel
theorem dX4_bestReach_68 : decode cX4_bestReach 68 = .ok (.invokevirtual 299, 3) := by decide +kernel
theorem dX4_bestReach_71 : decode cX4_bestReach 71 = .ok (.aload_n 0, 1) := by decide +kernel
theorem dX4_bestReach_72 : decode cX4_bestReach 72 = .ok (.iload_n 1, 1) := by decide +kernel
theorem dX4_bestReach_73 : decode cX4_bestReach 73 = .ok (.bipush 7, 2) := by decide +kernel
theorem dX4_bestReach_75 : decode cX4_bestReach 75 = .ok (.invokevirtual 216, 3) := by decide +kernel
theorem dX4_bestReach_78 : decode cX4_bestReach 78 = .ok (.iload 4, 2) := by decide +kernel
theorem dX4_bestReach_80 : decode cX4_bestReach 80 = .ok (.isub, 1) := by decide +kernel
theorem dX4_bestReach_81 : decode cX4_bestReach 81 = .ok (.istore 5, 2) := by decide +kernel
theorem dX4_bestReach_83 : decode cX4_bestReach 83 = .ok (.aload_n 0, 1) := by decide +kernel
theorem dX4_bestReach_84 : decode cX4_bestReach 84 = .ok (.invokevirtual 302, 3) := by decide +kernel
theorem dX4_bestReach_87 : decode cX4_bestReach 87 = .ok (.iload 5, 2) := by decide +kernel
theorem dX4_bestReach_89 : decode cX4_bestReach 89 = .ok (.iload_n 3, 1) := by decide +kernel
theorem dX4_bestReach_90 : decode cX4_bestReach 90 = .ok (.if_icmp .le 10, 3) := by decide +kernel
theorem dX4_bestReach_93 : decode cX4_bestReach 93 = .ok (.aload_n 0, 1) := by decide +kernel
theorem dX4_bestReach_94 : decode cX4_bestReach 94 = .ok (.getfield 250, 3) := by decide +kernel
theorem dX4_bestReach_97 : decode cX4_bestReach 97 = .ok (.goto 4, 3) := by decide +kernel
theorem dX4_bestReach_100 : decode cX4_bestReach 100 = .ok (.iload_n 2, 1) := by decide +kernel
theorem dX4_bestReach_101 : decode cX4_bestReach 101 = .ok (.istore_n 2, 1) := by decide +kernel
theorem dX4_bestReach_102 : decode cX4_bestReach 102 = .ok (.iload 5, 2) := by decide +kernel
theorem dX4_bestReach_104 : decode cX4_bestReach 104 = .ok (.iload_n 3, 1) := by decide +kernel
theorem dX4_bestReach_105 : decode cX4_bestReach 105 = .ok (.if_icmp .le 8, 3) := by decide +kernel
theorem dX4_bestReach_108 : decode cX4_bestReach 108 = .ok (.iload 5, 2) := by decide +kernel
theorem dX4_bestReach_110 : decode cX4_bestReach 110 = .ok (.goto 4, 3) := by decide +kernel
theorem dX4_bestReach_113 : decode cX4_bestReach 113 = .ok (.iload_n 3, 1) := by decide +kernel
theorem dX4_bestReach_114 : decode cX4_bestReach 114 = .ok (.istore_n 3, 1) := by decide +kernel
theorem dX4_bestReach_115 : decode cX4_bestReach 115 = .ok (.aload_n 0, 1) := by decide +kernel
theorem dX4_bestReach_116 : decode cX4_bestReach 116 = .ok (.dup, 1) := by decide +kernel
theorem dX4_bestReach_117 : decode cX4_bestReach 117 = .ok (.getfield 250, 3) := by decide +kernel
theorem dX4_bestReach_120 : decode cX4_bestReach 120 = .ok (.iconst 1, 1) := by decide +kernel
theorem dX4_bestReach_121 : decode cX4_bestReach 121 = .ok (.iadd, 1) := by decide +kernel
theorem dX4_bestReach_122 : decode cX4_bestReach 122 = .ok (.putfield 250, 3) := by decide +kernel
theorem dX4_bestReach_125 : decode cX4_bestReach 125 = .ok (.goto (-81), 3) := by decide +kernel
theorem dX4_bestReach_128 : decode cX4_bestReach 128 = .ok (.aload_n 0, 1) := by decide +kernel
theorem dX4_bestReach_129 : decode cX4_bestReach 129 = .ok (.iconst (-1), 1) := by decide +kernel
theorem dX4_bestReach_130 : decode cX4_bestReach 130 = .ok (.putfield 56, 3) := by decide +kernel
theorem dX4_bestReach_133 : decode cX4_bestReach 133 = .ok (.iload_n 2, 1) := by decide +kernel
theorem dX4_bestReach_134 : decode cX4_bestReach 134 = .ok (.ireturn, 1) := by decide +kernel
theorem dX4_laysGains_0 : decode cX4_laysGains 0 = .ok (.aload_n 0, 1) := by decide +kernel
theorem dX4_laysGains_1 : decode cX4_laysGains 1 = .ok (.invokevirtual 296, 3) := by decide +kernel
theorem dX4_laysGains_4 : decode cX4_laysGains 4 = .ok (.aload_n 0, 1) := by decide +kernel
theorem dX4_laysGains_5 : decode cX4_laysGains 5 = .ok (.iconst 1, 1) := by decide +kernel
theorem dX4_laysGains_6 : decode cX4_laysGains 6 = .ok (.invokevirtual 299, 3) := by decide +kernel
theorem dX4_laysGains_9 : decode cX4_laysGains 9 = .ok (.iconst 0, 1) := by decide +kernel
theorem dX4_laysGains_10 : decode cX4_laysGains 10 = .ok (.istore_n 2, 1) := by decide +kernel
theorem dX4_laysGains_11 : decode cX4_laysGains 11 = .ok (.iload_n 2, 1) := by decide +kernel
theorem dX4_laysGains_12 : decode cX4_laysGains 12 = .ok (.aload_n 0, 1) := by decide +kernel
theorem dX4_laysGains_13 : decode cX4_laysGains 13 = .ok (.getfield 7, 3) := by decide +kernel
theorem dX4_laysGains_16 : decode cX4_laysGains 16 = .ok (.iconst 2, 1) := by decide +kernel
theorem dX4_laysGains_17 : decode cX4_laysGains 17 = .ok (.iaload, 1) := by decide +kernel
theorem dX4_laysGains_18 : decode cX4_laysGains 18 = .ok (.if_icmp .ge 51, 3) := by decide +kernel
theorem dX4_laysGains_21 : decode cX4_laysGains 21 = .ok (.aload_n 0, 1) := by decide +kernel
theorem dX4_laysGains_22 : decode cX4_laysGains 22 = .ok (.iload_n 2, 1) := by decide +kernel
theorem dX4_laysGains_23 : decode cX4_laysGains 23 = .ok (.bipush 7, 2) := by decide +kernel
theorem dX4_laysGains_25 : decode cX4_laysGains 25 = .ok (.invokevirtual 216, 3) := by decide +kernel
theorem dX4_laysGains_28 : decode cX4_laysGains 28 = .ok (.aload_n 0, 1) := by decide +kernel
theorem dX4_laysGains_29 : decode cX4_laysGains 29 = .ok (.getfield 16, 3) := by decide +kernel
theorem dX4_laysGains_32 : decode cX4_laysGains 32 = .ok (.iload_n 2, 1) := by decide +kernel
theorem dX4_laysGains_33 : decode cX4_laysGains 33 = .ok (.bipush 7, 2) := by decide +kernel
theorem dX4_laysGains_35 : decode cX4_laysGains 35 = .ok (.invokestatic 80, 3) := by decide +kernel
theorem dX4_laysGains_38 : decode cX4_laysGains 38 = .ok (.iaload, 1) := by decide +kernel
theorem dX4_laysGains_39 : decode cX4_laysGains 39 = .ok (.isub, 1) := by decide +kernel
theorem dX4_laysGains_40 : decode cX4_laysGains 40 = .ok (.istore_n 3, 1) := by decide +kernel
theorem dX4_laysGains_41 : decode cX4_laysGains 41 = .ok (.aload_n 0, 1) := by decide +kernel
theorem dX4_laysGains_42 : decode cX4_laysGains 42 = .ok (.getfield 65, 3) := by decide +kernel
theorem dX4_laysGains_45 : decode cX4_laysGains 45 = .ok (.iload_n 2, 1) := by decide +kernel
theorem dX4_laysGains_46 : decode cX4_laysGains 46 = .ok (.iload_n 1, 1) := by decide +kernel
theorem dX4_laysGains_47 : decode cX4_laysGains 47 = .ok (.ifCond .eq 7, 3) := by decide +kernel
theorem dX4_laysGains_50 : decode cX4_laysGains 50 = .ok (.iload_n 3, 1) := by decide +kernel
theorem dX4_laysGains_51 : decode cX4_laysGains 51 = .ok (.goto 11, 3) := by decide +kernel
theorem dX4_laysGains_54 : decode cX4_laysGains 54 = .ok (.iload_n 3, 1) := by decide +kernel
theorem dX4_laysGains_55 : decode cX4_laysGains 55 = .ok (.aload_n 0, 1) := by decide +kernel
theorem dX4_laysGains_56 : decode cX4_laysGains 56 = .ok (.getfield 65, 3) := by decide +kernel
theorem dX4_laysGains_59 : decode cX4_laysGains 59 = .ok (.iload_n 2, 1) := by decide +kernel
theorem dX4_laysGains_60 : decode cX4_laysGains 60 = .ok (.iaload, 1) := by decide +kernel
theorem dX4_laysGains_61 : decode cX4_laysGains 61 = .ok (.isub, 1) := by decide +kernel
theorem dX4_laysGains_62 : decode cX4_laysGains 62 = .ok (.iastore, 1) := by decide +kernel
theorem dX4_laysGains_63 : decode cX4_laysGains 63 = .ok (.iinc 2 1, 3) := by decide +kernel
theorem dX4_laysGains_66 : decode cX4_laysGains 66 = .ok (.goto (-55), 3) := by decide +kernel
theorem dX4_laysGains_69 : decode cX4_laysGains 69 = .ok (.aload_n 0, 1) := by decide +kernel
theorem dX4_laysGains_70 : decode cX4_laysGains 70 = .ok (.invokevirtual 302, 3) := by decide +kernel
theorem dX4_laysGains_73 : decode cX4_laysGains 73 = .ok (.return_, 1) := by decide +kernel
theorem dX4_parted_0 : decode cX4_parted 0 = .ok (.iconst 0, 1) := by decide +kernel
theorem dX4_parted_1 : decode cX4_parted 1 = .ok (.istore_n 3, 1) := by decide +kernel
theorem dX4_parted_2 : decode cX4_parted 2 = .ok (.iconst 0, 1) := by decide +kernel
theorem dX4_parted_3 : decode cX4_parted 3 = .ok (.istore 4, 2) := by decide +kernel
theorem dX4_parted_5 : decode cX4_parted 5 = .ok (.iload 4, 2) := by decide +kernel
theorem dX4_parted_7 : decode cX4_parted 7 = .ok (.aload_n 0, 1) := by decide +kernel
theorem dX4_parted_8 : decode cX4_parted 8 = .ok (.getfield 7, 3) := by decide +kernel
theorem dX4_parted_11 : decode cX4_parted 11 = .ok (.iconst 2, 1) := by decide +kernel
theorem dX4_parted_12 : decode cX4_parted 12 = .ok (.iaload, 1) := by decide +kernel
theorem dX4_parted_13 : decode cX4_parted 13 = .ok (.if_icmp .ge 38, 3) := by decide +kernel
theorem dX4_parted_16 : decode cX4_parted 16 = .ok (.iload_n 3, 1) := by decide +kernel
theorem dX4_parted_17 : decode cX4_parted 17 = .ok (.iload 4, 2) := by decide +kernel
theorem dX4_parted_19 : decode cX4_parted 19 = .ok (.iload_n 1, 1) := by decide +kernel
theorem dX4_parted_20 : decode cX4_parted 20 = .ok (.if_icmp .eq 22, 3) := by decide +kernel
theorem dX4_parted_23 : decode cX4_parted 23 = .ok (.aload_n 0, 1) := by decide +kernel
theorem dX4_parted_24 : decode cX4_parted 24 = .ok (.getfield 65, 3) := by decide +kernel
theorem dX4_parted_27 : decode cX4_parted 27 = .ok (.iload 4, 2) := by decide +kernel
theorem dX4_parted_29 : decode cX4_parted 29 = .ok (.iaload, 1) := by decide +kernel
theorem dX4_parted_30 : decode cX4_parted 30 = .ok (.iload_n 2, 1) := by decide +kernel
theorem dX4_parted_31 : decode cX4_parted 31 = .ok (.imul, 1) := by decide +kernel
theorem dX4_parted_32 : decode cX4_parted 32 = .ok (.ifCond .le 10, 3) := by decide +kernel
theorem dX4_parted_35 : decode cX4_parted 35 = .ok (.iconst 1, 1) := by decide +kernel
theorem dX4_parted_36 : decode cX4_parted 36 = .ok (.iload 4, 2) := by decide +kernel
theorem dX4_parted_38 : decode cX4_parted 38 = .ok (.ishl, 1) := by decide +kernel
theorem dX4_parted_39 : decode cX4_parted 39 = .ok (.goto 4, 3) := by decide +kernel
theorem dX4_parted_42 : decode cX4_parted 42 = .ok (.iconst 0, 1) := by decide +kernel
theorem dX4_parted_43 : decode cX4_parted 43 = .ok (.ior, 1) := by decide +kernel
theorem dX4_parted_44 : decode cX4_parted 44 = .ok (.istore_n 3, 1) := by decide +kernel
theorem dX4_parted_45 : decode cX4_parted 45 = .ok (.iinc 4 1, 3) := by decide +kernel
theorem dX4_parted_48 : decode cX4_parted 48 = .ok (.goto (-43), 3) := by decide +kernel
theorem dX4_parted_51 : decode cX4_parted 51 = .ok (.iload_n 3, 1) := by decide +kernel
theorem dX4_parted_52 : decode cX4_parted 52 = .ok (.ireturn, 1) := by decide +kernel
theorem dX4_injured_0 : decode cX4_injured 0 = .ok (.aload_n 0, 1) := by decide +kernel
theorem dX4_injured_1 : decode cX4_injured 1 = .ok (.aload_n 0, 1) := by decide +kernel
theorem dX4_injured_2 : decode cX4_injured 2 = .ok (.iload_n 1, 1) := by decide +kernel
theorem dX4_injured_3 : decode cX4_injured 3 = .ok (.invokevirtual 213, 3) := by decide +kernel
theorem dX4_injured_6 : decode cX4_injured 6 = .ok (.ifCond .eq 11, 3) := by decide +kernel
theorem dX4_injured_9 : decode cX4_injured 9 = .ok (.aload_n 0, 1) := by decide +kernel
theorem dX4_injured_10 : decode cX4_injured 10 = .ok (.iload_n 2, 1) := by decide +kernel
theorem dX4_injured_11 : decode cX4_injured 11 = .ok (.invokevirtual 203, 3) := by decide +kernel
theorem dX4_injured_14 : decode cX4_injured 14 = .ok (.ifCond .ne 7, 3) := by decide +kernel
theorem dX4_injured_17 : decode cX4_injured 17 = .ok (.iconst 1, 1) := by decide +kernel
theorem dX4_injured_18 : decode cX4_injured 18 = .ok (.goto 19, 3) := by decide +kernel
theorem dX4_injured_21 : decode cX4_injured 21 = .ok (.iload_n 3, 1) := by decide +kernel
theorem dX4_injured_22 : decode cX4_injured 22 = .ok (.iconst 1, 1) := by decide +kernel
theorem dX4_injured_23 : decode cX4_injured 23 = .ok (.sipush 999, 3) := by decide +kernel
theorem dX4_injured_26 : decode cX4_injured 26 = .ok (.invokestatic 104, 3) := by decide +kernel
theorem dX4_injured_29 : decode cX4_injured 29 = .ok (.ifCond .ne 7, 3) := by decide +kernel
theorem dX4_injured_32 : decode cX4_injured 32 = .ok (.iconst 2, 1) := by decide +kernel
theorem dX4_injured_33 : decode cX4_injured 33 = .ok (.goto 4, 3) := by decide +kernel
theorem dX4_injured_36 : decode cX4_injured 36 = .ok (.iconst 0, 1) := by decide +kernel
theorem dX4_injured_37 : decode cX4_injured 37 = .ok (.putfield 77, 3) := by decide +kernel
theorem dX4_injured_40 : decode cX4_injured 40 = .ok (.aload_n 0, 1) := by decide +kernel
theorem dX4_injured_41 : decode cX4_injured 41 = .ok (.getfield 77, 3) := by decide +kernel
theorem dX4_injured_44 : decode cX4_injured 44 = .ok (.ifCond .le 5, 3) := by decide +kernel
theorem dX4_injured_47 : decode cX4_injured 47 = .ok (.iconst 0, 1) := by decide +kernel
theorem dX4_injured_48 : decode cX4_injured 48 = .ok (.ireturn, 1) := by decide +kernel
theorem dX4_injured_49 : decode cX4_injured 49 = .ok (.aload_n 0, 1) := by decide +kernel
theorem dX4_injured_50 : decode cX4_injured 50 = .ok (.iconst 1, 1) := by decide +kernel
theorem dX4_injured_51 : decode cX4_injured 51 = .ok (.invokevirtual 312, 3) := by decide +kernel
theorem dX4_injured_54 : decode cX4_injured 54 = .ok (.aload_n 0, 1) := by decide +kernel
theorem dX4_injured_55 : decode cX4_injured 55 = .ok (.iload_n 1, 1) := by decide +kernel
theorem dX4_injured_56 : decode cX4_injured 56 = .ok (.putfield 59, 3) := by decide +kernel
theorem dX4_injured_59 : decode cX4_injured 59 = .ok (.aload_n 0, 1) := by decide +kernel
theorem dX4_injured_60 : decode cX4_injured 60 = .ok (.iload_n 3, 1) := by decide +kernel
theorem dX4_injured_61 : decode cX4_injured 61 = .ok (.putfield 263, 3) := by decide +kernel
theorem dX4_injured_64 : decode cX4_injured 64 = .ok (.aload_n 0, 1) := by decide +kernel
theorem dX4_injured_65 : decode cX4_injured 65 = .ok (.iload_n 2, 1) := by decide +kernel
theorem dX4_injured_66 : decode cX4_injured 66 = .ok (.putfield 250, 3) := by decide +kernel
theorem dX4_injured_69 : decode cX4_injured 69 = .ok (.aload_n 0, 1) := by decide +kernel
theorem dX4_injured_70 : decode cX4_injured 70 = .ok (.iconst 0, 1) := by decide +kernel
theorem dX4_injured_71 : decode cX4_injured 71 = .ok (.invokevirtual 312, 3) := by decide +kernel
theorem dX4_injured_74 : decode cX4_injured 74 = .ok (.aload_n 0, 1) := by decide +kernel
theorem dX4_injured_75 : decode cX4_injured 75 = .ok (.iconst (-1), 1) := by decide +kernel
theorem dX4_injured_76 : decode cX4_injured 76 = .ok (.putfield 59, 3) := by decide +kernel
theorem dX4_injured_79 : decode cX4_injured 79 = .ok (.aload_n 0, 1) := by decide +kernel
theorem dX4_injured_80 : decode cX4_injured 80 = .ok (.iload_n 1, 1) := by decide +kernel
theorem dX4_injured_81 : decode cX4_injured 81 = .ok (.iconst (-1), 1) := by decide +kernel
theorem dX4_injured_82 : decode cX4_injured 82 = .ok (.invokevirtual 316, 3) := by decide +kernel
theorem dX4_injured_85 : decode cX4_injured 85 = .ok (.ireturn, 1) := by decide +kernel
theorem dX4_blocked_0 : decode cX4_blocked 0 = .ok (.aload_n 0, 1) := by decide +kernel
theorem dX4_blocked_1 : decode cX4_blocked 1 = .ok (.aload_n 0, 1) := by decide +kernel
theorem dX4_blocked_2 : decode cX4_blocked 2 = .ok (.iload_n 1, 1) := by decide +kernel
theorem dX4_blocked_3 : decode cX4_blocked 3 = .ok (.invokevirtual 213, 3) := by decide +kernel
theorem dX4_blocked_6 : decode cX4_blocked 6 = .ok (.ifCond .eq 7, 3) := by decide +kernel
theorem dX4_blocked_9 : decode cX4_blocked 9 = .ok (.iconst 0, 1) := by decide +kernel
theorem dX4_blocked_10 : decode cX4_blocked 10 = .ok (.goto 4, 3) := by decide +kernel
theorem dX4_blocked_13 : decode cX4_blocked 13 = .ok (.iconst 1, 1) := by decide +kernel
theorem dX4_blocked_14 : decode cX4_blocked 14 = .ok (.putfield 77, 3) := by decide +kernel
theorem dX4_blocked_17 : decode cX4_blocked 17 = .ok (.aload_n 0, 1) := by decide +kernel
theorem dX4_blocked_18 : decode cX4_blocked 18 = .ok (.getfield 77, 3) := by decide +kernel
theorem dX4_blocked_21 : decode cX4_blocked 21 = .ok (.ifCond .le 5, 3) := by decide +kernel
theorem dX4_blocked_24 : decode cX4_blocked 24 = .ok (.iconst 0, 1) := by decide +kernel
theorem dX4_blocked_25 : decode cX4_blocked 25 = .ok (.ireturn, 1) := by decide +kernel
theorem dX4_blocked_26 : decode cX4_blocked 26 = .ok (.aload_n 0, 1) := by decide +kernel
theorem dX4_blocked_27 : decode cX4_blocked 27 = .ok (.iconst 1, 1) := by decide +kernel
theorem dX4_blocked_28 : decode cX4_blocked 28 = .ok (.invokevirtual 312, 3) := by decide +kernel
theorem dX4_blocked_31 : decode cX4_blocked 31 = .ok (.aload_n 0, 1) := by decide +kernel
theorem dX4_blocked_32 : decode cX4_blocked 32 = .ok (.iload_n 1, 1) := by decide +kernel
theorem dX4_blocked_33 : decode cX4_blocked 33 = .ok (.putfield 62, 3) := by decide +kernel
theorem dX4_blocked_36 : decode cX4_blocked 36 = .ok (.aload_n 0, 1) := by decide +kernel
theorem dX4_blocked_37 : decode cX4_blocked 37 = .ok (.iconst 0, 1) := by decide +kernel
theorem dX4_blocked_38 : decode cX4_blocked 38 = .ok (.invokevirtual 312, 3) := by decide +kernel
theorem dX4_blocked_41 : decode cX4_blocked 41 = .ok (.aload_n 0, 1) := by decide +kernel
theorem dX4_blocked_42 : decode cX4_blocked 42 = .ok (.iconst (-1), 1) := by decide +kernel
theorem dX4_blocked_43 : decode cX4_blocked 43 = .ok (.putfield 62, 3) := by decide +kernel
theorem dX4_blocked_46 : decode cX4_blocked 46 = .ok (.aload_n 0, 1) := by decide +kernel
theorem dX4_blocked_47 : decode cX4_blocked 47 = .ok (.iload_n 1, 1) := by decide +kernel
theorem dX4_blocked_48 : decode cX4_blocked 48 = .ok (.iconst 1, 1) := by decide +kernel
theorem dX4_blocked_49 : decode cX4_blocked 49 = .ok (.invokevirtual 316, 3) := by decide +kernel
theorem dX4_blocked_52 : decode cX4_blocked 52 = .ok (.ireturn, 1) := by decide +kernel
theorem dX4_record_0 : decode cX4_record 0 = .ok (.aload_n 0, 1) := by decide +kernel
theorem dX4_record_1 : decode cX4_record 1 = .ok (.getfield 194, 3) := by decide +kernel
theorem dX4_record_4 : decode cX4_record 4 = .ok (.bipush 8, 2) := by decide +kernel
theorem dX4_record_6 : decode cX4_record 6 = .ok (.if_icmp .ne 76, 3) := by decide +kernel
theorem dX4_record_9 : decode cX4_record 9 = .ok (.sipush 521, 3) := by decide +kernel
theorem dX4_record_12 : decode cX4_record 12 = .ok (.istore_n 1, 1) := by decide +kernel
theorem dX4_record_13 : decode cX4_record 13 = .ok (.iload_n 1, 1) := by decide +kernel
theorem dX4_record_14 : decode cX4_record 14 = .ok (.sipush 4168, 3) := by decide +kernel
theorem dX4_record_17 : decode cX4_record 17 = .ok (.if_icmp .ge 25, 3) := by decide +kernel
theorem dX4_record_20 : decode cX4_record 20 = .ok (.aload_n 0, 1) := by decide +kernel
theorem dX4_record_21 : decode cX4_record 21 = .ok (.getfield 19, 3) := by decide +kernel
theorem dX4_record_24 : decode cX4_record 24 = .ok (.iload_n 1, 1) := by decide +kernel
theorem dX4_record_25 : decode cX4_record 25 = .ok (.sipush 521, 3) := by decide +kernel
theorem dX4_record_28 : decode cX4_record 28 = .ok (.isub, 1) := by decide +kernel
theorem dX4_record_29 : decode cX4_record 29 = .ok (.aload_n 0, 1) := by decide +kernel
theorem dX4_record_30 : decode cX4_record 30 = .ok (.getfield 19, 3) := by decide +kernel
theorem dX4_record_33 : decode cX4_record 33 = .ok (.iload_n 1, 1) := by decide +kernel
theorem dX4_record_34 : decode cX4_record 34 = .ok (.iaload, 1) := by decide +kernel
theorem dX4_record_35 : decode cX4_record 35 = .ok (.iastore, 1) := by decide +kernel
theorem dX4_record_36 : decode cX4_record 36 = .ok (.iinc 1 1, 3) := by decide +kernel
theorem dX4_record_39 : decode cX4_record 39 = .ok (.goto (-26), 3) := by decide +kernel
theorem dX4_record_42 : decode cX4_record 42 = .ok (.bipush 15, 2) := by decide +kernel
theorem dX4_record_44 : decode cX4_record 44 = .ok (.istore_n 1, 1) := by decide +kernel
theorem dX4_record_45 : decode cX4_record 45 = .ok (.iload_n 1, 1) := by decide +kernel
theorem dX4_record_46 : decode cX4_record 46 = .ok (.bipush 120, 2) := by decide +kernel
theorem dX4_record_48 : decode cX4_record 48 = .ok (.if_icmp .ge 24, 3) := by decide +kernel
theorem dX4_record_51 : decode cX4_record 51 = .ok (.aload_n 0, 1) := by decide +kernel
theorem dX4_record_52 : decode cX4_record 52 = .ok (.getfield 29, 3) := by decide +kernel
theorem dX4_record_55 : decode cX4_record 55 = .ok (.iload_n 1, 1) := by decide +kernel
theorem dX4_record_56 : decode cX4_record 56 = .ok (.bipush 15, 2) := by decide +kernel
theorem dX4_record_58 : decode cX4_record 58 = .ok (.isub, 1) := by decide +kernel
theorem dX4_record_59 : decode cX4_record 59 = .ok (.aload_n 0, 1) := by decide +kernel
theorem dX4_record_60 : decode cX4_record 60 = .ok (.getfield 29, 3) := by decide +kernel
theorem dX4_record_63 : decode cX4_record 63 = .ok (.iload_n 1, 1) := by decide +kernel
theorem dX4_record_64 : decode cX4_record 64 = .ok (.laload, 1) := by decide +kernel
theorem dX4_record_65 : decode cX4_record 65 = .ok (.lastore, 1) := by decide +kernel
theorem dX4_record_66 : decode cX4_record 66 = .ok (.iinc 1 1, 3) := by decide +kernel
theorem dX4_record_69 : decode cX4_record 69 = .ok (.goto (-24), 3) := by decide +kernel
theorem dX4_record_72 : decode cX4_record 72 = .ok (.aload_n 0, 1) := by decide +kernel
theorem dX4_record_73 : decode cX4_record 73 = .ok (.dup, 1) := by decide +kernel
theorem dX4_record_74 : decode cX4_record 74 = .ok (.getfield 194, 3) := by decide +kernel
theorem dX4_record_77 : decode cX4_record 77 = .ok (.iconst 1, 1) := by decide +kernel
theorem dX4_record_78 : decode cX4_record 78 = .ok (.isub, 1) := by decide +kernel
theorem dX4_record_79 : decode cX4_record 79 = .ok (.putfield 194, 3) := by decide +kernel
theorem dX4_record_82 : decode cX4_record 82 = .ok (.iconst 0, 1) := by decide +kernel
theorem dX4_record_83 : decode cX4_record 83 = .ok (.istore_n 1, 1) := by decide +kernel
theorem dX4_record_84 : decode cX4_record 84 = .ok (.iload_n 1, 1) := by decide +kernel
theorem dX4_record_85 : decode cX4_record 85 = .ok (.sipush 521, 3) := by decide +kernel
theorem dX4_record_88 : decode cX4_record 88 = .ok (.if_icmp .ge 30, 3) := by decide +kernel
theorem dX4_record_91 : decode cX4_record 91 = .ok (.aload_n 0, 1) := by decide +kernel
theorem dX4_record_92 : decode cX4_record 92 = .ok (.getfield 19, 3) := by decide +kernel
theorem dX4_record_95 : decode cX4_record 95 = .ok (.sipush 521, 3) := by decide +kernel
theorem dX4_record_98 : decode cX4_record 98 = .ok (.aload_n 0, 1) := by decide +kernel
theorem dX4_record_99 : decode cX4_record 99 = .ok (.getfield 194, 3) := by decide +kernel
theorem dX4_record_102 : decode cX4_record 102 = .ok (.imul, 1) := by decide +kernel
theorem dX4_record_103 : decode cX4_record 103 = .ok (.iload_n 1, 1) := by decide +kernel
theorem dX4_record_104 : decode cX4_record 104 = .ok (.iadd, 1) := by decide +kernel
theorem dX4_record_105 : decode cX4_record 105 = .ok (.aload_n 0, 1) := by decide +kernel
theorem dX4_record_106 : decode cX4_record 106 = .ok (.getfield 7, 3) := by decide +kernel
theorem dX4_record_109 : decode cX4_record 109 = .ok (.iload_n 1, 1) := by decide +kernel
theorem dX4_record_110 : decode cX4_record 110 = .ok (.iaload, 1) := by decide +kernel
theorem dX4_record_111 : decode cX4_record 111 = .ok (.iastore, 1) := by decide +kernel
theorem dX4_record_112 : decode cX4_record 112 = .ok (.iinc 1 1, 3) := by decide +kernel
theorem dX4_record_115 : decode cX4_record 115 = .ok (.goto (-31), 3) := by decide +kernel
theorem dX4_record_118 : decode cX4_record 118 = .ok (.iconst 0, 1) := by decide +kernel
theorem dX4_record_119 : decode cX4_record 119 = .ok (.istore_n 1, 1) := by decide +kernel
theorem dX4_record_120 : decode cX4_record 120 = .ok (.iload_n 1, 1) := by decide +kernel
theorem dX4_record_121 : decode cX4_record 121 = .ok (.bipush 15, 2) := by decide +kernel
theorem dX4_record_123 : decode cX4_record 123 = .ok (.if_icmp .ge 29, 3) := by decide +kernel
theorem dX4_record_126 : decode cX4_record 126 = .ok (.aload_n 0, 1) := by decide +kernel
theorem dX4_record_127 : decode cX4_record 127 = .ok (.getfield 29, 3) := by decide +kernel
theorem dX4_record_130 : decode cX4_record 130 = .ok (.bipush 15, 2) := by decide +kernel
theorem dX4_record_132 : decode cX4_record 132 = .ok (.aload_n 0, 1) := by decide +kernel
theorem dX4_record_133 : decode cX4_record 133 = .ok (.getfield 194, 3) := by decide +kernel
theorem dX4_record_136 : decode cX4_record 136 = .ok (.imul, 1) := by decide +kernel
theorem dX4_record_137 : decode cX4_record 137 = .ok (.iload_n 1, 1) := by decide +kernel
theorem dX4_record_138 : decode cX4_record 138 = .ok (.iadd, 1) := by decide +kernel
theorem dX4_record_139 : decode cX4_record 139 = .ok (.aload_n 0, 1) := by decide +kernel
theorem dX4_record_140 : decode cX4_record 140 = .ok (.getfield 22, 3) := by decide +kernel
theorem dX4_record_143 : decode cX4_record 143 = .ok (.iload_n 1, 1) := by decide +kernel
theorem dX4_record_144 : decode cX4_record 144 = .ok (.laload, 1) := by decide +kernel
theorem dX4_record_145 : decode cX4_record 145 = .ok (.lastore, 1) := by decide +kernel
theorem dX4_record_146 : decode cX4_record 146 = .ok (.iinc 1 1, 3) := by decide +kernel
theorem dX4_record_149 : decode cX4_record 149 = .ok (.goto (-29), 3) := by decide +kernel
theorem dX4_record_152 : decode cX4_record 152 = .ok (.aload_n 0, 1) := by decide +kernel
theorem dX4_record_153 : decode cX4_record 153 = .ok (.dup, 1) := by decide +kernel
theorem dX4_record_154 : decode cX4_record 154 = .ok (.getfield 194, 3) := by decide +kernel
theorem dX4_record_157 : decode cX4_record 157 = .ok (.iconst 1, 1) := by decide +kernel
theorem dX4_record_158 : decode cX4_record 158 = .ok (.iadd, 1) := by decide +kernel
theorem dX4_record_159 : decode cX4_record 159 = .ok (.putfield 194, 3) := by decide +kernel
theorem dX4_record_162 : decode cX4_record 162 = .ok (.return_, 1) := by decide +kernel
theorem dX4_run_0 : decode cX4_run 0 = .ok (.aload_n 0, 1) := by decide +kernel
theorem dX4_run_1 : decode cX4_run 1 = .ok (.aload_n 0, 1) := by decide +kernel
theorem dX4_run_2 : decode cX4_run 2 = .ok (.iload_n 1, 1) := by decide +kernel
theorem dX4_run_3 : decode cX4_run 3 = .ok (.invokevirtual 305, 3) := by decide +kernel
theorem dX4_run_6 : decode cX4_run 6 = .ok (.ifCond .ne 7, 3) := by decide +kernel
theorem dX4_run_9 : decode cX4_run 9 = .ok (.iconst 1, 1) := by decide +kernel
theorem dX4_run_10 : decode cX4_run 10 = .ok (.goto 17, 3) := by decide +kernel
theorem dX4_run_13 : decode cX4_run 13 = .ok (.aload_n 0, 1) := by decide +kernel
theorem dX4_run_14 : decode cX4_run 14 = .ok (.getfield 7, 3) := by decide +kernel
theorem dX4_run_17 : decode cX4_run 17 = .ok (.iconst 0, 1) := by decide +kernel
theorem dX4_run_18 : decode cX4_run 18 = .ok (.iaload, 1) := by decide +kernel
theorem dX4_run_19 : decode cX4_run 19 = .ok (.ifCond .ne 7, 3) := by decide +kernel
theorem dX4_run_22 : decode cX4_run 22 = .ok (.iconst 2, 1) := by decide +kernel
theorem dX4_run_23 : decode cX4_run 23 = .ok (.goto 4, 3) := by decide +kernel
theorem dX4_run_26 : decode cX4_run 26 = .ok (.iconst 0, 1) := by decide +kernel
theorem dX4_run_27 : decode cX4_run 27 = .ok (.putfield 77, 3) := by decide +kernel
theorem dX4_run_30 : decode cX4_run 30 = .ok (.aload_n 0, 1) := by decide +kernel
theorem dX4_run_31 : decode cX4_run 31 = .ok (.getfield 77, 3) := by decide +kernel
theorem dX4_run_34 : decode cX4_run 34 = .ok (.ifCond .le 5, 3) := by decide +kernel
theorem dX4_run_37 : decode cX4_run 37 = .ok (.iconst 0, 1) := by decide +kernel
theorem dX4_run_38 : decode cX4_run 38 = .ok (.ireturn, 1) := by decide +kernel
theorem dX4_run_39 : decode cX4_run 39 = .ok (.aload_n 0, 1) := by decide +kernel
theorem dX4_run_40 : decode cX4_run 40 = .ok (.invokevirtual 319, 3) := by decide +kernel
theorem dX4_run_43 : decode cX4_run 43 = .ok (.iconst 0, 1) := by decide +kernel
theorem dX4_run_44 : decode cX4_run 44 = .ok (.istore_n 2, 1) := by decide +kernel
theorem dX4_run_45 : decode cX4_run 45 = .ok (.iconst 0, 1) := by decide +kernel
theorem dX4_run_46 : decode cX4_run 46 = .ok (.istore_n 3, 1) := by decide +kernel
theorem dX4_run_47 : decode cX4_run 47 = .ok (.iload_n 3, 1) := by decide +kernel
theorem dX4_run_48 : decode cX4_run 48 = .ok (.iload_n 1, 1) := by decide +kernel
theorem dX4_run_49 : decode cX4_run 49 = .ok (.if_icmp .ge 16, 3) := by decide +kernel
theorem dX4_run_52 : decode cX4_run 52 = .ok (.iload_n 2, 1) := by decide +kernel
theorem dX4_run_53 : decode cX4_run 53 = .ok (.aload_n 0, 1) := by decide +kernel
theorem dX4_run_54 : decode cX4_run 54 = .ok (.invokevirtual 293, 3) := by decide +kernel
theorem dX4_run_57 : decode cX4_run 57 = .ok (.iadd, 1) := by decide +kernel
theorem dX4_run_58 : decode cX4_run 58 = .ok (.istore_n 2, 1) := by decide +kernel
theorem dX4_run_59 : decode cX4_run 59 = .ok (.iinc 3 1, 3) := by decide +kernel
theorem dX4_run_62 : decode cX4_run 62 = .ok (.goto (-15), 3) := by decide +kernel
theorem dX4_run_65 : decode cX4_run 65 = .ok (.iload_n 2, 1) := by decide +kernel
theorem dX4_run_66 : decode cX4_run 66 = .ok (.ireturn, 1) := by decide +kernel
theorem dX4_lease_0 : decode cX4_lease 0 = .ok (.iload 4, 2) := by decide +kernel
theorem dX4_lease_2 : decode cX4_lease 2 = .ok (.iconst 1, 1) := by decide +kernel
theorem dX4_lease_3 : decode cX4_lease 3 = .ok (.sipush 999, 3) := by decide +kernel
theorem dX4_lease_6 : decode cX4_lease 6 = .ok (.invokestatic 104, 3) := by decide +kernel
theorem dX4_lease_9 : decode cX4_lease 9 = .ok (.ifCond .eq 27, 3) := by decide +kernel
theorem dX4_lease_12 : decode cX4_lease 12 = .ok (.iload 5, 2) := by decide +kernel
theorem dX4_lease_14 : decode cX4_lease 14 = .ok (.iconst 0, 1) := by decide +kernel
theorem dX4_lease_15 : decode cX4_lease 15 = .ok (.bipush 99, 2) := by decide +kernel
theorem dX4_lease_17 : decode cX4_lease 17 = .ok (.invokestatic 104, 3) := by decide +kernel
theorem dX4_lease_20 : decode cX4_lease 20 = .ok (.ifCond .eq 16, 3) := by decide +kernel
theorem dX4_lease_23 : decode cX4_lease 23 = .ok (.aload_n 0, 1) := by decide +kernel
theorem dX4_lease_24 : decode cX4_lease 24 = .ok (.iload 6, 2) := by decide +kernel
theorem dX4_lease_26 : decode cX4_lease 26 = .ok (.invokevirtual 305, 3) := by decide +kernel
theorem dX4_lease_29 : decode cX4_lease 29 = .ok (.ifCond .eq 7, 3) := by decide +kernel
theorem dX4_lease_32 : decode cX4_lease 32 = .ok (.iconst 1, 1) := by decide +kernel
theorem dX4_lease_33 : decode cX4_lease 33 = .ok (.goto 4, 3) := by decide +kernel
theorem dX4_lease_36 : decode cX4_lease 36 = .ok (.iconst 0, 1) := by decide +kernel
theorem dX4_lease_37 : decode cX4_lease 37 = .ok (.istore 7, 2) := by decide +kernel
theorem dX4_lease_39 : decode cX4_lease 39 = .ok (.aload_n 0, 1) := by decide +kernel
theorem dX4_lease_40 : decode cX4_lease 40 = .ok (.aload_n 0, 1) := by decide +kernel
theorem dX4_lease_41 : decode cX4_lease 41 = .ok (.iload_n 1, 1) := by decide +kernel
theorem dX4_lease_42 : decode cX4_lease 42 = .ok (.invokevirtual 213, 3) := by decide +kernel
theorem dX4_lease_45 : decode cX4_lease 45 = .ok (.ifCond .eq 19, 3) := by decide +kernel
theorem dX4_lease_48 : decode cX4_lease 48 = .ok (.aload_n 0, 1) := by decide +kernel
theorem dX4_lease_49 : decode cX4_lease 49 = .ok (.iload_n 2, 1) := by decide +kernel
theorem dX4_lease_50 : decode cX4_lease 50 = .ok (.invokevirtual 210, 3) := by decide +kernel
theorem dX4_lease_53 : decode cX4_lease 53 = .ok (.ifCond .eq 11, 3) := by decide +kernel
theorem dX4_lease_56 : decode cX4_lease 56 = .ok (.aload_n 0, 1) := by decide +kernel
theorem dX4_lease_57 : decode cX4_lease 57 = .ok (.iload_n 3, 1) := by decide +kernel
theorem dX4_lease_58 : decode cX4_lease 58 = .ok (.invokevirtual 203, 3) := by decide +kernel
theorem dX4_lease_61 : decode cX4_lease 61 = .ok (.ifCond .ne 7, 3) := by decide +kernel
theorem dX4_lease_64 : decode cX4_lease 64 = .ok (.iconst 1, 1) := by decide +kernel
theorem dX4_lease_65 : decode cX4_lease 65 = .ok (.goto 28, 3) := by decide +kernel
theorem dX4_lease_68 : decode cX4_lease 68 = .ok (.iload 7, 2) := by decide +kernel
theorem dX4_lease_70 : decode cX4_lease 70 = .ok (.ifCond .ne 7, 3) := by decide +kernel
theorem dX4_lease_73 : decode cX4_lease 73 = .ok (.iconst 2, 1) := by decide +kernel
theorem dX4_lease_74 : decode cX4_lease 74 = .ok (.goto 19, 3) := by decide +kernel
theorem dX4_lease_77 : decode cX4_lease 77 = .ok (.aload_n 0, 1) := by decide +kernel
theorem dX4_lease_78 : decode cX4_lease 78 = .ok (.getfield 7, 3) := by decide +kernel
theorem dX4_lease_81 : decode cX4_lease 81 = .ok (.iconst 3, 1) := by decide +kernel
theorem dX4_lease_82 : decode cX4_lease 82 = .ok (.iaload, 1) := by decide +kernel
theorem dX4_lease_83 : decode cX4_lease 83 = .ok (.bipush 8, 2) := by decide +kernel
theorem dX4_lease_85 : decode cX4_lease 85 = .ok (.if_icmp .ne 7, 3) := by decide +kernel
theorem dX4_lease_88 : decode cX4_lease 88 = .ok (.iconst 3, 1) := by decide +kernel
theorem dX4_lease_89 : decode cX4_lease 89 = .ok (.goto 4, 3) := by decide +kernel
theorem dX4_lease_92 : decode cX4_lease 92 = .ok (.iconst 0, 1) := by decide +kernel
theorem dX4_lease_93 : decode cX4_lease 93 = .ok (.putfield 77, 3) := by decide +kernel
theorem dX4_lease_96 : decode cX4_lease 96 = .ok (.aload_n 0, 1) := by decide +kernel
theorem dX4_lease_97 : decode cX4_lease 97 = .ok (.getfield 77, 3) := by decide +kernel
theorem dX4_lease_100 : decode cX4_lease 100 = .ok (.ifCond .le 5, 3) := by decide +kernel
theorem dX4_lease_103 : decode cX4_lease 103 = .ok (.iconst 0, 1) := by decide +kernel
theorem dX4_lease_104 : decode cX4_lease 104 = .ok (.ireturn, 1) := by decide +kernel
theorem dX4_lease_105 : decode cX4_lease 105 = .ok (.aload_n 0, 1) := by decide +kernel
theorem dX4_lease_106 : decode cX4_lease 106 = .ok (.invokevirtual 319, 3) := by decide +kernel
theorem dX4_lease_109 : decode cX4_lease 109 = .ok (.sipush 158, 3) := by decide +kernel
theorem dX4_lease_112 : decode cX4_lease 112 = .ok (.bipush 6, 2) := by decide +kernel
theorem dX4_lease_114 : decode cX4_lease 114 = .ok (.aload_n 0, 1) := by decide +kernel
theorem dX4_lease_115 : decode cX4_lease 115 = .ok (.getfield 7, 3) := by decide +kernel
theorem dX4_lease_118 : decode cX4_lease 118 = .ok (.iconst 3, 1) := by decide +kernel
theorem dX4_lease_119 : decode cX4_lease 119 = .ok (.iaload, 1) := by decide +kernel
theorem dX4_lease_120 : decode cX4_lease 120 = .ok (.imul, 1) := by decide +kernel
theorem dX4_lease_121 : decode cX4_lease 121 = .ok (.iadd, 1) := by decide +kernel
theorem dX4_lease_122 : decode cX4_lease 122 = .ok (.istore 8, 2) := by decide +kernel
theorem dX4_lease_124 : decode cX4_lease 124 = .ok (.aload_n 0, 1) := by decide +kernel
theorem dX4_lease_125 : decode cX4_lease 125 = .ok (.getfield 7, 3) := by decide +kernel
theorem dX4_lease_128 : decode cX4_lease 128 = .ok (.iload 8, 2) := by decide +kernel
theorem dX4_lease_130 : decode cX4_lease 130 = .ok (.iconst 0, 1) := by decide +kernel
theorem dX4_lease_131 : decode cX4_lease 131 = .ok (.iadd, 1) := by decide +kernel
theorem dX4_lease_132 : decode cX4_lease 132 = .ok (.iload_n 1, 1) := by decide +kernel
theorem dX4_lease_133 : decode cX4_lease 133 = .ok (.iastore, 1) := by decide +kernel
theorem dX4_lease_134 : decode cX4_lease 134 = .ok (.aload_n 0, 1) := by decide +kernel
theorem dX4_lease_135 : decode cX4_lease 135 = .ok (.getfield 7, 3) := by decide +kernel
theorem dX4_lease_138 : decode cX4_lease 138 = .ok (.iload 8, 2) := by decide +kernel
theorem dX4_lease_140 : decode cX4_lease 140 = .ok (.iconst 1, 1) := by decide +kernel
theorem dX4_lease_141 : decode cX4_lease 141 = .ok (.iadd, 1) := by decide +kernel
theorem dX4_lease_142 : decode cX4_lease 142 = .ok (.iload_n 2, 1) := by decide +kernel
theorem dX4_lease_143 : decode cX4_lease 143 = .ok (.iastore, 1) := by decide +kernel
theorem dX4_lease_144 : decode cX4_lease 144 = .ok (.aload_n 0, 1) := by decide +kernel
theorem dX4_lease_145 : decode cX4_lease 145 = .ok (.getfield 7, 3) := by decide +kernel
theorem dX4_lease_148 : decode cX4_lease 148 = .ok (.iload 8, 2) := by decide +kernel
theorem dX4_lease_150 : decode cX4_lease 150 = .ok (.iconst 2, 1) := by decide +kernel
theorem dX4_lease_151 : decode cX4_lease 151 = .ok (.iadd, 1) := by decide +kernel
theorem dX4_lease_152 : decode cX4_lease 152 = .ok (.iload_n 3, 1) := by decide +kernel
theorem dX4_lease_153 : decode cX4_lease 153 = .ok (.iastore, 1) := by decide +kernel
theorem dX4_lease_154 : decode cX4_lease 154 = .ok (.aload_n 0, 1) := by decide +kernel
theorem dX4_lease_155 : decode cX4_lease 155 = .ok (.getfield 7, 3) := by decide +kernel
theorem dX4_lease_158 : decode cX4_lease 158 = .ok (.iload 8, 2) := by decide +kernel
theorem dX4_lease_160 : decode cX4_lease 160 = .ok (.iconst 3, 1) := by decide +kernel
theorem dX4_lease_161 : decode cX4_lease 161 = .ok (.iadd, 1) := by decide +kernel
theorem dX4_lease_162 : decode cX4_lease 162 = .ok (.iload 4, 2) := by decide +kernel
theorem dX4_lease_164 : decode cX4_lease 164 = .ok (.iastore, 1) := by decide +kernel
theorem dX4_lease_165 : decode cX4_lease 165 = .ok (.aload_n 0, 1) := by decide +kernel
theorem dX4_lease_166 : decode cX4_lease 166 = .ok (.getfield 7, 3) := by decide +kernel
theorem dX4_lease_169 : decode cX4_lease 169 = .ok (.iload 8, 2) := by decide +kernel
theorem dX4_lease_171 : decode cX4_lease 171 = .ok (.iconst 4, 1) := by decide +kernel
theorem dX4_lease_172 : decode cX4_lease 172 = .ok (.iadd, 1) := by decide +kernel
theorem dX4_lease_173 : decode cX4_lease 173 = .ok (.iload 5, 2) := by decide +kernel
theorem dX4_lease_175 : decode cX4_lease 175 = .ok (.iastore, 1) := by decide +kernel
theorem dX4_lease_176 : decode cX4_lease 176 = .ok (.aload_n 0, 1) := by decide +kernel
theorem dX4_lease_177 : decode cX4_lease 177 = .ok (.getfield 7, 3) := by decide +kernel
theorem dX4_lease_180 : decode cX4_lease 180 = .ok (.iload 8, 2) := by decide +kernel
theorem dX4_lease_182 : decode cX4_lease 182 = .ok (.iconst 5, 1) := by decide +kernel
theorem dX4_lease_183 : decode cX4_lease 183 = .ok (.iadd, 1) := by decide +kernel
theorem dX4_lease_184 : decode cX4_lease 184 = .ok (.iload 6, 2) := by decide +kernel
theorem dX4_lease_186 : decode cX4_lease 186 = .ok (.iastore, 1) := by decide +kernel
theorem dX4_lease_187 : decode cX4_lease 187 = .ok (.aload_n 0, 1) := by decide +kernel
theorem dX4_lease_188 : decode cX4_lease 188 = .ok (.getfield 7, 3) := by decide +kernel
theorem dX4_lease_191 : decode cX4_lease 191 = .ok (.iconst 3, 1) := by decide +kernel
theorem dX4_lease_192 : decode cX4_lease 192 = .ok (.dup2, 1) := by decide +kernel
theorem dX4_lease_193 : decode cX4_lease 193 = .ok (.iaload, 1) := by decide +kernel
theorem dX4_lease_194 : decode cX4_lease 194 = .ok (.iconst 1, 1) := by decide +kernel
theorem dX4_lease_195 : decode cX4_lease 195 = .ok (.iadd, 1) := by decide +kernel
theorem dX4_lease_196 : decode cX4_lease 196 = .ok (.iastore, 1) := by decide +kernel
theorem dX4_lease_197 : decode cX4_lease 197 = .ok (.aload_n 0, 1) := by decide +kernel
theorem dX4_lease_198 : decode cX4_lease 198 = .ok (.getfield 7, 3) := by decide +kernel
theorem dX4_lease_201 : decode cX4_lease 201 = .ok (.iconst 3, 1) := by decide +kernel
theorem dX4_lease_202 : decode cX4_lease 202 = .ok (.iaload, 1) := by decide +kernel
theorem dX4_lease_203 : decode cX4_lease 203 = .ok (.iconst 1, 1) := by decide +kernel
theorem dX4_lease_204 : decode cX4_lease 204 = .ok (.isub, 1) := by decide +kernel
theorem dX4_lease_205 : decode cX4_lease 205 = .ok (.ireturn, 1) := by decide +kernel
theorem dX4_endLease_0 : decode cX4_endLease 0 = .ok (.aload_n 0, 1) := by decide +kernel
theorem dX4_endLease_1 : decode cX4_endLease 1 = .ok (.aload_n 0, 1) := by decide +kernel
theorem dX4_endLease_2 : decode cX4_endLease 2 = .ok (.iload_n 1, 1) := by decide +kernel
theorem dX4_endLease_3 : decode cX4_endLease 3 = .ok (.invokevirtual 222, 3) := by decide +kernel
theorem dX4_endLease_6 : decode cX4_endLease 6 = .ok (.ifCond .eq 7, 3) := by decide +kernel
theorem dX4_endLease_9 : decode cX4_endLease 9 = .ok (.iconst 0, 1) := by decide +kernel
theorem dX4_endLease_10 : decode cX4_endLease 10 = .ok (.goto 4, 3) := by decide +kernel
theorem dX4_endLease_13 : decode cX4_endLease 13 = .ok (.iconst 1, 1) := by decide +kernel
theorem dX4_endLease_14 : decode cX4_endLease 14 = .ok (.putfield 77, 3) := by decide +kernel
theorem dX4_endLease_17 : decode cX4_endLease 17 = .ok (.aload_n 0, 1) := by decide +kernel
theorem dX4_endLease_18 : decode cX4_endLease 18 = .ok (.getfield 77, 3) := by decide +kernel
theorem dX4_endLease_21 : decode cX4_endLease 21 = .ok (.ifCond .le 5, 3) := by decide +kernel
theorem dX4_endLease_24 : decode cX4_endLease 24 = .ok (.iconst 0, 1) := by decide +kernel
theorem dX4_endLease_25 : decode cX4_endLease 25 = .ok (.ireturn, 1) := by decide +kernel
theorem dX4_endLease_26 : decode cX4_endLease 26 = .ok (.aload_n 0, 1) := by decide +kernel
theorem dX4_endLease_27 : decode cX4_endLease 27 = .ok (.invokevirtual 319, 3) := by decide +kernel
theorem dX4_endLease_30 : decode cX4_endLease 30 = .ok (.aload_n 0, 1) := by decide +kernel
theorem dX4_endLease_31 : decode cX4_endLease 31 = .ok (.iload_n 1, 1) := by decide +kernel
theorem dX4_endLease_32 : decode cX4_endLease 32 = .ok (.iconst 5, 1) := by decide +kernel
theorem dX4_endLease_33 : decode cX4_endLease 33 = .ok (.invokevirtual 225, 3) := by decide +kernel
theorem dX4_endLease_36 : decode cX4_endLease 36 = .ok (.istore_n 2, 1) := by decide +kernel
theorem dX4_endLease_37 : decode cX4_endLease 37 = .ok (.aload_n 0, 1) := by decide +kernel
theorem dX4_endLease_38 : decode cX4_endLease 38 = .ok (.getfield 7, 3) := by decide +kernel
theorem dX4_endLease_41 : decode cX4_endLease 41 = .ok (.iconst 3, 1) := by decide +kernel
theorem dX4_endLease_42 : decode cX4_endLease 42 = .ok (.dup2, 1) := by decide +kernel
theorem dX4_endLease_43 : decode cX4_endLease 43 = .ok (.iaload, 1) := by decide +kernel
theorem dX4_endLease_44 : decode cX4_endLease 44 = .ok (.iconst 1, 1) := by decide +kernel
theorem dX4_endLease_45 : decode cX4_endLease 45 = .ok (.isub, 1) := by decide +kernel
theorem dX4_endLease_46 : decode cX4_endLease 46 = .ok (.iastore, 1) := by decide +kernel
theorem dX4_endLease_47 : decode cX4_endLease 47 = .ok (.sipush 158, 3) := by decide +kernel
theorem dX4_endLease_50 : decode cX4_endLease 50 = .ok (.bipush 6, 2) := by decide +kernel
theorem dX4_endLease_52 : decode cX4_endLease 52 = .ok (.iload_n 1, 1) := by decide +kernel
theorem dX4_endLease_53 : decode cX4_endLease 53 = .ok (.imul, 1) := by decide +kernel
theorem dX4_endLease_54 : decode cX4_endLease 54 = .ok (.iadd, 1) := by decide +kernel
theorem dX4_endLease_55 : decode cX4_endLease 55 = .ok (.istore_n 3, 1) := by decide +kernel
theorem dX4_endLease_56 : decode cX4_endLease 56 = .ok (.iload_n 3, 1) := by decide +kernel
theorem dX4_endLease_57 : decode cX4_endLease 57 = .ok (.sipush 158, 3) := by decide +kernel
theorem dX4_endLease_60 : decode cX4_endLease 60 = .ok (.bipush 6, 2) := by decide +kernel
theorem dX4_endLease_62 : decode cX4_endLease 62 = .ok (.aload_n 0, 1) := by decide +kernel
theorem dX4_endLease_63 : decode cX4_endLease 63 = .ok (.getfield 7, 3) := by decide +kernel
theorem dX4_endLease_66 : decode cX4_endLease 66 = .ok (.iconst 3, 1) := by decide +kernel
theorem dX4_endLease_67 : decode cX4_endLease 67 = .ok (.iaload, 1) := by decide +kernel
theorem dX4_endLease_68 : decode cX4_endLease 68 = .ok (.imul, 1) := by decide +kernel
theorem dX4_endLease_69 : decode cX4_endLease 69 = .ok (.iadd, 1) := by decide +kernel
theorem dX4_endLease_70 : decode cX4_endLease 70 = .ok (.if_icmp .ge 24, 3) := by decide +kernel
theorem dX4_endLease_73 : decode cX4_endLease 73 = .ok (.aload_n 0, 1) := by decide +kernel
theorem dX4_endLease_74 : decode cX4_endLease 74 = .ok (.getfield 7, 3) := by decide +kernel
theorem dX4_endLease_77 : decode cX4_endLease 77 = .ok (.iload_n 3, 1) := by decide +kernel
theorem dX4_endLease_78 : decode cX4_endLease 78 = .ok (.aload_n 0, 1) := by decide +kernel
theorem dX4_endLease_79 : decode cX4_endLease 79 = .ok (.getfield 7, 3) := by decide +kernel
theorem dX4_endLease_82 : decode cX4_endLease 82 = .ok (.iload_n 3, 1) := by decide +kernel
theorem dX4_endLease_83 : decode cX4_endLease 83 = .ok (.bipush 6, 2) := by decide +kernel
theorem dX4_endLease_85 : decode cX4_endLease 85 = .ok (.iadd, 1) := by decide +kernel
theorem dX4_endLease_86 : decode cX4_endLease 86 = .ok (.iaload, 1) := by decide +kernel
theorem dX4_endLease_87 : decode cX4_endLease 87 = .ok (.iastore, 1) := by decide +kernel
theorem dX4_endLease_88 : decode cX4_endLease 88 = .ok (.iinc 3 1, 3) := by decide +kernel
theorem dX4_endLease_91 : decode cX4_endLease 91 = .ok (.goto (-35), 3) := by decide +kernel
theorem dX4_endLease_94 : decode cX4_endLease 94 = .ok (.iload_n 2, 1) := by decide +kernel
theorem dX4_endLease_95 : decode cX4_endLease 95 = .ok (.ireturn, 1) := by decide +kernel
theorem dX4_release_0 : decode cX4_release 0 = .ok (.aload_n 0, 1) := by decide +kernel
theorem dX4_release_1 : decode cX4_release 1 = .ok (.aload_n 0, 1) := by decide +kernel
theorem dX4_release_2 : decode cX4_release 2 = .ok (.iload_n 1, 1) := by decide +kernel
theorem dX4_release_3 : decode cX4_release 3 = .ok (.invokevirtual 210, 3) := by decide +kernel
theorem dX4_release_6 : decode cX4_release 6 = .ok (.ifCond .eq 11, 3) := by decide +kernel
theorem dX4_release_9 : decode cX4_release 9 = .ok (.aload_n 0, 1) := by decide +kernel
theorem dX4_release_10 : decode cX4_release 10 = .ok (.iload_n 2, 1) := by decide +kernel
theorem dX4_release_11 : decode cX4_release 11 = .ok (.invokevirtual 203, 3) := by decide +kernel
theorem dX4_release_14 : decode cX4_release 14 = .ok (.ifCond .ne 7, 3) := by decide +kernel
theorem dX4_release_17 : decode cX4_release 17 = .ok (.iconst 1, 1) := by decide +kernel
theorem dX4_release_18 : decode cX4_release 18 = .ok (.goto 30, 3) := by decide +kernel
theorem dX4_release_21 : decode cX4_release 21 = .ok (.iload_n 3, 1) := by decide +kernel
theorem dX4_release_22 : decode cX4_release 22 = .ok (.iconst 1, 1) := by decide +kernel
theorem dX4_release_23 : decode cX4_release 23 = .ok (.if_icmp .ge 7, 3) := by decide +kernel
theorem dX4_release_26 : decode cX4_release 26 = .ok (.iconst 2, 1) := by decide +kernel
theorem dX4_release_27 : decode cX4_release 27 = .ok (.goto 21, 3) := by decide +kernel
theorem dX4_release_30 : decode cX4_release 30 = .ok (.aload_n 0, 1) := by decide +kernel
theorem dX4_release_31 : decode cX4_release 31 = .ok (.getfield 7, 3) := by decide +kernel
theorem dX4_release_34 : decode cX4_release 34 = .ok (.bipush 26, 2) := by decide +kernel
theorem dX4_release_36 : decode cX4_release 36 = .ok (.iload_n 1, 1) := by decide +kernel
theorem dX4_release_37 : decode cX4_release 37 = .ok (.iadd, 1) := by decide +kernel
theorem dX4_release_38 : decode cX4_release 38 = .ok (.iaload, 1) := by decide +kernel
theorem dX4_release_39 : decode cX4_release 39 = .ok (.iload_n 3, 1) := by decide +kernel
theorem dX4_release_40 : decode cX4_release 40 = .ok (.if_icmp .ge 7, 3) := by decide +kernel
theorem dX4_release_43 : decode cX4_release 43 = .ok (.iconst 3, 1) := by decide +kernel
theorem dX4_release_44 : decode cX4_release 44 = .ok (.goto 4, 3) := by decide +kernel
theorem dX4_release_47 : decode cX4_release 47 = .ok (.iconst 0, 1) := by decide +kernel
theorem dX4_release_48 : decode cX4_release 48 = .ok (.putfield 77, 3) := by decide +kernel
theorem dX4_release_51 : decode cX4_release 51 = .ok (.aload_n 0, 1) := by decide +kernel
theorem dX4_release_52 : decode cX4_release 52 = .ok (.getfield 77, 3) := by decide +kernel
theorem dX4_release_55 : decode cX4_release 55 = .ok (.ifCond .le 5, 3) := by decide +kernel
theorem dX4_release_58 : decode cX4_release 58 = .ok (.iconst 0, 1) := by decide +kernel
theorem dX4_release_59 : decode cX4_release 59 = .ok (.ireturn, 1) := by decide +kernel
theorem dX4_release_60 : decode cX4_release 60 = .ok (.aload_n 0, 1) := by decide +kernel
theorem dX4_release_61 : decode cX4_release 61 = .ok (.invokevirtual 319, 3) := by decide +kernel
theorem dX4_release_64 : decode cX4_release 64 = .ok (.aload_n 0, 1) := by decide +kernel
theorem dX4_release_65 : decode cX4_release 65 = .ok (.getfield 7, 3) := by decide +kernel
theorem dX4_release_68 : decode cX4_release 68 = .ok (.bipush 26, 2) := by decide +kernel
theorem dX4_release_70 : decode cX4_release 70 = .ok (.iload_n 1, 1) := by decide +kernel
theorem dX4_release_71 : decode cX4_release 71 = .ok (.iadd, 1) := by decide +kernel
theorem dX4_release_72 : decode cX4_release 72 = .ok (.dup2, 1) := by decide +kernel
theorem dX4_release_73 : decode cX4_release 73 = .ok (.iaload, 1) := by decide +kernel
theorem dX4_release_74 : decode cX4_release 74 = .ok (.iload_n 3, 1) := by decide +kernel
theorem dX4_release_75 : decode cX4_release 75 = .ok (.isub, 1) := by decide +kernel
theorem dX4_release_76 : decode cX4_release 76 = .ok (.iastore, 1) := by decide +kernel
theorem dX4_release_77 : decode cX4_release 77 = .ok (.aload_n 0, 1) := by decide +kernel
theorem dX4_release_78 : decode cX4_release 78 = .ok (.getfield 7, 3) := by decide +kernel
theorem dX4_release_81 : decode cX4_release 81 = .ok (.bipush 20, 2) := by decide +kernel
theorem dX4_release_83 : decode cX4_release 83 = .ok (.iload_n 2, 1) := by decide +kernel
theorem dX4_release_84 : decode cX4_release 84 = .ok (.iadd, 1) := by decide +kernel
theorem dX4_release_85 : decode cX4_release 85 = .ok (.dup2, 1) := by decide +kernel
theorem dX4_release_86 : decode cX4_release 86 = .ok (.iaload, 1) := by decide +kernel
theorem dX4_release_87 : decode cX4_release 87 = .ok (.iload_n 3, 1) := by decide +kernel
theorem dX4_release_88 : decode cX4_release 88 = .ok (.iadd, 1) := by decide +kernel
theorem dX4_release_89 : decode cX4_release 89 = .ok (.iastore, 1) := by decide +kernel
theorem dX4_release_90 : decode cX4_release 90 = .ok (.aload_n 0, 1) := by decide +kernel
theorem dX4_release_91 : decode cX4_release 91 = .ok (.getfield 7, 3) := by decide +kernel
theorem dX4_release_94 : decode cX4_release 94 = .ok (.bipush 55, 2) := by decide +kernel
theorem dX4_release_96 : decode cX4_release 96 = .ok (.dup2, 1) := by decide +kernel
theorem dX4_release_97 : decode cX4_release 97 = .ok (.iaload, 1) := by decide +kernel
theorem dX4_release_98 : decode cX4_release 98 = .ok (.iload_n 3, 1) := by decide +kernel
theorem dX4_release_99 : decode cX4_release 99 = .ok (.iadd, 1) := by decide +kernel
theorem dX4_release_100 : decode cX4_release 100 = .ok (.iastore, 1) := by decide +kernel
theorem dX4_release_101 : decode cX4_release 101 = .ok (.aload_n 0, 1) := by decide +kernel
theorem dX4_release_102 : decode cX4_release 102 = .ok (.getfield 7, 3) := by decide +kernel
theorem dX4_release_105 : decode cX4_release 105 = .ok (.bipush 26, 2) := by decide +kernel
theorem dX4_release_107 : decode cX4_release 107 = .ok (.iload_n 1, 1) := by decide +kernel
theorem dX4_release_108 : decode cX4_release 108 = .ok (.iadd, 1) := by decide +kernel
theorem dX4_release_109 : decode cX4_release 109 = .ok (.iaload, 1) := by decide +kernel
theorem dX4_release_110 : decode cX4_release 110 = .ok (.ireturn, 1) := by decide +kernel
theorem dX4_sets_0 : decode cX4_sets 0 = .ok (.aload_n 0, 1) := by decide +kernel
theorem dX4_sets_1 : decode cX4_sets 1 = .ok (.invokevirtual 319, 3) := by decide +kernel
theorem dX4_sets_4 : decode cX4_sets 4 = .ok (.aload_n 0, 1) := by decide +kernel
theorem dX4_sets_5 : decode cX4_sets 5 = .ok (.getfield 7, 3) := by decide +kernel
theorem dX4_sets_8 : decode cX4_sets 8 = .ok (.iload_n 1, 1) := by decide +kernel
theorem dX4_sets_9 : decode cX4_sets 9 = .ok (.iaload, 1) := by decide +kernel
theorem dX4_sets_10 : decode cX4_sets 10 = .ok (.istore_n 3, 1) := by decide +kernel
theorem dX4_sets_11 : decode cX4_sets 11 = .ok (.aload_n 0, 1) := by decide +kernel
theorem dX4_sets_12 : decode cX4_sets 12 = .ok (.getfield 7, 3) := by decide +kernel
theorem dX4_sets_15 : decode cX4_sets 15 = .ok (.iload_n 1, 1) := by decide +kernel
theorem dX4_sets_16 : decode cX4_sets 16 = .ok (.iload_n 2, 1) := by decide +kernel
theorem dX4_sets_17 : decode cX4_sets 17 = .ok (.iastore, 1) := by decide +kernel
theorem dX4_sets_18 : decode cX4_sets 18 = .ok (.iload_n 3, 1) := by decide +kernel
theorem dX4_sets_19 : decode cX4_sets 19 = .ok (.ireturn, 1) := by decide +kernel
theorem dX4_setKeep_0 : decode cX4_setKeep 0 = .ok (.aload_n 0, 1) := by decide +kernel
theorem dX4_setKeep_1 : decode cX4_setKeep 1 = .ok (.aload_n 0, 1) := by decide +kernel
theorem dX4_setKeep_2 : decode cX4_setKeep 2 = .ok (.iload_n 1, 1) := by decide +kernel
theorem dX4_setKeep_3 : decode cX4_setKeep 3 = .ok (.invokevirtual 213, 3) := by decide +kernel
theorem dX4_setKeep_6 : decode cX4_setKeep 6 = .ok (.ifCond .ne 7, 3) := by decide +kernel
theorem dX4_setKeep_9 : decode cX4_setKeep 9 = .ok (.iconst 1, 1) := by decide +kernel
theorem dX4_setKeep_10 : decode cX4_setKeep 10 = .ok (.goto 18, 3) := by decide +kernel
theorem dX4_setKeep_13 : decode cX4_setKeep 13 = .ok (.iload_n 2, 1) := by decide +kernel
theorem dX4_setKeep_14 : decode cX4_setKeep 14 = .ok (.iconst 0, 1) := by decide +kernel
theorem dX4_setKeep_15 : decode cX4_setKeep 15 = .ok (.bipush 100, 2) := by decide +kernel
theorem dX4_setKeep_17 : decode cX4_setKeep 17 = .ok (.invokestatic 104, 3) := by decide +kernel
theorem dX4_setKeep_20 : decode cX4_setKeep 20 = .ok (.ifCond .ne 7, 3) := by decide +kernel
theorem dX4_setKeep_23 : decode cX4_setKeep 23 = .ok (.iconst 2, 1) := by decide +kernel
theorem dX4_setKeep_24 : decode cX4_setKeep 24 = .ok (.goto 4, 3) := by decide +kernel
theorem dX4_setKeep_27 : decode cX4_setKeep 27 = .ok (.iconst 0, 1) := by decide +kernel
theorem dX4_setKeep_28 : decode cX4_setKeep 28 = .ok (.putfield 77, 3) := by decide +kernel
theorem dX4_setKeep_31 : decode cX4_setKeep 31 = .ok (.aload_n 0, 1) := by decide +kernel
theorem dX4_setKeep_32 : decode cX4_setKeep 32 = .ok (.getfield 77, 3) := by decide +kernel
theorem dX4_setKeep_35 : decode cX4_setKeep 35 = .ok (.ifCond .le 7, 3) := by decide +kernel
theorem dX4_setKeep_38 : decode cX4_setKeep 38 = .ok (.iconst 0, 1) := by decide +kernel
theorem dX4_setKeep_39 : decode cX4_setKeep 39 = .ok (.goto 14, 3) := by decide +kernel
theorem dX4_setKeep_42 : decode cX4_setKeep 42 = .ok (.aload_n 0, 1) := by decide +kernel
theorem dX4_setKeep_43 : decode cX4_setKeep 43 = .ok (.iload_n 1, 1) := by decide +kernel
theorem dX4_setKeep_44 : decode cX4_setKeep 44 = .ok (.bipush 6, 2) := by decide +kernel
theorem dX4_setKeep_46 : decode cX4_setKeep 46 = .ok (.invokestatic 80, 3) := by decide +kernel
theorem dX4_setKeep_49 : decode cX4_setKeep 49 = .ok (.iload_n 2, 1) := by decide +kernel
theorem dX4_setKeep_50 : decode cX4_setKeep 50 = .ok (.invokevirtual 322, 3) := by decide +kernel
theorem dX4_setKeep_53 : decode cX4_setKeep 53 = .ok (.ireturn, 1) := by decide +kernel
theorem dX4_setMinimum_0 : decode cX4_setMinimum 0 = .ok (.aload_n 0, 1) := by decide +kernel
theorem dX4_setMinimum_1 : decode cX4_setMinimum 1 = .ok (.aload_n 0, 1) := by decide +kernel
theorem dX4_setMinimum_2 : decode cX4_setMinimum 2 = .ok (.iload_n 1, 1) := by decide +kernel
theorem dX4_setMinimum_3 : decode cX4_setMinimum 3 = .ok (.invokevirtual 203, 3) := by decide +kernel
