theorem dX1_pay_37 : decode cX1_pay 37 = .ok (.i2l, 1) := by decide +kernel
theorem dX1_pay_38 : decode cX1_pay 38 = .ok (.ladd, 1) := by decide +kernel
theorem dX1_pay_39 : decode cX1_pay 39 = .ok (.lastore, 1) := by decide +kernel
theorem dX1_pay_40 : decode cX1_pay 40 = .ok (.return_, 1) := by decide +kernel
theorem dX1_runMonth_0 : decode cX1_runMonth 0 = .ok (.aload_n 0, 1) := by decide +kernel
theorem dX1_runMonth_1 : decode cX1_runMonth 1 = .ok (.invokevirtual 116, 3) := by decide +kernel
theorem dX1_runMonth_4 : decode cX1_runMonth 4 = .ok (.aload_n 0, 1) := by decide +kernel
theorem dX1_runMonth_5 : decode cX1_runMonth 5 = .ok (.invokevirtual 119, 3) := by decide +kernel
theorem dX1_runMonth_8 : decode cX1_runMonth 8 = .ok (.aload_n 0, 1) := by decide +kernel
theorem dX1_runMonth_9 : decode cX1_runMonth 9 = .ok (.getfield 49, 3) := by decide +kernel
theorem dX1_runMonth_12 : decode cX1_runMonth 12 = .ok (.invokevirtual 87, 3) := by decide +kernel
theorem dX1_runMonth_15 : decode cX1_runMonth 15 = .ok (.iconst (-1), 1) := by decide +kernel
theorem dX1_runMonth_16 : decode cX1_runMonth 16 = .ok (.istore_n 2, 1) := by decide +kernel
theorem dX1_runMonth_17 : decode cX1_runMonth 17 = .ok (.iconst 0, 1) := by decide +kernel
theorem dX1_runMonth_18 : decode cX1_runMonth 18 = .ok (.istore_n 3, 1) := by decide +kernel
theorem dX1_runMonth_19 : decode cX1_runMonth 19 = .ok (.iload_n 3, 1) := by decide +kernel
theorem dX1_runMonth_20 : decode cX1_runMonth 20 = .ok (.aload_n 0, 1) := by decide +kernel
theorem dX1_runMonth_21 : decode cX1_runMonth 21 = .ok (.getfield 34, 3) := by decide +kernel
theorem dX1_runMonth_24 : decode cX1_runMonth 24 = .ok (.getfield 109, 3) := by decide +kernel
theorem dX1_runMonth_27 : decode cX1_runMonth 27 = .ok (.if_icmp .ge 65, 3) := by decide +kernel
theorem dX1_runMonth_30 : decode cX1_runMonth 30 = .ok (.aload_n 0, 1) := by decide +kernel
theorem dX1_runMonth_31 : decode cX1_runMonth 31 = .ok (.iload_n 3, 1) := by decide +kernel
theorem dX1_runMonth_32 : decode cX1_runMonth 32 = .ok (.invokevirtual 122, 3) := by decide +kernel
theorem dX1_runMonth_35 : decode cX1_runMonth 35 = .ok (.istore 4, 2) := by decide +kernel
theorem dX1_runMonth_37 : decode cX1_runMonth 37 = .ok (.iload 4, 2) := by decide +kernel
theorem dX1_runMonth_39 : decode cX1_runMonth 39 = .ok (.iload_n 1, 1) := by decide +kernel
theorem dX1_runMonth_40 : decode cX1_runMonth 40 = .ok (.if_icmp .eq 9, 3) := by decide +kernel
theorem dX1_runMonth_43 : decode cX1_runMonth 43 = .ok (.aload_n 0, 1) := by decide +kernel
theorem dX1_runMonth_44 : decode cX1_runMonth 44 = .ok (.iload 4, 2) := by decide +kernel
theorem dX1_runMonth_46 : decode cX1_runMonth 46 = .ok (.invokevirtual 125, 3) := by decide +kernel
theorem dX1_runMonth_49 : decode cX1_runMonth 49 = .ok (.aload_n 0, 1) := by decide +kernel
theorem dX1_runMonth_50 : decode cX1_runMonth 50 = .ok (.iload 4, 2) := by decide +kernel
theorem dX1_runMonth_52 : decode cX1_runMonth 52 = .ok (.invokevirtual 129, 3) := by decide +kernel
theorem dX1_runMonth_55 : decode cX1_runMonth 55 = .ok (.ifCond .eq 31, 3) := by decide +kernel
theorem dX1_runMonth_58 : decode cX1_runMonth 58 = .ok (.aload_n 0, 1) := by decide +kernel
theorem dX1_runMonth_59 : decode cX1_runMonth 59 = .ok (.getfield 34, 3) := by decide +kernel
theorem dX1_runMonth_62 : decode cX1_runMonth 62 = .ok (.iload 4, 2) := by decide +kernel
theorem dX1_runMonth_64 : decode cX1_runMonth 64 = .ok (.bipush 9, 2) := by decide +kernel
theorem dX1_runMonth_66 : decode cX1_runMonth 66 = .ok (.iconst 1, 1) := by decide +kernel
theorem dX1_runMonth_67 : decode cX1_runMonth 67 = .ok (.invokevirtual 132, 3) := by decide +kernel
theorem dX1_runMonth_70 : decode cX1_runMonth 70 = .ok (.iload_n 2, 1) := by decide +kernel
theorem dX1_runMonth_71 : decode cX1_runMonth 71 = .ok (.iconst (-1), 1) := by decide +kernel
theorem dX1_runMonth_72 : decode cX1_runMonth 72 = .ok (.if_icmp .ne 14, 3) := by decide +kernel
theorem dX1_runMonth_75 : decode cX1_runMonth 75 = .ok (.aload_n 0, 1) := by decide +kernel
theorem dX1_runMonth_76 : decode cX1_runMonth 76 = .ok (.getfield 34, 3) := by decide +kernel
theorem dX1_runMonth_79 : decode cX1_runMonth 79 = .ok (.iload 4, 2) := by decide +kernel
theorem dX1_runMonth_81 : decode cX1_runMonth 81 = .ok (.iconst 2, 1) := by decide +kernel
theorem dX1_runMonth_82 : decode cX1_runMonth 82 = .ok (.invokevirtual 94, 3) := by decide +kernel
theorem dX1_runMonth_85 : decode cX1_runMonth 85 = .ok (.istore_n 2, 1) := by decide +kernel
theorem dX1_runMonth_86 : decode cX1_runMonth 86 = .ok (.iinc 3 1, 3) := by decide +kernel
theorem dX1_runMonth_89 : decode cX1_runMonth 89 = .ok (.goto (-70), 3) := by decide +kernel
theorem dX1_runMonth_92 : decode cX1_runMonth 92 = .ok (.aload_n 0, 1) := by decide +kernel
theorem dX1_runMonth_93 : decode cX1_runMonth 93 = .ok (.getfield 49, 3) := by decide +kernel
theorem dX1_runMonth_96 : decode cX1_runMonth 96 = .ok (.iconst 5, 1) := by decide +kernel
theorem dX1_runMonth_97 : decode cX1_runMonth 97 = .ok (.invokevirtual 135, 3) := by decide +kernel
theorem dX1_runMonth_100 : decode cX1_runMonth 100 = .ok (.istore_n 3, 1) := by decide +kernel
theorem dX1_runMonth_101 : decode cX1_runMonth 101 = .ok (.aload_n 0, 1) := by decide +kernel
theorem dX1_runMonth_102 : decode cX1_runMonth 102 = .ok (.iload_n 3, 1) := by decide +kernel
theorem dX1_runMonth_103 : decode cX1_runMonth 103 = .ok (.iload_n 2, 1) := by decide +kernel
theorem dX1_runMonth_104 : decode cX1_runMonth 104 = .ok (.invokevirtual 138, 3) := by decide +kernel
theorem dX1_runMonth_107 : decode cX1_runMonth 107 = .ok (.aload_n 0, 1) := by decide +kernel
theorem dX1_runMonth_108 : decode cX1_runMonth 108 = .ok (.invokevirtual 141, 3) := by decide +kernel
theorem dX1_runMonth_111 : decode cX1_runMonth 111 = .ok (.iload_n 3, 1) := by decide +kernel
theorem dX1_runMonth_112 : decode cX1_runMonth 112 = .ok (.ireturn, 1) := by decide +kernel
theorem dX1_openGauges_0 : decode cX1_openGauges 0 = .ok (.aload_n 0, 1) := by decide +kernel
theorem dX1_openGauges_1 : decode cX1_openGauges 1 = .ok (.getfield 52, 3) := by decide +kernel
theorem dX1_openGauges_4 : decode cX1_openGauges 4 = .ok (.invokevirtual 87, 3) := by decide +kernel
theorem dX1_openGauges_7 : decode cX1_openGauges 7 = .ok (.iconst 0, 1) := by decide +kernel
theorem dX1_openGauges_8 : decode cX1_openGauges 8 = .ok (.istore_n 1, 1) := by decide +kernel
theorem dX1_openGauges_9 : decode cX1_openGauges 9 = .ok (.iconst 0, 1) := by decide +kernel
theorem dX1_openGauges_10 : decode cX1_openGauges 10 = .ok (.istore_n 2, 1) := by decide +kernel
theorem dX1_openGauges_11 : decode cX1_openGauges 11 = .ok (.iload_n 2, 1) := by decide +kernel
theorem dX1_openGauges_12 : decode cX1_openGauges 12 = .ok (.aload_n 0, 1) := by decide +kernel
theorem dX1_openGauges_13 : decode cX1_openGauges 13 = .ok (.getfield 14, 3) := by decide +kernel
theorem dX1_openGauges_16 : decode cX1_openGauges 16 = .ok (.getfield 109, 3) := by decide +kernel
theorem dX1_openGauges_19 : decode cX1_openGauges 19 = .ok (.if_icmp .ge 57, 3) := by decide +kernel
theorem dX1_openGauges_22 : decode cX1_openGauges 22 = .ok (.aload_n 0, 1) := by decide +kernel
theorem dX1_openGauges_23 : decode cX1_openGauges 23 = .ok (.iload_n 2, 1) := by decide +kernel
theorem dX1_openGauges_24 : decode cX1_openGauges 24 = .ok (.invokevirtual 144, 3) := by decide +kernel
theorem dX1_openGauges_27 : decode cX1_openGauges 27 = .ok (.istore_n 3, 1) := by decide +kernel
theorem dX1_openGauges_28 : decode cX1_openGauges 28 = .ok (.iload_n 1, 1) := by decide +kernel
theorem dX1_openGauges_29 : decode cX1_openGauges 29 = .ok (.iload_n 3, 1) := by decide +kernel
theorem dX1_openGauges_30 : decode cX1_openGauges 30 = .ok (.iadd, 1) := by decide +kernel
theorem dX1_openGauges_31 : decode cX1_openGauges 31 = .ok (.istore_n 1, 1) := by decide +kernel
theorem dX1_openGauges_32 : decode cX1_openGauges 32 = .ok (.aload_n 0, 1) := by decide +kernel
theorem dX1_openGauges_33 : decode cX1_openGauges 33 = .ok (.getfield 52, 3) := by decide +kernel
theorem dX1_openGauges_36 : decode cX1_openGauges 36 = .ok (.invokevirtual 90, 3) := by decide +kernel
theorem dX1_openGauges_39 : decode cX1_openGauges 39 = .ok (.pop, 1) := by decide +kernel
theorem dX1_openGauges_40 : decode cX1_openGauges 40 = .ok (.aload_n 0, 1) := by decide +kernel
theorem dX1_openGauges_41 : decode cX1_openGauges 41 = .ok (.getfield 52, 3) := by decide +kernel
theorem dX1_openGauges_44 : decode cX1_openGauges 44 = .ok (.iload_n 2, 1) := by decide +kernel
theorem dX1_openGauges_45 : decode cX1_openGauges 45 = .ok (.iconst 0, 1) := by decide +kernel
theorem dX1_openGauges_46 : decode cX1_openGauges 46 = .ok (.iload_n 3, 1) := by decide +kernel
theorem dX1_openGauges_47 : decode cX1_openGauges 47 = .ok (.invokevirtual 112, 3) := by decide +kernel
theorem dX1_openGauges_50 : decode cX1_openGauges 50 = .ok (.aload_n 0, 1) := by decide +kernel
theorem dX1_openGauges_51 : decode cX1_openGauges 51 = .ok (.getfield 52, 3) := by decide +kernel
theorem dX1_openGauges_54 : decode cX1_openGauges 54 = .ok (.iload_n 2, 1) := by decide +kernel
theorem dX1_openGauges_55 : decode cX1_openGauges 55 = .ok (.iconst 1, 1) := by decide +kernel
theorem dX1_openGauges_56 : decode cX1_openGauges 56 = .ok (.iload_n 1, 1) := by decide +kernel
theorem dX1_openGauges_57 : decode cX1_openGauges 57 = .ok (.invokevirtual 112, 3) := by decide +kernel
theorem dX1_openGauges_60 : decode cX1_openGauges 60 = .ok (.aload_n 0, 1) := by decide +kernel
theorem dX1_openGauges_61 : decode cX1_openGauges 61 = .ok (.getfield 52, 3) := by decide +kernel
theorem dX1_openGauges_64 : decode cX1_openGauges 64 = .ok (.iload_n 2, 1) := by decide +kernel
theorem dX1_openGauges_65 : decode cX1_openGauges 65 = .ok (.iconst 2, 1) := by decide +kernel
theorem dX1_openGauges_66 : decode cX1_openGauges 66 = .ok (.iload_n 1, 1) := by decide +kernel
theorem dX1_openGauges_67 : decode cX1_openGauges 67 = .ok (.invokevirtual 112, 3) := by decide +kernel
theorem dX1_openGauges_70 : decode cX1_openGauges 70 = .ok (.iinc 2 1, 3) := by decide +kernel
theorem dX1_openGauges_73 : decode cX1_openGauges 73 = .ok (.goto (-62), 3) := by decide +kernel
theorem dX1_openGauges_76 : decode cX1_openGauges 76 = .ok (.return_, 1) := by decide +kernel
theorem dX1_payPremiums_0 : decode cX1_payPremiums 0 = .ok (.aload_n 0, 1) := by decide +kernel
theorem dX1_payPremiums_1 : decode cX1_payPremiums 1 = .ok (.getfield 72, 3) := by decide +kernel
theorem dX1_payPremiums_4 : decode cX1_payPremiums 4 = .ok (.bipush 12, 2) := by decide +kernel
theorem dX1_payPremiums_6 : decode cX1_payPremiums 6 = .ok (.irem, 1) := by decide +kernel
theorem dX1_payPremiums_7 : decode cX1_payPremiums 7 = .ok (.ifCond .eq 4, 3) := by decide +kernel
theorem dX1_payPremiums_10 : decode cX1_payPremiums 10 = .ok (.return_, 1) := by decide +kernel
theorem dX1_payPremiums_11 : decode cX1_payPremiums 11 = .ok (.iconst 0, 1) := by decide +kernel
theorem dX1_payPremiums_12 : decode cX1_payPremiums 12 = .ok (.istore_n 1, 1) := by decide +kernel
theorem dX1_payPremiums_13 : decode cX1_payPremiums 13 = .ok (.iload_n 1, 1) := by decide +kernel
theorem dX1_payPremiums_14 : decode cX1_payPremiums 14 = .ok (.aload_n 0, 1) := by decide +kernel
theorem dX1_payPremiums_15 : decode cX1_payPremiums 15 = .ok (.getfield 46, 3) := by decide +kernel
theorem dX1_payPremiums_18 : decode cX1_payPremiums 18 = .ok (.getfield 109, 3) := by decide +kernel
theorem dX1_payPremiums_21 : decode cX1_payPremiums 21 = .ok (.if_icmp .ge 50, 3) := by decide +kernel
theorem dX1_payPremiums_24 : decode cX1_payPremiums 24 = .ok (.aload_n 0, 1) := by decide +kernel
theorem dX1_payPremiums_25 : decode cX1_payPremiums 25 = .ok (.getfield 34, 3) := by decide +kernel
theorem dX1_payPremiums_28 : decode cX1_payPremiums 28 = .ok (.aload_n 0, 1) := by decide +kernel
theorem dX1_payPremiums_29 : decode cX1_payPremiums 29 = .ok (.getfield 46, 3) := by decide +kernel
theorem dX1_payPremiums_32 : decode cX1_payPremiums 32 = .ok (.iload_n 1, 1) := by decide +kernel
theorem dX1_payPremiums_33 : decode cX1_payPremiums 33 = .ok (.iconst 0, 1) := by decide +kernel
theorem dX1_payPremiums_34 : decode cX1_payPremiums 34 = .ok (.invokevirtual 94, 3) := by decide +kernel
theorem dX1_payPremiums_37 : decode cX1_payPremiums 37 = .ok (.iconst 0, 1) := by decide +kernel
theorem dX1_payPremiums_38 : decode cX1_payPremiums 38 = .ok (.invokevirtual 94, 3) := by decide +kernel
theorem dX1_payPremiums_41 : decode cX1_payPremiums 41 = .ok (.istore_n 2, 1) := by decide +kernel
theorem dX1_payPremiums_42 : decode cX1_payPremiums 42 = .ok (.aload_n 0, 1) := by decide +kernel
theorem dX1_payPremiums_43 : decode cX1_payPremiums 43 = .ok (.aload_n 0, 1) := by decide +kernel
theorem dX1_payPremiums_44 : decode cX1_payPremiums 44 = .ok (.getfield 46, 3) := by decide +kernel
theorem dX1_payPremiums_47 : decode cX1_payPremiums 47 = .ok (.iload_n 1, 1) := by decide +kernel
theorem dX1_payPremiums_48 : decode cX1_payPremiums 48 = .ok (.iconst 1, 1) := by decide +kernel
theorem dX1_payPremiums_49 : decode cX1_payPremiums 49 = .ok (.invokevirtual 94, 3) := by decide +kernel
theorem dX1_payPremiums_52 : decode cX1_payPremiums 52 = .ok (.iload_n 2, 1) := by decide +kernel
theorem dX1_payPremiums_53 : decode cX1_payPremiums 53 = .ok (.aload_n 0, 1) := by decide +kernel
theorem dX1_payPremiums_54 : decode cX1_payPremiums 54 = .ok (.getfield 46, 3) := by decide +kernel
theorem dX1_payPremiums_57 : decode cX1_payPremiums 57 = .ok (.iload_n 1, 1) := by decide +kernel
theorem dX1_payPremiums_58 : decode cX1_payPremiums 58 = .ok (.iconst 4, 1) := by decide +kernel
theorem dX1_payPremiums_59 : decode cX1_payPremiums 59 = .ok (.invokevirtual 94, 3) := by decide +kernel
theorem dX1_payPremiums_62 : decode cX1_payPremiums 62 = .ok (.invokevirtual 147, 3) := by decide +kernel
theorem dX1_payPremiums_65 : decode cX1_payPremiums 65 = .ok (.iinc 1 1, 3) := by decide +kernel
theorem dX1_payPremiums_68 : decode cX1_payPremiums 68 = .ok (.goto (-55), 3) := by decide +kernel
theorem dX1_payPremiums_71 : decode cX1_payPremiums 71 = .ok (.return_, 1) := by decide +kernel
theorem dX1_isCut_0 : decode cX1_isCut 0 = .ok (.iconst 0, 1) := by decide +kernel
theorem dX1_isCut_1 : decode cX1_isCut 1 = .ok (.istore_n 2, 1) := by decide +kernel
theorem dX1_isCut_2 : decode cX1_isCut 2 = .ok (.iload_n 2, 1) := by decide +kernel
theorem dX1_isCut_3 : decode cX1_isCut 3 = .ok (.aload_n 0, 1) := by decide +kernel
theorem dX1_isCut_4 : decode cX1_isCut 4 = .ok (.getfield 49, 3) := by decide +kernel
theorem dX1_isCut_7 : decode cX1_isCut 7 = .ok (.getfield 109, 3) := by decide +kernel
theorem dX1_isCut_10 : decode cX1_isCut 10 = .ok (.if_icmp .ge 45, 3) := by decide +kernel
theorem dX1_isCut_13 : decode cX1_isCut 13 = .ok (.aload_n 0, 1) := by decide +kernel
theorem dX1_isCut_14 : decode cX1_isCut 14 = .ok (.getfield 49, 3) := by decide +kernel
theorem dX1_isCut_17 : decode cX1_isCut 17 = .ok (.iload_n 2, 1) := by decide +kernel
theorem dX1_isCut_18 : decode cX1_isCut 18 = .ok (.iconst 1, 1) := by decide +kernel
theorem dX1_isCut_19 : decode cX1_isCut 19 = .ok (.invokevirtual 94, 3) := by decide +kernel
theorem dX1_isCut_22 : decode cX1_isCut 22 = .ok (.iload_n 1, 1) := by decide +kernel
theorem dX1_isCut_23 : decode cX1_isCut 23 = .ok (.if_icmp .ne 26, 3) := by decide +kernel
theorem dX1_isCut_26 : decode cX1_isCut 26 = .ok (.aload_n 0, 1) := by decide +kernel
theorem dX1_isCut_27 : decode cX1_isCut 27 = .ok (.getfield 49, 3) := by decide +kernel
theorem dX1_isCut_30 : decode cX1_isCut 30 = .ok (.iload_n 2, 1) := by decide +kernel
theorem dX1_isCut_31 : decode cX1_isCut 31 = .ok (.iconst 5, 1) := by decide +kernel
theorem dX1_isCut_32 : decode cX1_isCut 32 = .ok (.invokevirtual 94, 3) := by decide +kernel
theorem dX1_isCut_35 : decode cX1_isCut 35 = .ok (.aload_n 0, 1) := by decide +kernel
theorem dX1_isCut_36 : decode cX1_isCut 36 = .ok (.getfield 49, 3) := by decide +kernel
theorem dX1_isCut_39 : decode cX1_isCut 39 = .ok (.iload_n 2, 1) := by decide +kernel
theorem dX1_isCut_40 : decode cX1_isCut 40 = .ok (.iconst 4, 1) := by decide +kernel
theorem dX1_isCut_41 : decode cX1_isCut 41 = .ok (.invokevirtual 94, 3) := by decide +kernel
theorem dX1_isCut_44 : decode cX1_isCut 44 = .ok (.if_icmp .ge 5, 3) := by decide +kernel
theorem dX1_isCut_47 : decode cX1_isCut 47 = .ok (.iconst 1, 1) := by decide +kernel
theorem dX1_isCut_48 : decode cX1_isCut 48 = .ok (.ireturn, 1) := by decide +kernel
theorem dX1_isCut_49 : decode cX1_isCut 49 = .ok (.iinc 2 1, 3) := by decide +kernel
theorem dX1_isCut_52 : decode cX1_isCut 52 = .ok (.goto (-50), 3) := by decide +kernel
theorem dX1_isCut_55 : decode cX1_isCut 55 = .ok (.iconst 0, 1) := by decide +kernel
theorem dX1_isCut_56 : decode cX1_isCut 56 = .ok (.ireturn, 1) := by decide +kernel
theorem dX1_serveClaimsOf_0 : decode cX1_serveClaimsOf 0 = .ok (.aload_n 0, 1) := by decide +kernel
theorem dX1_serveClaimsOf_1 : decode cX1_serveClaimsOf 1 = .ok (.getfield 34, 3) := by decide +kernel
theorem dX1_serveClaimsOf_4 : decode cX1_serveClaimsOf 4 = .ok (.iload_n 1, 1) := by decide +kernel
theorem dX1_serveClaimsOf_5 : decode cX1_serveClaimsOf 5 = .ok (.iconst 3, 1) := by decide +kernel
theorem dX1_serveClaimsOf_6 : decode cX1_serveClaimsOf 6 = .ok (.invokevirtual 94, 3) := by decide +kernel
theorem dX1_serveClaimsOf_9 : decode cX1_serveClaimsOf 9 = .ok (.istore_n 2, 1) := by decide +kernel
theorem dX1_serveClaimsOf_10 : decode cX1_serveClaimsOf 10 = .ok (.iconst 0, 1) := by decide +kernel
theorem dX1_serveClaimsOf_11 : decode cX1_serveClaimsOf 11 = .ok (.istore_n 3, 1) := by decide +kernel
theorem dX1_serveClaimsOf_12 : decode cX1_serveClaimsOf 12 = .ok (.iload_n 3, 1) := by decide +kernel
theorem dX1_serveClaimsOf_13 : decode cX1_serveClaimsOf 13 = .ok (.aload_n 0, 1) := by decide +kernel
theorem dX1_serveClaimsOf_14 : decode cX1_serveClaimsOf 14 = .ok (.getfield 43, 3) := by decide +kernel
theorem dX1_serveClaimsOf_17 : decode cX1_serveClaimsOf 17 = .ok (.getfield 109, 3) := by decide +kernel
theorem dX1_serveClaimsOf_20 : decode cX1_serveClaimsOf 20 = .ok (.if_icmp .ge 63, 3) := by decide +kernel
theorem dX1_serveClaimsOf_23 : decode cX1_serveClaimsOf 23 = .ok (.aload_n 0, 1) := by decide +kernel
theorem dX1_serveClaimsOf_24 : decode cX1_serveClaimsOf 24 = .ok (.getfield 43, 3) := by decide +kernel
theorem dX1_serveClaimsOf_27 : decode cX1_serveClaimsOf 27 = .ok (.iload_n 3, 1) := by decide +kernel
theorem dX1_serveClaimsOf_28 : decode cX1_serveClaimsOf 28 = .ok (.iconst 0, 1) := by decide +kernel
theorem dX1_serveClaimsOf_29 : decode cX1_serveClaimsOf 29 = .ok (.invokevirtual 94, 3) := by decide +kernel
theorem dX1_serveClaimsOf_32 : decode cX1_serveClaimsOf 32 = .ok (.iload_n 1, 1) := by decide +kernel
theorem dX1_serveClaimsOf_33 : decode cX1_serveClaimsOf 33 = .ok (.if_icmp .ne 44, 3) := by decide +kernel
theorem dX1_serveClaimsOf_36 : decode cX1_serveClaimsOf 36 = .ok (.aload_n 0, 1) := by decide +kernel
theorem dX1_serveClaimsOf_37 : decode cX1_serveClaimsOf 37 = .ok (.getfield 43, 3) := by decide +kernel
theorem dX1_serveClaimsOf_40 : decode cX1_serveClaimsOf 40 = .ok (.iload_n 3, 1) := by decide +kernel
theorem dX1_serveClaimsOf_41 : decode cX1_serveClaimsOf 41 = .ok (.iconst 3, 1) := by decide +kernel
theorem dX1_serveClaimsOf_42 : decode cX1_serveClaimsOf 42 = .ok (.invokevirtual 94, 3) := by decide +kernel
theorem dX1_serveClaimsOf_45 : decode cX1_serveClaimsOf 45 = .ok (.iload_n 2, 1) := by decide +kernel
theorem dX1_serveClaimsOf_46 : decode cX1_serveClaimsOf 46 = .ok (.invokestatic 150, 3) := by decide +kernel
theorem dX1_serveClaimsOf_49 : decode cX1_serveClaimsOf 49 = .ok (.istore 4, 2) := by decide +kernel
theorem dX1_serveClaimsOf_51 : decode cX1_serveClaimsOf 51 = .ok (.iload_n 2, 1) := by decide +kernel
theorem dX1_serveClaimsOf_52 : decode cX1_serveClaimsOf 52 = .ok (.iload 4, 2) := by decide +kernel
theorem dX1_serveClaimsOf_54 : decode cX1_serveClaimsOf 54 = .ok (.isub, 1) := by decide +kernel
theorem dX1_serveClaimsOf_55 : decode cX1_serveClaimsOf 55 = .ok (.istore_n 2, 1) := by decide +kernel
theorem dX1_serveClaimsOf_56 : decode cX1_serveClaimsOf 56 = .ok (.aload_n 0, 1) := by decide +kernel
theorem dX1_serveClaimsOf_57 : decode cX1_serveClaimsOf 57 = .ok (.iconst 1, 1) := by decide +kernel
theorem dX1_serveClaimsOf_58 : decode cX1_serveClaimsOf 58 = .ok (.aload_n 0, 1) := by decide +kernel
theorem dX1_serveClaimsOf_59 : decode cX1_serveClaimsOf 59 = .ok (.getfield 43, 3) := by decide +kernel
theorem dX1_serveClaimsOf_62 : decode cX1_serveClaimsOf 62 = .ok (.iload_n 3, 1) := by decide +kernel
theorem dX1_serveClaimsOf_63 : decode cX1_serveClaimsOf 63 = .ok (.iload 4, 2) := by decide +kernel
theorem dX1_serveClaimsOf_65 : decode cX1_serveClaimsOf 65 = .ok (.aload_n 0, 1) := by decide +kernel
theorem dX1_serveClaimsOf_66 : decode cX1_serveClaimsOf 66 = .ok (.getfield 43, 3) := by decide +kernel
theorem dX1_serveClaimsOf_69 : decode cX1_serveClaimsOf 69 = .ok (.iload_n 3, 1) := by decide +kernel
theorem dX1_serveClaimsOf_70 : decode cX1_serveClaimsOf 70 = .ok (.iconst 4, 1) := by decide +kernel
theorem dX1_serveClaimsOf_71 : decode cX1_serveClaimsOf 71 = .ok (.invokevirtual 94, 3) := by decide +kernel
theorem dX1_serveClaimsOf_74 : decode cX1_serveClaimsOf 74 = .ok (.invokevirtual 155, 3) := by decide +kernel
theorem dX1_serveClaimsOf_77 : decode cX1_serveClaimsOf 77 = .ok (.iinc 3 1, 3) := by decide +kernel
theorem dX1_serveClaimsOf_80 : decode cX1_serveClaimsOf 80 = .ok (.goto (-68), 3) := by decide +kernel
theorem dX1_serveClaimsOf_83 : decode cX1_serveClaimsOf 83 = .ok (.aload_n 0, 1) := by decide +kernel
theorem dX1_serveClaimsOf_84 : decode cX1_serveClaimsOf 84 = .ok (.iload_n 1, 1) := by decide +kernel
theorem dX1_serveClaimsOf_85 : decode cX1_serveClaimsOf 85 = .ok (.invokevirtual 159, 3) := by decide +kernel
theorem dX1_serveClaimsOf_88 : decode cX1_serveClaimsOf 88 = .ok (.istore_n 3, 1) := by decide +kernel
theorem dX1_serveClaimsOf_89 : decode cX1_serveClaimsOf 89 = .ok (.iload_n 3, 1) := by decide +kernel
theorem dX1_serveClaimsOf_90 : decode cX1_serveClaimsOf 90 = .ok (.iconst (-1), 1) := by decide +kernel
theorem dX1_serveClaimsOf_91 : decode cX1_serveClaimsOf 91 = .ok (.if_icmp .ne 12, 3) := by decide +kernel
theorem dX1_serveClaimsOf_94 : decode cX1_serveClaimsOf 94 = .ok (.aload_n 0, 1) := by decide +kernel
theorem dX1_serveClaimsOf_95 : decode cX1_serveClaimsOf 95 = .ok (.iload_n 1, 1) := by decide +kernel
theorem dX1_serveClaimsOf_96 : decode cX1_serveClaimsOf 96 = .ok (.iload_n 2, 1) := by decide +kernel
theorem dX1_serveClaimsOf_97 : decode cX1_serveClaimsOf 97 = .ok (.invokevirtual 162, 3) := by decide +kernel
theorem dX1_serveClaimsOf_100 : decode cX1_serveClaimsOf 100 = .ok (.goto 23, 3) := by decide +kernel
theorem dX1_serveClaimsOf_103 : decode cX1_serveClaimsOf 103 = .ok (.aload_n 0, 1) := by decide +kernel
theorem dX1_serveClaimsOf_104 : decode cX1_serveClaimsOf 104 = .ok (.iconst 2, 1) := by decide +kernel
theorem dX1_serveClaimsOf_105 : decode cX1_serveClaimsOf 105 = .ok (.aload_n 0, 1) := by decide +kernel
theorem dX1_serveClaimsOf_106 : decode cX1_serveClaimsOf 106 = .ok (.getfield 46, 3) := by decide +kernel
theorem dX1_serveClaimsOf_109 : decode cX1_serveClaimsOf 109 = .ok (.iload_n 3, 1) := by decide +kernel
theorem dX1_serveClaimsOf_110 : decode cX1_serveClaimsOf 110 = .ok (.iload_n 2, 1) := by decide +kernel
theorem dX1_serveClaimsOf_111 : decode cX1_serveClaimsOf 111 = .ok (.aload_n 0, 1) := by decide +kernel
theorem dX1_serveClaimsOf_112 : decode cX1_serveClaimsOf 112 = .ok (.getfield 46, 3) := by decide +kernel
theorem dX1_serveClaimsOf_115 : decode cX1_serveClaimsOf 115 = .ok (.iload_n 3, 1) := by decide +kernel
theorem dX1_serveClaimsOf_116 : decode cX1_serveClaimsOf 116 = .ok (.iconst 5, 1) := by decide +kernel
theorem dX1_serveClaimsOf_117 : decode cX1_serveClaimsOf 117 = .ok (.invokevirtual 94, 3) := by decide +kernel
theorem dX1_serveClaimsOf_120 : decode cX1_serveClaimsOf 120 = .ok (.invokevirtual 155, 3) := by decide +kernel
theorem dX1_serveClaimsOf_123 : decode cX1_serveClaimsOf 123 = .ok (.return_, 1) := by decide +kernel
theorem dX1_exercisedOptionOf_0 : decode cX1_exercisedOptionOf 0 = .ok (.iconst 0, 1) := by decide +kernel
theorem dX1_exercisedOptionOf_1 : decode cX1_exercisedOptionOf 1 = .ok (.istore_n 2, 1) := by decide +kernel
theorem dX1_exercisedOptionOf_2 : decode cX1_exercisedOptionOf 2 = .ok (.iload_n 2, 1) := by decide +kernel
theorem dX1_exercisedOptionOf_3 : decode cX1_exercisedOptionOf 3 = .ok (.aload_n 0, 1) := by decide +kernel
theorem dX1_exercisedOptionOf_4 : decode cX1_exercisedOptionOf 4 = .ok (.getfield 46, 3) := by decide +kernel
theorem dX1_exercisedOptionOf_7 : decode cX1_exercisedOptionOf 7 = .ok (.getfield 109, 3) := by decide +kernel
theorem dX1_exercisedOptionOf_10 : decode cX1_exercisedOptionOf 10 = .ok (.if_icmp .ge 36, 3) := by decide +kernel
theorem dX1_exercisedOptionOf_13 : decode cX1_exercisedOptionOf 13 = .ok (.aload_n 0, 1) := by decide +kernel
theorem dX1_exercisedOptionOf_14 : decode cX1_exercisedOptionOf 14 = .ok (.getfield 46, 3) := by decide +kernel
theorem dX1_exercisedOptionOf_17 : decode cX1_exercisedOptionOf 17 = .ok (.iload_n 2, 1) := by decide +kernel
theorem dX1_exercisedOptionOf_18 : decode cX1_exercisedOptionOf 18 = .ok (.iconst 0, 1) := by decide +kernel
theorem dX1_exercisedOptionOf_19 : decode cX1_exercisedOptionOf 19 = .ok (.invokevirtual 94, 3) := by decide +kernel
theorem dX1_exercisedOptionOf_22 : decode cX1_exercisedOptionOf 22 = .ok (.iload_n 1, 1) := by decide +kernel
theorem dX1_exercisedOptionOf_23 : decode cX1_exercisedOptionOf 23 = .ok (.if_icmp .ne 17, 3) := by decide +kernel
theorem dX1_exercisedOptionOf_26 : decode cX1_exercisedOptionOf 26 = .ok (.aload_n 0, 1) := by decide +kernel
theorem dX1_exercisedOptionOf_27 : decode cX1_exercisedOptionOf 27 = .ok (.iload_n 2, 1) := by decide +kernel
theorem dX1_exercisedOptionOf_28 : decode cX1_exercisedOptionOf 28 = .ok (.aload_n 0, 1) := by decide +kernel
theorem dX1_exercisedOptionOf_29 : decode cX1_exercisedOptionOf 29 = .ok (.getfield 72, 3) := by decide +kernel
theorem dX1_exercisedOptionOf_32 : decode cX1_exercisedOptionOf 32 = .ok (.invokevirtual 165, 3) := by decide +kernel
theorem dX1_exercisedOptionOf_35 : decode cX1_exercisedOptionOf 35 = .ok (.ifCond .eq 5, 3) := by decide +kernel
theorem dX1_exercisedOptionOf_38 : decode cX1_exercisedOptionOf 38 = .ok (.iload_n 2, 1) := by decide +kernel
theorem dX1_exercisedOptionOf_39 : decode cX1_exercisedOptionOf 39 = .ok (.ireturn, 1) := by decide +kernel
theorem dX1_exercisedOptionOf_40 : decode cX1_exercisedOptionOf 40 = .ok (.iinc 2 1, 3) := by decide +kernel
theorem dX1_exercisedOptionOf_43 : decode cX1_exercisedOptionOf 43 = .ok (.goto (-41), 3) := by decide +kernel
theorem dX1_exercisedOptionOf_46 : decode cX1_exercisedOptionOf 46 = .ok (.iconst (-1), 1) := by decide +kernel
theorem dX1_exercisedOptionOf_47 : decode cX1_exercisedOptionOf 47 = .ok (.ireturn, 1) := by decide +kernel
theorem dX1_addClaim_0 : decode cX1_addClaim 0 = .ok (.aload_n 0, 1) := by decide +kernel
theorem dX1_addClaim_1 : decode cX1_addClaim 1 = .ok (.getfield 49, 3) := by decide +kernel
theorem dX1_addClaim_4 : decode cX1_addClaim 4 = .ok (.invokevirtual 90, 3) := by decide +kernel
theorem dX1_addClaim_7 : decode cX1_addClaim 7 = .ok (.istore 5, 2) := by decide +kernel
theorem dX1_addClaim_9 : decode cX1_addClaim 9 = .ok (.aload_n 0, 1) := by decide +kernel
theorem dX1_addClaim_10 : decode cX1_addClaim 10 = .ok (.getfield 49, 3) := by decide +kernel
theorem dX1_addClaim_13 : decode cX1_addClaim 13 = .ok (.iload 5, 2) := by decide +kernel
theorem dX1_addClaim_15 : decode cX1_addClaim 15 = .ok (.iconst 0, 1) := by decide +kernel
theorem dX1_addClaim_16 : decode cX1_addClaim 16 = .ok (.iload_n 1, 1) := by decide +kernel
theorem dX1_addClaim_17 : decode cX1_addClaim 17 = .ok (.invokevirtual 112, 3) := by decide +kernel
theorem dX1_addClaim_20 : decode cX1_addClaim 20 = .ok (.aload_n 0, 1) := by decide +kernel
theorem dX1_addClaim_21 : decode cX1_addClaim 21 = .ok (.getfield 49, 3) := by decide +kernel
theorem dX1_addClaim_24 : decode cX1_addClaim 24 = .ok (.iload 5, 2) := by decide +kernel
theorem dX1_addClaim_26 : decode cX1_addClaim 26 = .ok (.iconst 1, 1) := by decide +kernel
theorem dX1_addClaim_27 : decode cX1_addClaim 27 = .ok (.iload_n 2, 1) := by decide +kernel
theorem dX1_addClaim_28 : decode cX1_addClaim 28 = .ok (.invokevirtual 112, 3) := by decide +kernel
theorem dX1_addClaim_31 : decode cX1_addClaim 31 = .ok (.aload_n 0, 1) := by decide +kernel
theorem dX1_addClaim_32 : decode cX1_addClaim 32 = .ok (.getfield 49, 3) := by decide +kernel
theorem dX1_addClaim_35 : decode cX1_addClaim 35 = .ok (.iload 5, 2) := by decide +kernel
theorem dX1_addClaim_37 : decode cX1_addClaim 37 = .ok (.iconst 2, 1) := by decide +kernel
theorem dX1_addClaim_38 : decode cX1_addClaim 38 = .ok (.iload_n 3, 1) := by decide +kernel
theorem dX1_addClaim_39 : decode cX1_addClaim 39 = .ok (.invokevirtual 112, 3) := by decide +kernel
theorem dX1_addClaim_42 : decode cX1_addClaim 42 = .ok (.aload_n 0, 1) := by decide +kernel
theorem dX1_addClaim_43 : decode cX1_addClaim 43 = .ok (.getfield 49, 3) := by decide +kernel
theorem dX1_addClaim_46 : decode cX1_addClaim 46 = .ok (.iload 5, 2) := by decide +kernel
theorem dX1_addClaim_48 : decode cX1_addClaim 48 = .ok (.iconst 3, 1) := by decide +kernel
theorem dX1_addClaim_49 : decode cX1_addClaim 49 = .ok (.iload 4, 2) := by decide +kernel
theorem dX1_addClaim_51 : decode cX1_addClaim 51 = .ok (.invokevirtual 112, 3) := by decide +kernel
theorem dX1_addClaim_54 : decode cX1_addClaim 54 = .ok (.iload 5, 2) := by decide +kernel
theorem dX1_addClaim_56 : decode cX1_addClaim 56 = .ok (.ireturn, 1) := by decide +kernel
theorem dX1_claimOfOther_0 : decode cX1_claimOfOther 0 = .ok (.aload_n 2, 1) := by decide +kernel
theorem dX1_claimOfOther_1 : decode cX1_claimOfOther 1 = .ok (.iload_n 3, 1) := by decide +kernel
theorem dX1_claimOfOther_2 : decode cX1_claimOfOther 2 = .ok (.iconst 0, 1) := by decide +kernel
theorem dX1_claimOfOther_3 : decode cX1_claimOfOther 3 = .ok (.invokevirtual 94, 3) := by decide +kernel
theorem dX1_claimOfOther_6 : decode cX1_claimOfOther 6 = .ok (.istore 6, 2) := by decide +kernel
theorem dX1_claimOfOther_8 : decode cX1_claimOfOther 8 = .ok (.aload_n 2, 1) := by decide +kernel
theorem dX1_claimOfOther_9 : decode cX1_claimOfOther 9 = .ok (.iload_n 3, 1) := by decide +kernel
theorem dX1_claimOfOther_10 : decode cX1_claimOfOther 10 = .ok (.iconst 1, 1) := by decide +kernel
theorem dX1_claimOfOther_11 : decode cX1_claimOfOther 11 = .ok (.invokevirtual 94, 3) := by decide +kernel
theorem dX1_claimOfOther_14 : decode cX1_claimOfOther 14 = .ok (.istore 7, 2) := by decide +kernel
theorem dX1_claimOfOther_16 : decode cX1_claimOfOther 16 = .ok (.aload_n 2, 1) := by decide +kernel
theorem dX1_claimOfOther_17 : decode cX1_claimOfOther 17 = .ok (.iload_n 3, 1) := by decide +kernel
theorem dX1_claimOfOther_18 : decode cX1_claimOfOther 18 = .ok (.iconst 2, 1) := by decide +kernel
theorem dX1_claimOfOther_19 : decode cX1_claimOfOther 19 = .ok (.invokevirtual 94, 3) := by decide +kernel
theorem dX1_claimOfOther_22 : decode cX1_claimOfOther 22 = .ok (.istore 8, 2) := by decide +kernel
theorem dX1_claimOfOther_24 : decode cX1_claimOfOther 24 = .ok (.iload 4, 2) := by decide +kernel
theorem dX1_claimOfOther_26 : decode cX1_claimOfOther 26 = .ok (.bipush 100, 2) := by decide +kernel
theorem dX1_claimOfOther_28 : decode cX1_claimOfOther 28 = .ok (.aload_n 0, 1) := by decide +kernel
theorem dX1_claimOfOther_29 : decode cX1_claimOfOther 29 = .ok (.getfield 34, 3) := by decide +kernel
theorem dX1_claimOfOther_32 : decode cX1_claimOfOther 32 = .ok (.iload 6, 2) := by decide +kernel
theorem dX1_claimOfOther_34 : decode cX1_claimOfOther 34 = .ok (.iconst 4, 1) := by decide +kernel
theorem dX1_claimOfOther_35 : decode cX1_claimOfOther 35 = .ok (.invokevirtual 94, 3) := by decide +kernel
theorem dX1_claimOfOther_38 : decode cX1_claimOfOther 38 = .ok (.isub, 1) := by decide +kernel
theorem dX1_claimOfOther_39 : decode cX1_claimOfOther 39 = .ok (.invokestatic 169, 3) := by decide +kernel
theorem dX1_claimOfOther_42 : decode cX1_claimOfOther 42 = .ok (.istore 9, 2) := by decide +kernel
theorem dX1_claimOfOther_44 : decode cX1_claimOfOther 44 = .ok (.aload_n 0, 1) := by decide +kernel
theorem dX1_claimOfOther_45 : decode cX1_claimOfOther 45 = .ok (.iload 8, 2) := by decide +kernel
theorem dX1_claimOfOther_47 : decode cX1_claimOfOther 47 = .ok (.aload_n 0, 1) := by decide +kernel
theorem dX1_claimOfOther_48 : decode cX1_claimOfOther 48 = .ok (.getfield 52, 3) := by decide +kernel
theorem dX1_claimOfOther_51 : decode cX1_claimOfOther 51 = .ok (.getfield 109, 3) := by decide +kernel
theorem dX1_claimOfOther_54 : decode cX1_claimOfOther 54 = .ok (.iload 9, 2) := by decide +kernel
theorem dX1_claimOfOther_56 : decode cX1_claimOfOther 56 = .ok (.invokevirtual 172, 3) := by decide +kernel
theorem dX1_claimOfOther_59 : decode cX1_claimOfOther 59 = .ok (.istore 10, 2) := by decide +kernel
theorem dX1_claimOfOther_61 : decode cX1_claimOfOther 61 = .ok (.aload_n 0, 1) := by decide +kernel
theorem dX1_claimOfOther_62 : decode cX1_claimOfOther 62 = .ok (.aload_n 0, 1) := by decide +kernel
theorem dX1_claimOfOther_63 : decode cX1_claimOfOther 63 = .ok (.iload_n 1, 1) := by decide +kernel
theorem dX1_claimOfOther_64 : decode cX1_claimOfOther 64 = .ok (.iload 6, 2) := by decide +kernel
theorem dX1_claimOfOther_66 : decode cX1_claimOfOther 66 = .ok (.iload 7, 2) := by decide +kernel
theorem dX1_claimOfOther_68 : decode cX1_claimOfOther 68 = .ok (.iload 8, 2) := by decide +kernel
theorem dX1_claimOfOther_70 : decode cX1_claimOfOther 70 = .ok (.invokevirtual 176, 3) := by decide +kernel
theorem dX1_claimOfOther_73 : decode cX1_claimOfOther 73 = .ok (.iload 9, 2) := by decide +kernel
theorem dX1_claimOfOther_75 : decode cX1_claimOfOther 75 = .ok (.iload 10, 2) := by decide +kernel
theorem dX1_claimOfOther_77 : decode cX1_claimOfOther 77 = .ok (.invokevirtual 180, 3) := by decide +kernel
theorem dX1_claimOfOther_80 : decode cX1_claimOfOther 80 = .ok (.iload 10, 2) := by decide +kernel
theorem dX1_claimOfOther_82 : decode cX1_claimOfOther 82 = .ok (.iload 5, 2) := by decide +kernel
theorem dX1_claimOfOther_84 : decode cX1_claimOfOther 84 = .ok (.imul, 1) := by decide +kernel
theorem dX1_claimOfOther_85 : decode cX1_claimOfOther 85 = .ok (.istore 11, 2) := by decide +kernel
theorem dX1_claimOfOther_87 : decode cX1_claimOfOther 87 = .ok (.aload_n 0, 1) := by decide +kernel
theorem dX1_claimOfOther_88 : decode cX1_claimOfOther 88 = .ok (.iload 7, 2) := by decide +kernel
theorem dX1_claimOfOther_90 : decode cX1_claimOfOther 90 = .ok (.aload_n 0, 1) := by decide +kernel
theorem dX1_claimOfOther_91 : decode cX1_claimOfOther 91 = .ok (.getfield 34, 3) := by decide +kernel
theorem dX1_claimOfOther_94 : decode cX1_claimOfOther 94 = .ok (.iload 6, 2) := by decide +kernel
theorem dX1_claimOfOther_96 : decode cX1_claimOfOther 96 = .ok (.iconst 0, 1) := by decide +kernel
theorem dX1_claimOfOther_97 : decode cX1_claimOfOther 97 = .ok (.invokevirtual 94, 3) := by decide +kernel
theorem dX1_claimOfOther_100 : decode cX1_claimOfOther 100 = .ok (.iload 11, 2) := by decide +kernel
theorem dX1_claimOfOther_102 : decode cX1_claimOfOther 102 = .ok (.invokevirtual 147, 3) := by decide +kernel
theorem dX1_claimOfOther_105 : decode cX1_claimOfOther 105 = .ok (.iload 6, 2) := by decide +kernel
theorem dX1_claimOfOther_107 : decode cX1_claimOfOther 107 = .ok (.ifCond .lt 23, 3) := by decide +kernel
theorem dX1_claimOfOther_110 : decode cX1_claimOfOther 110 = .ok (.iload 6, 2) := by decide +kernel
theorem dX1_claimOfOther_112 : decode cX1_claimOfOther 112 = .ok (.bipush 10, 2) := by decide +kernel
theorem dX1_claimOfOther_114 : decode cX1_claimOfOther 114 = .ok (.if_icmp .ge 16, 3) := by decide +kernel
theorem dX1_claimOfOther_117 : decode cX1_claimOfOther 117 = .ok (.aload_n 0, 1) := by decide +kernel
theorem dX1_claimOfOther_118 : decode cX1_claimOfOther 118 = .ok (.getfield 40, 3) := by decide +kernel
theorem dX1_claimOfOther_121 : decode cX1_claimOfOther 121 = .ok (.iload 6, 2) := by decide +kernel
theorem dX1_claimOfOther_123 : decode cX1_claimOfOther 123 = .ok (.dup2, 1) := by decide +kernel
theorem dX1_claimOfOther_124 : decode cX1_claimOfOther 124 = .ok (.laload, 1) := by decide +kernel
theorem dX1_claimOfOther_125 : decode cX1_claimOfOther 125 = .ok (.iload 11, 2) := by decide +kernel
theorem dX1_claimOfOther_127 : decode cX1_claimOfOther 127 = .ok (.i2l, 1) := by decide +kernel
theorem dX1_claimOfOther_128 : decode cX1_claimOfOther 128 = .ok (.ladd, 1) := by decide +kernel
theorem dX1_claimOfOther_129 : decode cX1_claimOfOther 129 = .ok (.lastore, 1) := by decide +kernel
theorem dX1_claimOfOther_130 : decode cX1_claimOfOther 130 = .ok (.return_, 1) := by decide +kernel
theorem dX1_claimOfOwner_0 : decode cX1_claimOfOwner 0 = .ok (.aload_n 0, 1) := by decide +kernel
theorem dX1_claimOfOwner_1 : decode cX1_claimOfOwner 1 = .ok (.getfield 34, 3) := by decide +kernel
theorem dX1_claimOfOwner_4 : decode cX1_claimOfOwner 4 = .ok (.iload_n 1, 1) := by decide +kernel
theorem dX1_claimOfOwner_5 : decode cX1_claimOfOwner 5 = .ok (.iconst 0, 1) := by decide +kernel
theorem dX1_claimOfOwner_6 : decode cX1_claimOfOwner 6 = .ok (.invokevirtual 94, 3) := by decide +kernel
theorem dX1_claimOfOwner_9 : decode cX1_claimOfOwner 9 = .ok (.istore_n 3, 1) := by decide +kernel
theorem dX1_claimOfOwner_10 : decode cX1_claimOfOwner 10 = .ok (.aload_n 0, 1) := by decide +kernel
theorem dX1_claimOfOwner_11 : decode cX1_claimOfOwner 11 = .ok (.getfield 34, 3) := by decide +kernel
theorem dX1_claimOfOwner_14 : decode cX1_claimOfOwner 14 = .ok (.iload_n 1, 1) := by decide +kernel
theorem dX1_claimOfOwner_15 : decode cX1_claimOfOwner 15 = .ok (.iconst 1, 1) := by decide +kernel
theorem dX1_claimOfOwner_16 : decode cX1_claimOfOwner 16 = .ok (.invokevirtual 94, 3) := by decide +kernel
theorem dX1_claimOfOwner_19 : decode cX1_claimOfOwner 19 = .ok (.istore 4, 2) := by decide +kernel
theorem dX1_claimOfOwner_21 : decode cX1_claimOfOwner 21 = .ok (.aload_n 0, 1) := by decide +kernel
theorem dX1_claimOfOwner_22 : decode cX1_claimOfOwner 22 = .ok (.getfield 34, 3) := by decide +kernel
theorem dX1_claimOfOwner_25 : decode cX1_claimOfOwner 25 = .ok (.iload_n 1, 1) := by decide +kernel
theorem dX1_claimOfOwner_26 : decode cX1_claimOfOwner 26 = .ok (.bipush 6, 2) := by decide +kernel
theorem dX1_claimOfOwner_28 : decode cX1_claimOfOwner 28 = .ok (.invokevirtual 94, 3) := by decide +kernel
theorem dX1_claimOfOwner_31 : decode cX1_claimOfOwner 31 = .ok (.istore 5, 2) := by decide +kernel
theorem dX1_claimOfOwner_33 : decode cX1_claimOfOwner 33 = .ok (.aload_n 0, 1) := by decide +kernel
theorem dX1_claimOfOwner_34 : decode cX1_claimOfOwner 34 = .ok (.getfield 34, 3) := by decide +kernel
theorem dX1_claimOfOwner_37 : decode cX1_claimOfOwner 37 = .ok (.iload_n 1, 1) := by decide +kernel
theorem dX1_claimOfOwner_38 : decode cX1_claimOfOwner 38 = .ok (.iconst 4, 1) := by decide +kernel
theorem dX1_claimOfOwner_39 : decode cX1_claimOfOwner 39 = .ok (.invokevirtual 94, 3) := by decide +kernel
theorem dX1_claimOfOwner_42 : decode cX1_claimOfOwner 42 = .ok (.istore 6, 2) := by decide +kernel
theorem dX1_claimOfOwner_44 : decode cX1_claimOfOwner 44 = .ok (.aload_n 0, 1) := by decide +kernel
theorem dX1_claimOfOwner_45 : decode cX1_claimOfOwner 45 = .ok (.getfield 34, 3) := by decide +kernel
theorem dX1_claimOfOwner_48 : decode cX1_claimOfOwner 48 = .ok (.iload_n 1, 1) := by decide +kernel
theorem dX1_claimOfOwner_49 : decode cX1_claimOfOwner 49 = .ok (.iconst 5, 1) := by decide +kernel
theorem dX1_claimOfOwner_50 : decode cX1_claimOfOwner 50 = .ok (.invokevirtual 94, 3) := by decide +kernel
theorem dX1_claimOfOwner_53 : decode cX1_claimOfOwner 53 = .ok (.istore 7, 2) := by decide +kernel
theorem dX1_claimOfOwner_55 : decode cX1_claimOfOwner 55 = .ok (.aload_n 0, 1) := by decide +kernel
theorem dX1_claimOfOwner_56 : decode cX1_claimOfOwner 56 = .ok (.iload 4, 2) := by decide +kernel
theorem dX1_claimOfOwner_58 : decode cX1_claimOfOwner 58 = .ok (.iload 7, 2) := by decide +kernel
theorem dX1_claimOfOwner_60 : decode cX1_claimOfOwner 60 = .ok (.iload_n 2, 1) := by decide +kernel
theorem dX1_claimOfOwner_61 : decode cX1_claimOfOwner 61 = .ok (.invokevirtual 172, 3) := by decide +kernel
theorem dX1_claimOfOwner_64 : decode cX1_claimOfOwner 64 = .ok (.istore 8, 2) := by decide +kernel
theorem dX1_claimOfOwner_66 : decode cX1_claimOfOwner 66 = .ok (.aload_n 0, 1) := by decide +kernel
theorem dX1_claimOfOwner_67 : decode cX1_claimOfOwner 67 = .ok (.iload 7, 2) := by decide +kernel
theorem dX1_claimOfOwner_69 : decode cX1_claimOfOwner 69 = .ok (.aload_n 0, 1) := by decide +kernel
theorem dX1_claimOfOwner_70 : decode cX1_claimOfOwner 70 = .ok (.getfield 52, 3) := by decide +kernel
theorem dX1_claimOfOwner_73 : decode cX1_claimOfOwner 73 = .ok (.getfield 109, 3) := by decide +kernel
theorem dX1_claimOfOwner_76 : decode cX1_claimOfOwner 76 = .ok (.iload 8, 2) := by decide +kernel
theorem dX1_claimOfOwner_78 : decode cX1_claimOfOwner 78 = .ok (.invokevirtual 172, 3) := by decide +kernel
theorem dX1_claimOfOwner_81 : decode cX1_claimOfOwner 81 = .ok (.istore 9, 2) := by decide +kernel
theorem dX1_claimOfOwner_83 : decode cX1_claimOfOwner 83 = .ok (.iload 9, 2) := by decide +kernel
theorem dX1_claimOfOwner_85 : decode cX1_claimOfOwner 85 = .ok (.iload 8, 2) := by decide +kernel
theorem dX1_claimOfOwner_87 : decode cX1_claimOfOwner 87 = .ok (.iload 5, 2) := by decide +kernel
theorem dX1_claimOfOwner_89 : decode cX1_claimOfOwner 89 = .ok (.iload 6, 2) := by decide +kernel
theorem dX1_claimOfOwner_91 : decode cX1_claimOfOwner 91 = .ok (.invokestatic 183, 3) := by decide +kernel
theorem dX1_claimOfOwner_94 : decode cX1_claimOfOwner 94 = .ok (.istore 10, 2) := by decide +kernel
theorem dX1_claimOfOwner_96 : decode cX1_claimOfOwner 96 = .ok (.aload_n 0, 1) := by decide +kernel
theorem dX1_claimOfOwner_97 : decode cX1_claimOfOwner 97 = .ok (.iconst 0, 1) := by decide +kernel
theorem dX1_claimOfOwner_98 : decode cX1_claimOfOwner 98 = .ok (.iload_n 1, 1) := by decide +kernel
theorem dX1_claimOfOwner_99 : decode cX1_claimOfOwner 99 = .ok (.iload_n 3, 1) := by decide +kernel
theorem dX1_claimOfOwner_100 : decode cX1_claimOfOwner 100 = .ok (.iload 4, 2) := by decide +kernel
theorem dX1_claimOfOwner_102 : decode cX1_claimOfOwner 102 = .ok (.invokevirtual 176, 3) := by decide +kernel
theorem dX1_claimOfOwner_105 : decode cX1_claimOfOwner 105 = .ok (.istore 11, 2) := by decide +kernel
theorem dX1_claimOfOwner_107 : decode cX1_claimOfOwner 107 = .ok (.aload_n 0, 1) := by decide +kernel
theorem dX1_claimOfOwner_108 : decode cX1_claimOfOwner 108 = .ok (.iload 11, 2) := by decide +kernel
theorem dX1_claimOfOwner_110 : decode cX1_claimOfOwner 110 = .ok (.iload_n 2, 1) := by decide +kernel
theorem dX1_claimOfOwner_111 : decode cX1_claimOfOwner 111 = .ok (.iload 10, 2) := by decide +kernel
theorem dX1_claimOfOwner_113 : decode cX1_claimOfOwner 113 = .ok (.invokevirtual 180, 3) := by decide +kernel
theorem dX1_claimOfOwner_116 : decode cX1_claimOfOwner 116 = .ok (.iload 10, 2) := by decide +kernel
theorem dX1_claimOfOwner_118 : decode cX1_claimOfOwner 118 = .ok (.iload 5, 2) := by decide +kernel
theorem dX1_claimOfOwner_120 : decode cX1_claimOfOwner 120 = .ok (.invokestatic 169, 3) := by decide +kernel
theorem dX1_claimOfOwner_123 : decode cX1_claimOfOwner 123 = .ok (.istore 12, 2) := by decide +kernel
theorem dX1_claimOfOwner_125 : decode cX1_claimOfOwner 125 = .ok (.aload_n 0, 1) := by decide +kernel
theorem dX1_claimOfOwner_126 : decode cX1_claimOfOwner 126 = .ok (.iload 11, 2) := by decide +kernel
theorem dX1_claimOfOwner_128 : decode cX1_claimOfOwner 128 = .ok (.iload_n 3, 1) := by decide +kernel
theorem dX1_claimOfOwner_129 : decode cX1_claimOfOwner 129 = .ok (.iload 12, 2) := by decide +kernel
theorem dX1_claimOfOwner_131 : decode cX1_claimOfOwner 131 = .ok (.invokevirtual 186, 3) := by decide +kernel
theorem dX1_claimOfOwner_134 : decode cX1_claimOfOwner 134 = .ok (.aload_n 0, 1) := by decide +kernel
theorem dX1_claimOfOwner_135 : decode cX1_claimOfOwner 135 = .ok (.iload 11, 2) := by decide +kernel
theorem dX1_claimOfOwner_137 : decode cX1_claimOfOwner 137 = .ok (.iload 7, 2) := by decide +kernel
theorem dX1_claimOfOwner_139 : decode cX1_claimOfOwner 139 = .ok (.iload 10, 2) := by decide +kernel
theorem dX1_claimOfOwner_141 : decode cX1_claimOfOwner 141 = .ok (.iload 12, 2) := by decide +kernel
theorem dX1_claimOfOwner_143 : decode cX1_claimOfOwner 143 = .ok (.isub, 1) := by decide +kernel
theorem dX1_claimOfOwner_144 : decode cX1_claimOfOwner 144 = .ok (.iload 6, 2) := by decide +kernel
theorem dX1_claimOfOwner_146 : decode cX1_claimOfOwner 146 = .ok (.invokestatic 169, 3) := by decide +kernel
theorem dX1_claimOfOwner_149 : decode cX1_claimOfOwner 149 = .ok (.invokevirtual 189, 3) := by decide +kernel
theorem dX1_claimOfOwner_152 : decode cX1_claimOfOwner 152 = .ok (.return_, 1) := by decide +kernel
theorem dX1_percentOf_0 : decode cX1_percentOf 0 = .ok (.iload_n 0, 1) := by decide +kernel
theorem dX1_percentOf_1 : decode cX1_percentOf 1 = .ok (.iload_n 1, 1) := by decide +kernel
theorem dX1_percentOf_2 : decode cX1_percentOf 2 = .ok (.imul, 1) := by decide +kernel
theorem dX1_percentOf_3 : decode cX1_percentOf 3 = .ok (.bipush 100, 2) := by decide +kernel
theorem dX1_percentOf_5 : decode cX1_percentOf 5 = .ok (.idiv, 1) := by decide +kernel
theorem dX1_percentOf_6 : decode cX1_percentOf 6 = .ok (.ireturn, 1) := by decide +kernel
theorem dX1_mostThatLowersBy_0 : decode cX1_mostThatLowersBy 0 = .ok (.iconst 0, 1) := by decide +kernel
theorem dX1_mostThatLowersBy_1 : decode cX1_mostThatLowersBy 1 = .ok (.istore 4, 2) := by decide +kernel
theorem dX1_mostThatLowersBy_3 : decode cX1_mostThatLowersBy 3 = .ok (.iload_n 1, 1) := by decide +kernel
theorem dX1_mostThatLowersBy_4 : decode cX1_mostThatLowersBy 4 = .ok (.istore 5, 2) := by decide +kernel
theorem dX1_mostThatLowersBy_6 : decode cX1_mostThatLowersBy 6 = .ok (.iconst 0, 1) := by decide +kernel
theorem dX1_mostThatLowersBy_7 : decode cX1_mostThatLowersBy 7 = .ok (.istore 6, 2) := by decide +kernel
theorem dX1_mostThatLowersBy_9 : decode cX1_mostThatLowersBy 9 = .ok (.iload 6, 2) := by decide +kernel
theorem dX1_mostThatLowersBy_11 : decode cX1_mostThatLowersBy 11 = .ok (.bipush 32, 2) := by decide +kernel
theorem dX1_mostThatLowersBy_13 : decode cX1_mostThatLowersBy 13 = .ok (.if_icmp .ge 64, 3) := by decide +kernel
theorem dX1_mostThatLowersBy_16 : decode cX1_mostThatLowersBy 16 = .ok (.iload 4, 2) := by decide +kernel
theorem dX1_mostThatLowersBy_18 : decode cX1_mostThatLowersBy 18 = .ok (.iload 5, 2) := by decide +kernel
theorem dX1_mostThatLowersBy_20 : decode cX1_mostThatLowersBy 20 = .ok (.if_icmp .ge 57, 3) := by decide +kernel
theorem dX1_mostThatLowersBy_23 : decode cX1_mostThatLowersBy 23 = .ok (.iload 4, 2) := by decide +kernel
theorem dX1_mostThatLowersBy_25 : decode cX1_mostThatLowersBy 25 = .ok (.iload 5, 2) := by decide +kernel
theorem dX1_mostThatLowersBy_27 : decode cX1_mostThatLowersBy 27 = .ok (.iadd, 1) := by decide +kernel
theorem dX1_mostThatLowersBy_28 : decode cX1_mostThatLowersBy 28 = .ok (.iconst 1, 1) := by decide +kernel
theorem dX1_mostThatLowersBy_29 : decode cX1_mostThatLowersBy 29 = .ok (.iadd, 1) := by decide +kernel
theorem dX1_mostThatLowersBy_30 : decode cX1_mostThatLowersBy 30 = .ok (.iconst 2, 1) := by decide +kernel
theorem dX1_mostThatLowersBy_31 : decode cX1_mostThatLowersBy 31 = .ok (.idiv, 1) := by decide +kernel
theorem dX1_mostThatLowersBy_32 : decode cX1_mostThatLowersBy 32 = .ok (.istore 7, 2) := by decide +kernel
theorem dX1_mostThatLowersBy_34 : decode cX1_mostThatLowersBy 34 = .ok (.iload 7, 2) := by decide +kernel
theorem dX1_mostThatLowersBy_36 : decode cX1_mostThatLowersBy 36 = .ok (.iload 7, 2) := by decide +kernel
theorem dX1_mostThatLowersBy_38 : decode cX1_mostThatLowersBy 38 = .ok (.iload_n 2, 1) := by decide +kernel
theorem dX1_mostThatLowersBy_39 : decode cX1_mostThatLowersBy 39 = .ok (.invokestatic 169, 3) := by decide +kernel
theorem dX1_mostThatLowersBy_42 : decode cX1_mostThatLowersBy 42 = .ok (.isub, 1) := by decide +kernel
theorem dX1_mostThatLowersBy_43 : decode cX1_mostThatLowersBy 43 = .ok (.istore 8, 2) := by decide +kernel
theorem dX1_mostThatLowersBy_45 : decode cX1_mostThatLowersBy 45 = .ok (.iload 7, 2) := by decide +kernel
theorem dX1_mostThatLowersBy_47 : decode cX1_mostThatLowersBy 47 = .ok (.iload 8, 2) := by decide +kernel
theorem dX1_mostThatLowersBy_49 : decode cX1_mostThatLowersBy 49 = .ok (.iload_n 3, 1) := by decide +kernel
theorem dX1_mostThatLowersBy_50 : decode cX1_mostThatLowersBy 50 = .ok (.invokestatic 169, 3) := by decide +kernel
theorem dX1_mostThatLowersBy_53 : decode cX1_mostThatLowersBy 53 = .ok (.isub, 1) := by decide +kernel
theorem dX1_mostThatLowersBy_54 : decode cX1_mostThatLowersBy 54 = .ok (.iload_n 0, 1) := by decide +kernel
theorem dX1_mostThatLowersBy_55 : decode cX1_mostThatLowersBy 55 = .ok (.if_icmp .gt 10, 3) := by decide +kernel
theorem dX1_mostThatLowersBy_58 : decode cX1_mostThatLowersBy 58 = .ok (.iload 7, 2) := by decide +kernel
theorem dX1_mostThatLowersBy_60 : decode cX1_mostThatLowersBy 60 = .ok (.istore 4, 2) := by decide +kernel
theorem dX1_mostThatLowersBy_62 : decode cX1_mostThatLowersBy 62 = .ok (.goto 9, 3) := by decide +kernel
theorem dX1_mostThatLowersBy_65 : decode cX1_mostThatLowersBy 65 = .ok (.iload 7, 2) := by decide +kernel
theorem dX1_mostThatLowersBy_67 : decode cX1_mostThatLowersBy 67 = .ok (.iconst 1, 1) := by decide +kernel
theorem dX1_mostThatLowersBy_68 : decode cX1_mostThatLowersBy 68 = .ok (.isub, 1) := by decide +kernel
theorem dX1_mostThatLowersBy_69 : decode cX1_mostThatLowersBy 69 = .ok (.istore 5, 2) := by decide +kernel
theorem dX1_mostThatLowersBy_71 : decode cX1_mostThatLowersBy 71 = .ok (.iinc 6 1, 3) := by decide +kernel
theorem dX1_mostThatLowersBy_74 : decode cX1_mostThatLowersBy 74 = .ok (.goto (-65), 3) := by decide +kernel
theorem dX1_mostThatLowersBy_77 : decode cX1_mostThatLowersBy 77 = .ok (.iload 4, 2) := by decide +kernel
theorem dX1_mostThatLowersBy_79 : decode cX1_mostThatLowersBy 79 = .ok (.ireturn, 1) := by decide +kernel
theorem dX1_leastSpare_0 : decode cX1_leastSpare 0 = .ok (.iload_n 3, 1) := by decide +kernel
theorem dX1_leastSpare_1 : decode cX1_leastSpare 1 = .ok (.istore 4, 2) := by decide +kernel
theorem dX1_leastSpare_3 : decode cX1_leastSpare 3 = .ok (.iload_n 1, 1) := by decide +kernel
theorem dX1_leastSpare_4 : decode cX1_leastSpare 4 = .ok (.istore 5, 2) := by decide +kernel
theorem dX1_leastSpare_6 : decode cX1_leastSpare 6 = .ok (.iload 5, 2) := by decide +kernel
theorem dX1_leastSpare_8 : decode cX1_leastSpare 8 = .ok (.iload_n 2, 1) := by decide +kernel
theorem dX1_leastSpare_9 : decode cX1_leastSpare 9 = .ok (.if_icmp .ge 57, 3) := by decide +kernel
theorem dX1_leastSpare_12 : decode cX1_leastSpare 12 = .ok (.iload 5, 2) := by decide +kernel
theorem dX1_leastSpare_14 : decode cX1_leastSpare 14 = .ok (.aload_n 0, 1) := by decide +kernel
theorem dX1_leastSpare_15 : decode cX1_leastSpare 15 = .ok (.getfield 52, 3) := by decide +kernel
theorem dX1_leastSpare_18 : decode cX1_leastSpare 18 = .ok (.getfield 109, 3) := by decide +kernel
theorem dX1_leastSpare_21 : decode cX1_leastSpare 21 = .ok (.if_icmp .ge 45, 3) := by decide +kernel
theorem dX1_leastSpare_24 : decode cX1_leastSpare 24 = .ok (.aload_n 0, 1) := by decide +kernel
theorem dX1_leastSpare_25 : decode cX1_leastSpare 25 = .ok (.getfield 52, 3) := by decide +kernel
theorem dX1_leastSpare_28 : decode cX1_leastSpare 28 = .ok (.iload 5, 2) := by decide +kernel
theorem dX1_leastSpare_30 : decode cX1_leastSpare 30 = .ok (.iconst 2, 1) := by decide +kernel
theorem dX1_leastSpare_31 : decode cX1_leastSpare 31 = .ok (.invokevirtual 94, 3) := by decide +kernel
theorem dX1_leastSpare_34 : decode cX1_leastSpare 34 = .ok (.aload_n 0, 1) := by decide +kernel
theorem dX1_leastSpare_35 : decode cX1_leastSpare 35 = .ok (.getfield 14, 3) := by decide +kernel
theorem dX1_leastSpare_38 : decode cX1_leastSpare 38 = .ok (.iload 5, 2) := by decide +kernel
theorem dX1_leastSpare_40 : decode cX1_leastSpare 40 = .ok (.iconst 1, 1) := by decide +kernel
theorem dX1_leastSpare_41 : decode cX1_leastSpare 41 = .ok (.invokevirtual 94, 3) := by decide +kernel
theorem dX1_leastSpare_44 : decode cX1_leastSpare 44 = .ok (.isub, 1) := by decide +kernel
theorem dX1_leastSpare_45 : decode cX1_leastSpare 45 = .ok (.istore 6, 2) := by decide +kernel
theorem dX1_leastSpare_47 : decode cX1_leastSpare 47 = .ok (.iload 4, 2) := by decide +kernel
theorem dX1_leastSpare_49 : decode cX1_leastSpare 49 = .ok (.iload 6, 2) := by decide +kernel
theorem dX1_leastSpare_51 : decode cX1_leastSpare 51 = .ok (.iconst 0, 1) := by decide +kernel
theorem dX1_leastSpare_52 : decode cX1_leastSpare 52 = .ok (.invokestatic 192, 3) := by decide +kernel
theorem dX1_leastSpare_55 : decode cX1_leastSpare 55 = .ok (.invokestatic 150, 3) := by decide +kernel
theorem dX1_leastSpare_58 : decode cX1_leastSpare 58 = .ok (.istore 4, 2) := by decide +kernel
theorem dX1_leastSpare_60 : decode cX1_leastSpare 60 = .ok (.iinc 5 1, 3) := by decide +kernel
theorem dX1_leastSpare_63 : decode cX1_leastSpare 63 = .ok (.goto (-57), 3) := by decide +kernel
theorem dX1_leastSpare_66 : decode cX1_leastSpare 66 = .ok (.iload 4, 2) := by decide +kernel
theorem dX1_leastSpare_68 : decode cX1_leastSpare 68 = .ok (.ireturn, 1) := by decide +kernel
theorem dX1_divert_0 : decode cX1_divert 0 = .ok (.aload_n 0, 1) := by decide +kernel
theorem dX1_divert_1 : decode cX1_divert 1 = .ok (.getfield 49, 3) := by decide +kernel
theorem dX1_divert_4 : decode cX1_divert 4 = .ok (.iload_n 1, 1) := by decide +kernel
theorem dX1_divert_5 : decode cX1_divert 5 = .ok (.iconst 3, 1) := by decide +kernel
theorem dX1_divert_6 : decode cX1_divert 6 = .ok (.invokevirtual 94, 3) := by decide +kernel
theorem dX1_divert_9 : decode cX1_divert 9 = .ok (.istore 4, 2) := by decide +kernel
theorem dX1_divert_11 : decode cX1_divert 11 = .ok (.aload_n 0, 1) := by decide +kernel
theorem dX1_divert_12 : decode cX1_divert 12 = .ok (.getfield 49, 3) := by decide +kernel
theorem dX1_divert_15 : decode cX1_divert 15 = .ok (.iload_n 1, 1) := by decide +kernel
theorem dX1_divert_16 : decode cX1_divert 16 = .ok (.iconst 4, 1) := by decide +kernel
theorem dX1_divert_17 : decode cX1_divert 17 = .ok (.iload_n 2, 1) := by decide +kernel
theorem dX1_divert_18 : decode cX1_divert 18 = .ok (.invokevirtual 112, 3) := by decide +kernel
theorem dX1_divert_21 : decode cX1_divert 21 = .ok (.aload_n 0, 1) := by decide +kernel
theorem dX1_divert_22 : decode cX1_divert 22 = .ok (.getfield 49, 3) := by decide +kernel
theorem dX1_divert_25 : decode cX1_divert 25 = .ok (.iload_n 1, 1) := by decide +kernel
theorem dX1_divert_26 : decode cX1_divert 26 = .ok (.iconst 5, 1) := by decide +kernel
theorem dX1_divert_27 : decode cX1_divert 27 = .ok (.iload_n 3, 1) := by decide +kernel
theorem dX1_divert_28 : decode cX1_divert 28 = .ok (.invokevirtual 112, 3) := by decide +kernel
theorem dX1_divert_31 : decode cX1_divert 31 = .ok (.aload_n 0, 1) := by decide +kernel
theorem dX1_divert_32 : decode cX1_divert 32 = .ok (.getfield 52, 3) := by decide +kernel
theorem dX1_divert_35 : decode cX1_divert 35 = .ok (.iload 4, 2) := by decide +kernel
theorem dX1_divert_37 : decode cX1_divert 37 = .ok (.iconst 3, 1) := by decide +kernel
theorem dX1_divert_38 : decode cX1_divert 38 = .ok (.iload_n 3, 1) := by decide +kernel
theorem dX1_divert_39 : decode cX1_divert 39 = .ok (.invokevirtual 132, 3) := by decide +kernel
theorem dX1_divert_42 : decode cX1_divert 42 = .ok (.aload_n 0, 1) := by decide +kernel
theorem dX1_divert_43 : decode cX1_divert 43 = .ok (.getfield 52, 3) := by decide +kernel
theorem dX1_divert_46 : decode cX1_divert 46 = .ok (.iload 4, 2) := by decide +kernel
theorem dX1_divert_48 : decode cX1_divert 48 = .ok (.iconst 2, 1) := by decide +kernel
theorem dX1_divert_49 : decode cX1_divert 49 = .ok (.iload_n 3, 1) := by decide +kernel
theorem dX1_divert_50 : decode cX1_divert 50 = .ok (.ineg, 1) := by decide +kernel
theorem dX1_divert_51 : decode cX1_divert 51 = .ok (.invokevirtual 195, 3) := by decide +kernel
theorem dX1_divert_54 : decode cX1_divert 54 = .ok (.aload_n 0, 1) := by decide +kernel
theorem dX1_divert_55 : decode cX1_divert 55 = .ok (.getfield 34, 3) := by decide +kernel
theorem dX1_divert_58 : decode cX1_divert 58 = .ok (.aload_n 0, 1) := by decide +kernel
theorem dX1_divert_59 : decode cX1_divert 59 = .ok (.getfield 49, 3) := by decide +kernel
theorem dX1_divert_62 : decode cX1_divert 62 = .ok (.iload_n 1, 1) := by decide +kernel
theorem dX1_divert_63 : decode cX1_divert 63 = .ok (.iconst 1, 1) := by decide +kernel
theorem dX1_divert_64 : decode cX1_divert 64 = .ok (.invokevirtual 94, 3) := by decide +kernel
theorem dX1_divert_67 : decode cX1_divert 67 = .ok (.bipush 7, 2) := by decide +kernel
theorem dX1_divert_69 : decode cX1_divert 69 = .ok (.iload_n 3, 1) := by decide +kernel
theorem dX1_divert_70 : decode cX1_divert 70 = .ok (.invokevirtual 132, 3) := by decide +kernel
theorem dX1_divert_73 : decode cX1_divert 73 = .ok (.aload_n 0, 1) := by decide +kernel
theorem dX1_divert_74 : decode cX1_divert 74 = .ok (.getfield 27, 3) := by decide +kernel
theorem dX1_divert_77 : decode cX1_divert 77 = .ok (.aload_n 0, 1) := by decide +kernel
theorem dX1_divert_78 : decode cX1_divert 78 = .ok (.getfield 49, 3) := by decide +kernel
theorem dX1_divert_81 : decode cX1_divert 81 = .ok (.iload_n 1, 1) := by decide +kernel
theorem dX1_divert_82 : decode cX1_divert 82 = .ok (.iconst 2, 1) := by decide +kernel
theorem dX1_divert_83 : decode cX1_divert 83 = .ok (.invokevirtual 94, 3) := by decide +kernel
theorem dX1_divert_86 : decode cX1_divert 86 = .ok (.iconst 1, 1) := by decide +kernel
theorem dX1_divert_87 : decode cX1_divert 87 = .ok (.iload_n 3, 1) := by decide +kernel
theorem dX1_divert_88 : decode cX1_divert 88 = .ok (.invokevirtual 132, 3) := by decide +kernel
theorem dX1_divert_91 : decode cX1_divert 91 = .ok (.return_, 1) := by decide +kernel
theorem dX1_putInBank_0 : decode cX1_putInBank 0 = .ok (.aload_n 0, 1) := by decide +kernel
theorem dX1_putInBank_1 : decode cX1_putInBank 1 = .ok (.getfield 49, 3) := by decide +kernel
theorem dX1_putInBank_4 : decode cX1_putInBank 4 = .ok (.iload_n 1, 1) := by decide +kernel
theorem dX1_putInBank_5 : decode cX1_putInBank 5 = .ok (.bipush 6, 2) := by decide +kernel
theorem dX1_putInBank_7 : decode cX1_putInBank 7 = .ok (.iload_n 3, 1) := by decide +kernel
theorem dX1_putInBank_8 : decode cX1_putInBank 8 = .ok (.invokevirtual 112, 3) := by decide +kernel
theorem dX1_putInBank_11 : decode cX1_putInBank 11 = .ok (.aload_n 0, 1) := by decide +kernel
theorem dX1_putInBank_12 : decode cX1_putInBank 12 = .ok (.getfield 27, 3) := by decide +kernel
theorem dX1_putInBank_15 : decode cX1_putInBank 15 = .ok (.iload_n 2, 1) := by decide +kernel
theorem dX1_putInBank_16 : decode cX1_putInBank 16 = .ok (.iconst 0, 1) := by decide +kernel
theorem dX1_putInBank_17 : decode cX1_putInBank 17 = .ok (.iload_n 3, 1) := by decide +kernel
theorem dX1_putInBank_18 : decode cX1_putInBank 18 = .ok (.invokevirtual 132, 3) := by decide +kernel
theorem dX1_putInBank_21 : decode cX1_putInBank 21 = .ok (.aload_n 0, 1) := by decide +kernel
theorem dX1_putInBank_22 : decode cX1_putInBank 22 = .ok (.dup, 1) := by decide +kernel
theorem dX1_putInBank_23 : decode cX1_putInBank 23 = .ok (.getfield 78, 3) := by decide +kernel
theorem dX1_putInBank_26 : decode cX1_putInBank 26 = .ok (.iload_n 3, 1) := by decide +kernel
theorem dX1_putInBank_27 : decode cX1_putInBank 27 = .ok (.iadd, 1) := by decide +kernel
theorem dX1_putInBank_28 : decode cX1_putInBank 28 = .ok (.putfield 78, 3) := by decide +kernel
theorem dX1_putInBank_31 : decode cX1_putInBank 31 = .ok (.return_, 1) := by decide +kernel
theorem dX1_giveBack_0 : decode cX1_giveBack 0 = .ok (.aload_n 0, 1) := by decide +kernel
theorem dX1_giveBack_1 : decode cX1_giveBack 1 = .ok (.getfield 49, 3) := by decide +kernel
theorem dX1_giveBack_4 : decode cX1_giveBack 4 = .ok (.iload_n 1, 1) := by decide +kernel
theorem dX1_giveBack_5 : decode cX1_giveBack 5 = .ok (.bipush 7, 2) := by decide +kernel
theorem dX1_giveBack_7 : decode cX1_giveBack 7 = .ok (.iload_n 3, 1) := by decide +kernel
theorem dX1_giveBack_8 : decode cX1_giveBack 8 = .ok (.invokevirtual 112, 3) := by decide +kernel
theorem dX1_giveBack_11 : decode cX1_giveBack 11 = .ok (.aload_n 0, 1) := by decide +kernel
theorem dX1_giveBack_12 : decode cX1_giveBack 12 = .ok (.getfield 52, 3) := by decide +kernel
theorem dX1_giveBack_15 : decode cX1_giveBack 15 = .ok (.iload_n 2, 1) := by decide +kernel
theorem dX1_giveBack_16 : decode cX1_giveBack 16 = .ok (.iconst 4, 1) := by decide +kernel
theorem dX1_giveBack_17 : decode cX1_giveBack 17 = .ok (.iload_n 3, 1) := by decide +kernel
theorem dX1_giveBack_18 : decode cX1_giveBack 18 = .ok (.invokevirtual 132, 3) := by decide +kernel
theorem dX1_giveBack_21 : decode cX1_giveBack 21 = .ok (.aload_n 0, 1) := by decide +kernel
theorem dX1_giveBack_22 : decode cX1_giveBack 22 = .ok (.getfield 52, 3) := by decide +kernel
theorem dX1_giveBack_25 : decode cX1_giveBack 25 = .ok (.iload_n 2, 1) := by decide +kernel
theorem dX1_giveBack_26 : decode cX1_giveBack 26 = .ok (.iconst 2, 1) := by decide +kernel
theorem dX1_giveBack_27 : decode cX1_giveBack 27 = .ok (.iload_n 3, 1) := by decide +kernel
theorem dX1_giveBack_28 : decode cX1_giveBack 28 = .ok (.invokevirtual 195, 3) := by decide +kernel
theorem dX1_giveBack_31 : decode cX1_giveBack 31 = .ok (.aload_n 0, 1) := by decide +kernel
theorem dX1_giveBack_32 : decode cX1_giveBack 32 = .ok (.getfield 34, 3) := by decide +kernel
theorem dX1_giveBack_35 : decode cX1_giveBack 35 = .ok (.aload_n 0, 1) := by decide +kernel
theorem dX1_giveBack_36 : decode cX1_giveBack 36 = .ok (.getfield 49, 3) := by decide +kernel
theorem dX1_giveBack_39 : decode cX1_giveBack 39 = .ok (.iload_n 1, 1) := by decide +kernel
theorem dX1_giveBack_40 : decode cX1_giveBack 40 = .ok (.iconst 1, 1) := by decide +kernel
theorem dX1_giveBack_41 : decode cX1_giveBack 41 = .ok (.invokevirtual 94, 3) := by decide +kernel
theorem dX1_giveBack_44 : decode cX1_giveBack 44 = .ok (.bipush 8, 2) := by decide +kernel
theorem dX1_giveBack_46 : decode cX1_giveBack 46 = .ok (.iload_n 3, 1) := by decide +kernel
theorem dX1_giveBack_47 : decode cX1_giveBack 47 = .ok (.invokevirtual 132, 3) := by decide +kernel
theorem dX1_giveBack_50 : decode cX1_giveBack 50 = .ok (.return_, 1) := by decide +kernel
theorem dX1_remember_0 : decode cX1_remember 0 = .ok (.aload_n 0, 1) := by decide +kernel
theorem dX1_remember_1 : decode cX1_remember 1 = .ok (.getfield 55, 3) := by decide +kernel
theorem dX1_remember_4 : decode cX1_remember 4 = .ok (.getfield 109, 3) := by decide +kernel
theorem dX1_remember_7 : decode cX1_remember 7 = .ok (.bipush 24, 2) := by decide +kernel
theorem dX1_remember_9 : decode cX1_remember 9 = .ok (.if_icmp .lt 11, 3) := by decide +kernel
theorem dX1_remember_12 : decode cX1_remember 12 = .ok (.aload_n 0, 1) := by decide +kernel
theorem dX1_remember_13 : decode cX1_remember 13 = .ok (.getfield 55, 3) := by decide +kernel
theorem dX1_remember_16 : decode cX1_remember 16 = .ok (.iconst 0, 1) := by decide +kernel
theorem dX1_remember_17 : decode cX1_remember 17 = .ok (.invokevirtual 198, 3) := by decide +kernel
theorem dX1_remember_20 : decode cX1_remember 20 = .ok (.aload_n 0, 1) := by decide +kernel
theorem dX1_remember_21 : decode cX1_remember 21 = .ok (.getfield 55, 3) := by decide +kernel
theorem dX1_remember_24 : decode cX1_remember 24 = .ok (.invokevirtual 90, 3) := by decide +kernel
theorem dX1_remember_27 : decode cX1_remember 27 = .ok (.istore_n 3, 1) := by decide +kernel
theorem dX1_remember_28 : decode cX1_remember 28 = .ok (.aload_n 0, 1) := by decide +kernel
theorem dX1_remember_29 : decode cX1_remember 29 = .ok (.getfield 55, 3) := by decide +kernel
theorem dX1_remember_32 : decode cX1_remember 32 = .ok (.iload_n 3, 1) := by decide +kernel
theorem dX1_remember_33 : decode cX1_remember 33 = .ok (.iconst 0, 1) := by decide +kernel
theorem dX1_remember_34 : decode cX1_remember 34 = .ok (.aload_n 0, 1) := by decide +kernel
theorem dX1_remember_35 : decode cX1_remember 35 = .ok (.getfield 72, 3) := by decide +kernel
theorem dX1_remember_38 : decode cX1_remember 38 = .ok (.invokevirtual 112, 3) := by decide +kernel
theorem dX1_remember_41 : decode cX1_remember 41 = .ok (.aload_n 0, 1) := by decide +kernel
theorem dX1_remember_42 : decode cX1_remember 42 = .ok (.getfield 55, 3) := by decide +kernel
theorem dX1_remember_45 : decode cX1_remember 45 = .ok (.iload_n 3, 1) := by decide +kernel
theorem dX1_remember_46 : decode cX1_remember 46 = .ok (.iconst 1, 1) := by decide +kernel
theorem dX1_remember_47 : decode cX1_remember 47 = .ok (.iload_n 1, 1) := by decide +kernel
theorem dX1_remember_48 : decode cX1_remember 48 = .ok (.invokevirtual 112, 3) := by decide +kernel
theorem dX1_remember_51 : decode cX1_remember 51 = .ok (.aload_n 0, 1) := by decide +kernel
theorem dX1_remember_52 : decode cX1_remember 52 = .ok (.getfield 55, 3) := by decide +kernel
theorem dX1_remember_55 : decode cX1_remember 55 = .ok (.iload_n 3, 1) := by decide +kernel
theorem dX1_remember_56 : decode cX1_remember 56 = .ok (.iconst 2, 1) := by decide +kernel
theorem dX1_remember_57 : decode cX1_remember 57 = .ok (.aload_n 0, 1) := by decide +kernel
theorem dX1_remember_58 : decode cX1_remember 58 = .ok (.invokevirtual 201, 3) := by decide +kernel
theorem dX1_remember_61 : decode cX1_remember 61 = .ok (.invokevirtual 112, 3) := by decide +kernel
theorem dX1_remember_64 : decode cX1_remember 64 = .ok (.aload_n 0, 1) := by decide +kernel
theorem dX1_remember_65 : decode cX1_remember 65 = .ok (.getfield 55, 3) := by decide +kernel
theorem dX1_remember_68 : decode cX1_remember 68 = .ok (.iload_n 3, 1) := by decide +kernel
theorem dX1_remember_69 : decode cX1_remember 69 = .ok (.iconst 3, 1) := by decide +kernel
theorem dX1_remember_70 : decode cX1_remember 70 = .ok (.iload_n 2, 1) := by decide +kernel
theorem dX1_remember_71 : decode cX1_remember 71 = .ok (.invokevirtual 112, 3) := by decide +kernel
theorem dX1_remember_74 : decode cX1_remember 74 = .ok (.return_, 1) := by decide +kernel
theorem dX1_endMonth_0 : decode cX1_endMonth 0 = .ok (.aload_n 0, 1) := by decide +kernel
theorem dX1_endMonth_1 : decode cX1_endMonth 1 = .ok (.getfield 43, 3) := by decide +kernel
theorem dX1_endMonth_4 : decode cX1_endMonth 4 = .ok (.getfield 109, 3) := by decide +kernel
theorem dX1_endMonth_7 : decode cX1_endMonth 7 = .ok (.iconst 1, 1) := by decide +kernel
theorem dX1_endMonth_8 : decode cX1_endMonth 8 = .ok (.isub, 1) := by decide +kernel
theorem dX1_endMonth_9 : decode cX1_endMonth 9 = .ok (.istore_n 1, 1) := by decide +kernel
theorem dX1_endMonth_10 : decode cX1_endMonth 10 = .ok (.iload_n 1, 1) := by decide +kernel
theorem dX1_endMonth_11 : decode cX1_endMonth 11 = .ok (.ifCond .lt 39, 3) := by decide +kernel
theorem dX1_endMonth_14 : decode cX1_endMonth 14 = .ok (.aload_n 0, 1) := by decide +kernel
theorem dX1_endMonth_15 : decode cX1_endMonth 15 = .ok (.getfield 43, 3) := by decide +kernel
theorem dX1_endMonth_18 : decode cX1_endMonth 18 = .ok (.iload_n 1, 1) := by decide +kernel
theorem dX1_endMonth_19 : decode cX1_endMonth 19 = .ok (.iconst 5, 1) := by decide +kernel
theorem dX1_endMonth_20 : decode cX1_endMonth 20 = .ok (.iconst (-1), 1) := by decide +kernel
theorem dX1_endMonth_21 : decode cX1_endMonth 21 = .ok (.invokevirtual 132, 3) := by decide +kernel
theorem dX1_endMonth_24 : decode cX1_endMonth 24 = .ok (.aload_n 0, 1) := by decide +kernel
theorem dX1_endMonth_25 : decode cX1_endMonth 25 = .ok (.getfield 43, 3) := by decide +kernel
theorem dX1_endMonth_28 : decode cX1_endMonth 28 = .ok (.iload_n 1, 1) := by decide +kernel
theorem dX1_endMonth_29 : decode cX1_endMonth 29 = .ok (.iconst 5, 1) := by decide +kernel
theorem dX1_endMonth_30 : decode cX1_endMonth 30 = .ok (.invokevirtual 94, 3) := by decide +kernel
theorem dX1_endMonth_33 : decode cX1_endMonth 33 = .ok (.ifCond .gt 11, 3) := by decide +kernel
theorem dX1_endMonth_36 : decode cX1_endMonth 36 = .ok (.aload_n 0, 1) := by decide +kernel
theorem dX1_endMonth_37 : decode cX1_endMonth 37 = .ok (.getfield 43, 3) := by decide +kernel
theorem dX1_endMonth_40 : decode cX1_endMonth 40 = .ok (.iload_n 1, 1) := by decide +kernel
theorem dX1_endMonth_41 : decode cX1_endMonth 41 = .ok (.invokevirtual 198, 3) := by decide +kernel
theorem dX1_endMonth_44 : decode cX1_endMonth 44 = .ok (.iinc 1 (-1), 3) := by decide +kernel
theorem dX1_endMonth_47 : decode cX1_endMonth 47 = .ok (.goto (-37), 3) := by decide +kernel
theorem dX1_endMonth_50 : decode cX1_endMonth 50 = .ok (.iconst 0, 1) := by decide +kernel
theorem dX1_endMonth_51 : decode cX1_endMonth 51 = .ok (.istore_n 1, 1) := by decide +kernel
theorem dX1_endMonth_52 : decode cX1_endMonth 52 = .ok (.iload_n 1, 1) := by decide +kernel
theorem dX1_endMonth_53 : decode cX1_endMonth 53 = .ok (.aload_n 0, 1) := by decide +kernel
theorem dX1_endMonth_54 : decode cX1_endMonth 54 = .ok (.getfield 27, 3) := by decide +kernel
theorem dX1_endMonth_57 : decode cX1_endMonth 57 = .ok (.getfield 109, 3) := by decide +kernel
theorem dX1_endMonth_60 : decode cX1_endMonth 60 = .ok (.if_icmp .ge 61, 3) := by decide +kernel
theorem dX1_endMonth_63 : decode cX1_endMonth 63 = .ok (.aload_n 0, 1) := by decide +kernel
theorem dX1_endMonth_64 : decode cX1_endMonth 64 = .ok (.getfield 27, 3) := by decide +kernel
theorem dX1_endMonth_67 : decode cX1_endMonth 67 = .ok (.iload_n 1, 1) := by decide +kernel
theorem dX1_endMonth_68 : decode cX1_endMonth 68 = .ok (.iconst 0, 1) := by decide +kernel
theorem dX1_endMonth_69 : decode cX1_endMonth 69 = .ok (.invokevirtual 94, 3) := by decide +kernel
theorem dX1_endMonth_72 : decode cX1_endMonth 72 = .ok (.i2l, 1) := by decide +kernel
theorem dX1_endMonth_73 : decode cX1_endMonth 73 = .ok (.lstore_n 2, 1) := by decide +kernel
theorem dX1_endMonth_74 : decode cX1_endMonth 74 = .ok (.lload_n 2, 1) := by decide +kernel
theorem dX1_endMonth_75 : decode cX1_endMonth 75 = .ok (.aload_n 0, 1) := by decide +kernel
theorem dX1_endMonth_76 : decode cX1_endMonth 76 = .ok (.getfield 75, 3) := by decide +kernel
theorem dX1_endMonth_79 : decode cX1_endMonth 79 = .ok (.i2l, 1) := by decide +kernel
theorem dX1_endMonth_80 : decode cX1_endMonth 80 = .ok (.lmul, 1) := by decide +kernel
theorem dX1_endMonth_81 : decode cX1_endMonth 81 = .ok (.ldc2_w 204, 3) := by decide +kernel
theorem dX1_endMonth_84 : decode cX1_endMonth 84 = .ok (.ladd, 1) := by decide +kernel
theorem dX1_endMonth_85 : decode cX1_endMonth 85 = .ok (.ldc2_w 206, 3) := by decide +kernel
theorem dX1_endMonth_88 : decode cX1_endMonth 88 = .ok (.ldiv, 1) := by decide +kernel
theorem dX1_endMonth_89 : decode cX1_endMonth 89 = .ok (.l2i, 1) := by decide +kernel
theorem dX1_endMonth_90 : decode cX1_endMonth 90 = .ok (.istore 4, 2) := by decide +kernel
theorem dX1_endMonth_92 : decode cX1_endMonth 92 = .ok (.aload_n 0, 1) := by decide +kernel
theorem dX1_endMonth_93 : decode cX1_endMonth 93 = .ok (.getfield 27, 3) := by decide +kernel
theorem dX1_endMonth_96 : decode cX1_endMonth 96 = .ok (.iload_n 1, 1) := by decide +kernel
theorem dX1_endMonth_97 : decode cX1_endMonth 97 = .ok (.iconst 0, 1) := by decide +kernel
theorem dX1_endMonth_98 : decode cX1_endMonth 98 = .ok (.iload 4, 2) := by decide +kernel
theorem dX1_endMonth_100 : decode cX1_endMonth 100 = .ok (.ineg, 1) := by decide +kernel
theorem dX1_endMonth_101 : decode cX1_endMonth 101 = .ok (.invokevirtual 132, 3) := by decide +kernel
theorem dX1_endMonth_104 : decode cX1_endMonth 104 = .ok (.aload_n 0, 1) := by decide +kernel
theorem dX1_endMonth_105 : decode cX1_endMonth 105 = .ok (.dup, 1) := by decide +kernel
theorem dX1_endMonth_106 : decode cX1_endMonth 106 = .ok (.getfield 81, 3) := by decide +kernel
theorem dX1_endMonth_109 : decode cX1_endMonth 109 = .ok (.iload 4, 2) := by decide +kernel
theorem dX1_endMonth_111 : decode cX1_endMonth 111 = .ok (.iadd, 1) := by decide +kernel
theorem dX1_endMonth_112 : decode cX1_endMonth 112 = .ok (.putfield 81, 3) := by decide +kernel
theorem dX1_endMonth_115 : decode cX1_endMonth 115 = .ok (.iinc 1 1, 3) := by decide +kernel
theorem dX1_endMonth_118 : decode cX1_endMonth 118 = .ok (.goto (-66), 3) := by decide +kernel
theorem dX1_endMonth_121 : decode cX1_endMonth 121 = .ok (.iconst 0, 1) := by decide +kernel
theorem dX1_endMonth_122 : decode cX1_endMonth 122 = .ok (.istore_n 1, 1) := by decide +kernel
theorem dX1_endMonth_123 : decode cX1_endMonth 123 = .ok (.iload_n 1, 1) := by decide +kernel
theorem dX1_endMonth_124 : decode cX1_endMonth 124 = .ok (.aload_n 0, 1) := by decide +kernel
theorem dX1_endMonth_125 : decode cX1_endMonth 125 = .ok (.getfield 14, 3) := by decide +kernel
theorem dX1_endMonth_128 : decode cX1_endMonth 128 = .ok (.getfield 109, 3) := by decide +kernel
theorem dX1_endMonth_131 : decode cX1_endMonth 131 = .ok (.if_icmp .ge 19, 3) := by decide +kernel
theorem dX1_endMonth_134 : decode cX1_endMonth 134 = .ok (.aload_n 0, 1) := by decide +kernel
theorem dX1_endMonth_135 : decode cX1_endMonth 135 = .ok (.getfield 14, 3) := by decide +kernel
theorem dX1_endMonth_138 : decode cX1_endMonth 138 = .ok (.iload_n 1, 1) := by decide +kernel
theorem dX1_endMonth_139 : decode cX1_endMonth 139 = .ok (.iconst 2, 1) := by decide +kernel
theorem dX1_endMonth_140 : decode cX1_endMonth 140 = .ok (.iconst 0, 1) := by decide +kernel
theorem dX1_endMonth_141 : decode cX1_endMonth 141 = .ok (.invokevirtual 112, 3) := by decide +kernel
theorem dX1_endMonth_144 : decode cX1_endMonth 144 = .ok (.iinc 1 1, 3) := by decide +kernel
theorem dX1_endMonth_147 : decode cX1_endMonth 147 = .ok (.goto (-24), 3) := by decide +kernel
theorem dX1_endMonth_150 : decode cX1_endMonth 150 = .ok (.aload_n 0, 1) := by decide +kernel
theorem dX1_endMonth_151 : decode cX1_endMonth 151 = .ok (.dup, 1) := by decide +kernel
theorem dX1_endMonth_152 : decode cX1_endMonth 152 = .ok (.getfield 72, 3) := by decide +kernel
theorem dX1_endMonth_155 : decode cX1_endMonth 155 = .ok (.iconst 1, 1) := by decide +kernel
theorem dX1_endMonth_156 : decode cX1_endMonth 156 = .ok (.iadd, 1) := by decide +kernel
theorem dX1_endMonth_157 : decode cX1_endMonth 157 = .ok (.putfield 72, 3) := by decide +kernel
theorem dX1_endMonth_160 : decode cX1_endMonth 160 = .ok (.return_, 1) := by decide +kernel
theorem dX2_init_0 : decode cX2_init 0 = .ok (.aload_n 0, 1) := by decide +kernel
theorem dX2_init_1 : decode cX2_init 1 = .ok (.invokespecial 3, 3) := by decide +kernel
theorem dX2_init_4 : decode cX2_init 4 = .ok (.aload_n 0, 1) := by decide +kernel
theorem dX2_init_5 : decode cX2_init 5 = .ok (.iload_n 2, 1) := by decide +kernel
theorem dX2_init_6 : decode cX2_init 6 = .ok (.putfield 9, 3) := by decide +kernel
theorem dX2_init_9 : decode cX2_init 9 = .ok (.aload_n 0, 1) := by decide +kernel
theorem dX2_init_10 : decode cX2_init 10 = .ok (.iload_n 1, 1) := by decide +kernel
theorem dX2_init_11 : decode cX2_init 11 = .ok (.iload_n 2, 1) := by decide +kernel
theorem dX2_init_12 : decode cX2_init 12 = .ok (.imul, 1) := by decide +kernel
theorem dX2_init_13 : decode cX2_init 13 = .ok (.newarray .int, 2) := by decide +kernel
theorem dX2_init_15 : decode cX2_init 15 = .ok (.putfield 15, 3) := by decide +kernel
theorem dX2_init_18 : decode cX2_init 18 = .ok (.return_, 1) := by decide +kernel
theorem dX2_has_0 : decode cX2_has 0 = .ok (.iload_n 1, 1) := by decide +kernel
theorem dX2_has_1 : decode cX2_has 1 = .ok (.ifCond .lt 15, 3) := by decide +kernel
theorem dX2_has_4 : decode cX2_has 4 = .ok (.iload_n 1, 1) := by decide +kernel
theorem dX2_has_5 : decode cX2_has 5 = .ok (.aload_n 0, 1) := by decide +kernel
theorem dX2_has_6 : decode cX2_has 6 = .ok (.getfield 19, 3) := by decide +kernel
theorem dX2_has_9 : decode cX2_has 9 = .ok (.if_icmp .ge 7, 3) := by decide +kernel
theorem dX2_has_12 : decode cX2_has 12 = .ok (.iconst 1, 1) := by decide +kernel
theorem dX2_has_13 : decode cX2_has 13 = .ok (.goto 4, 3) := by decide +kernel
theorem dX2_has_16 : decode cX2_has 16 = .ok (.iconst 0, 1) := by decide +kernel
theorem dX2_has_17 : decode cX2_has 17 = .ok (.ireturn, 1) := by decide +kernel
theorem dX2_get_0 : decode cX2_get 0 = .ok (.iload_n 1, 1) := by decide +kernel
theorem dX2_get_1 : decode cX2_get 1 = .ok (.ifCond .lt 23, 3) := by decide +kernel
theorem dX2_get_4 : decode cX2_get 4 = .ok (.iload_n 1, 1) := by decide +kernel
theorem dX2_get_5 : decode cX2_get 5 = .ok (.aload_n 0, 1) := by decide +kernel
theorem dX2_get_6 : decode cX2_get 6 = .ok (.getfield 19, 3) := by decide +kernel
theorem dX2_get_9 : decode cX2_get 9 = .ok (.if_icmp .ge 15, 3) := by decide +kernel
theorem dX2_get_12 : decode cX2_get 12 = .ok (.iload_n 2, 1) := by decide +kernel
theorem dX2_get_13 : decode cX2_get 13 = .ok (.ifCond .lt 11, 3) := by decide +kernel
theorem dX2_get_16 : decode cX2_get 16 = .ok (.iload_n 2, 1) := by decide +kernel
theorem dX2_get_17 : decode cX2_get 17 = .ok (.aload_n 0, 1) := by decide +kernel
theorem dX2_get_18 : decode cX2_get 18 = .ok (.getfield 9, 3) := by decide +kernel
theorem dX2_get_21 : decode cX2_get 21 = .ok (.if_icmp .lt 5, 3) := by decide +kernel
theorem dX2_get_24 : decode cX2_get 24 = .ok (.iconst 0, 1) := by decide +kernel
theorem dX2_get_25 : decode cX2_get 25 = .ok (.ireturn, 1) := by decide +kernel
theorem dX2_get_26 : decode cX2_get 26 = .ok (.aload_n 0, 1) := by decide +kernel
theorem dX2_get_27 : decode cX2_get 27 = .ok (.getfield 15, 3) := by decide +kernel
theorem dX2_get_30 : decode cX2_get 30 = .ok (.iload_n 1, 1) := by decide +kernel
theorem dX2_get_31 : decode cX2_get 31 = .ok (.aload_n 0, 1) := by decide +kernel
theorem dX2_get_32 : decode cX2_get 32 = .ok (.getfield 9, 3) := by decide +kernel
theorem dX2_get_35 : decode cX2_get 35 = .ok (.imul, 1) := by decide +kernel
theorem dX2_get_36 : decode cX2_get 36 = .ok (.iload_n 2, 1) := by decide +kernel
theorem dX2_get_37 : decode cX2_get 37 = .ok (.iadd, 1) := by decide +kernel
theorem dX2_get_38 : decode cX2_get 38 = .ok (.iaload, 1) := by decide +kernel
theorem dX2_get_39 : decode cX2_get 39 = .ok (.ireturn, 1) := by decide +kernel
theorem dX2_put_0 : decode cX2_put 0 = .ok (.iload_n 1, 1) := by decide +kernel
theorem dX2_put_1 : decode cX2_put 1 = .ok (.ifCond .lt 37, 3) := by decide +kernel
theorem dX2_put_4 : decode cX2_put 4 = .ok (.iload_n 1, 1) := by decide +kernel
theorem dX2_put_5 : decode cX2_put 5 = .ok (.aload_n 0, 1) := by decide +kernel
theorem dX2_put_6 : decode cX2_put 6 = .ok (.getfield 19, 3) := by decide +kernel
theorem dX2_put_9 : decode cX2_put 9 = .ok (.if_icmp .ge 29, 3) := by decide +kernel
theorem dX2_put_12 : decode cX2_put 12 = .ok (.iload_n 2, 1) := by decide +kernel
theorem dX2_put_13 : decode cX2_put 13 = .ok (.ifCond .lt 25, 3) := by decide +kernel
theorem dX2_put_16 : decode cX2_put 16 = .ok (.iload_n 2, 1) := by decide +kernel
theorem dX2_put_17 : decode cX2_put 17 = .ok (.aload_n 0, 1) := by decide +kernel
theorem dX2_put_18 : decode cX2_put 18 = .ok (.getfield 9, 3) := by decide +kernel
theorem dX2_put_21 : decode cX2_put 21 = .ok (.if_icmp .ge 17, 3) := by decide +kernel
theorem dX2_put_24 : decode cX2_put 24 = .ok (.aload_n 0, 1) := by decide +kernel
theorem dX2_put_25 : decode cX2_put 25 = .ok (.getfield 15, 3) := by decide +kernel
theorem dX2_put_28 : decode cX2_put 28 = .ok (.iload_n 1, 1) := by decide +kernel
theorem dX2_put_29 : decode cX2_put 29 = .ok (.aload_n 0, 1) := by decide +kernel
theorem dX2_put_30 : decode cX2_put 30 = .ok (.getfield 9, 3) := by decide +kernel
theorem dX2_put_33 : decode cX2_put 33 = .ok (.imul, 1) := by decide +kernel
theorem dX2_put_34 : decode cX2_put 34 = .ok (.iload_n 2, 1) := by decide +kernel
theorem dX2_put_35 : decode cX2_put 35 = .ok (.iadd, 1) := by decide +kernel
theorem dX2_put_36 : decode cX2_put 36 = .ok (.iload_n 3, 1) := by decide +kernel
theorem dX2_put_37 : decode cX2_put 37 = .ok (.iastore, 1) := by decide +kernel
theorem dX2_put_38 : decode cX2_put 38 = .ok (.return_, 1) := by decide +kernel
theorem dX2_increase_0 : decode cX2_increase 0 = .ok (.iload_n 1, 1) := by decide +kernel
theorem dX2_increase_1 : decode cX2_increase 1 = .ok (.ifCond .lt 40, 3) := by decide +kernel
theorem dX2_increase_4 : decode cX2_increase 4 = .ok (.iload_n 1, 1) := by decide +kernel
theorem dX2_increase_5 : decode cX2_increase 5 = .ok (.aload_n 0, 1) := by decide +kernel
theorem dX2_increase_6 : decode cX2_increase 6 = .ok (.getfield 19, 3) := by decide +kernel
theorem dX2_increase_9 : decode cX2_increase 9 = .ok (.if_icmp .ge 32, 3) := by decide +kernel
theorem dX2_increase_12 : decode cX2_increase 12 = .ok (.iload_n 2, 1) := by decide +kernel
theorem dX2_increase_13 : decode cX2_increase 13 = .ok (.ifCond .lt 28, 3) := by decide +kernel
theorem dX2_increase_16 : decode cX2_increase 16 = .ok (.iload_n 2, 1) := by decide +kernel
theorem dX2_increase_17 : decode cX2_increase 17 = .ok (.aload_n 0, 1) := by decide +kernel
theorem dX2_increase_18 : decode cX2_increase 18 = .ok (.getfield 9, 3) := by decide +kernel
theorem dX2_increase_21 : decode cX2_increase 21 = .ok (.if_icmp .ge 20, 3) := by decide +kernel
theorem dX2_increase_24 : decode cX2_increase 24 = .ok (.aload_n 0, 1) := by decide +kernel
theorem dX2_increase_25 : decode cX2_increase 25 = .ok (.getfield 15, 3) := by decide +kernel
theorem dX2_increase_28 : decode cX2_increase 28 = .ok (.iload_n 1, 1) := by decide +kernel
theorem dX2_increase_29 : decode cX2_increase 29 = .ok (.aload_n 0, 1) := by decide +kernel
theorem dX2_increase_30 : decode cX2_increase 30 = .ok (.getfield 9, 3) := by decide +kernel
theorem dX2_increase_33 : decode cX2_increase 33 = .ok (.imul, 1) := by decide +kernel
theorem dX2_increase_34 : decode cX2_increase 34 = .ok (.iload_n 2, 1) := by decide +kernel
theorem dX2_increase_35 : decode cX2_increase 35 = .ok (.iadd, 1) := by decide +kernel
theorem dX2_increase_36 : decode cX2_increase 36 = .ok (.dup2, 1) := by decide +kernel
theorem dX2_increase_37 : decode cX2_increase 37 = .ok (.iaload, 1) := by decide +kernel
theorem dX2_increase_38 : decode cX2_increase 38 = .ok (.iload_n 3, 1) := by decide +kernel
theorem dX2_increase_39 : decode cX2_increase 39 = .ok (.iadd, 1) := by decide +kernel
theorem dX2_increase_40 : decode cX2_increase 40 = .ok (.iastore, 1) := by decide +kernel
theorem dX2_increase_41 : decode cX2_increase 41 = .ok (.return_, 1) := by decide +kernel
theorem dX2_increaseFrom_0 : decode cX2_increaseFrom 0 = .ok (.iload_n 2, 1) := by decide +kernel
theorem dX2_increaseFrom_1 : decode cX2_increaseFrom 1 = .ok (.ifCond .lt 11, 3) := by decide +kernel
theorem dX2_increaseFrom_4 : decode cX2_increaseFrom 4 = .ok (.iload_n 2, 1) := by decide +kernel
theorem dX2_increaseFrom_5 : decode cX2_increaseFrom 5 = .ok (.aload_n 0, 1) := by decide +kernel
theorem dX2_increaseFrom_6 : decode cX2_increaseFrom 6 = .ok (.getfield 9, 3) := by decide +kernel
theorem dX2_increaseFrom_9 : decode cX2_increaseFrom 9 = .ok (.if_icmp .lt 4, 3) := by decide +kernel
theorem dX2_increaseFrom_12 : decode cX2_increaseFrom 12 = .ok (.return_, 1) := by decide +kernel
theorem dX2_increaseFrom_13 : decode cX2_increaseFrom 13 = .ok (.iload_n 1, 1) := by decide +kernel
theorem dX2_increaseFrom_14 : decode cX2_increaseFrom 14 = .ok (.iconst 0, 1) := by decide +kernel
theorem dX2_increaseFrom_15 : decode cX2_increaseFrom 15 = .ok (.invokestatic 22, 3) := by decide +kernel
theorem dX2_increaseFrom_18 : decode cX2_increaseFrom 18 = .ok (.istore 4, 2) := by decide +kernel
theorem dX2_increaseFrom_20 : decode cX2_increaseFrom 20 = .ok (.iload 4, 2) := by decide +kernel
theorem dX2_increaseFrom_22 : decode cX2_increaseFrom 22 = .ok (.aload_n 0, 1) := by decide +kernel
theorem dX2_increaseFrom_23 : decode cX2_increaseFrom 23 = .ok (.getfield 19, 3) := by decide +kernel
theorem dX2_increaseFrom_26 : decode cX2_increaseFrom 26 = .ok (.if_icmp .ge 27, 3) := by decide +kernel
theorem dX2_increaseFrom_29 : decode cX2_increaseFrom 29 = .ok (.aload_n 0, 1) := by decide +kernel
theorem dX2_increaseFrom_30 : decode cX2_increaseFrom 30 = .ok (.getfield 15, 3) := by decide +kernel
theorem dX2_increaseFrom_33 : decode cX2_increaseFrom 33 = .ok (.iload 4, 2) := by decide +kernel
theorem dX2_increaseFrom_35 : decode cX2_increaseFrom 35 = .ok (.aload_n 0, 1) := by decide +kernel
theorem dX2_increaseFrom_36 : decode cX2_increaseFrom 36 = .ok (.getfield 9, 3) := by decide +kernel
theorem dX2_increaseFrom_39 : decode cX2_increaseFrom 39 = .ok (.imul, 1) := by decide +kernel
theorem dX2_increaseFrom_40 : decode cX2_increaseFrom 40 = .ok (.iload_n 2, 1) := by decide +kernel
theorem dX2_increaseFrom_41 : decode cX2_increaseFrom 41 = .ok (.iadd, 1) := by decide +kernel
theorem dX2_increaseFrom_42 : decode cX2_increaseFrom 42 = .ok (.dup2, 1) := by decide +kernel
theorem dX2_increaseFrom_43 : decode cX2_increaseFrom 43 = .ok (.iaload, 1) := by decide +kernel
theorem dX2_increaseFrom_44 : decode cX2_increaseFrom 44 = .ok (.iload_n 3, 1) := by decide +kernel
theorem dX2_increaseFrom_45 : decode cX2_increaseFrom 45 = .ok (.iadd, 1) := by decide +kernel
theorem dX2_increaseFrom_46 : decode cX2_increaseFrom 46 = .ok (.iastore, 1) := by decide +kernel
theorem dX2_increaseFrom_47 : decode cX2_increaseFrom 47 = .ok (.iinc 4 1, 3) := by decide +kernel
theorem dX2_increaseFrom_50 : decode cX2_increaseFrom 50 = .ok (.goto (-30), 3) := by decide +kernel
theorem dX2_increaseFrom_53 : decode cX2_increaseFrom 53 = .ok (.return_, 1) := by decide +kernel
theorem dX2_sumOf_0 : decode cX2_sumOf 0 = .ok (.iconst 0, 1) := by decide +kernel
theorem dX2_sumOf_1 : decode cX2_sumOf 1 = .ok (.istore_n 2, 1) := by decide +kernel
theorem dX2_sumOf_2 : decode cX2_sumOf 2 = .ok (.iconst 0, 1) := by decide +kernel
theorem dX2_sumOf_3 : decode cX2_sumOf 3 = .ok (.istore_n 3, 1) := by decide +kernel
theorem dX2_sumOf_4 : decode cX2_sumOf 4 = .ok (.iload_n 3, 1) := by decide +kernel
theorem dX2_sumOf_5 : decode cX2_sumOf 5 = .ok (.aload_n 0, 1) := by decide +kernel
theorem dX2_sumOf_6 : decode cX2_sumOf 6 = .ok (.getfield 19, 3) := by decide +kernel
theorem dX2_sumOf_9 : decode cX2_sumOf 9 = .ok (.if_icmp .ge 18, 3) := by decide +kernel
theorem dX2_sumOf_12 : decode cX2_sumOf 12 = .ok (.iload_n 2, 1) := by decide +kernel
theorem dX2_sumOf_13 : decode cX2_sumOf 13 = .ok (.aload_n 0, 1) := by decide +kernel
theorem dX2_sumOf_14 : decode cX2_sumOf 14 = .ok (.iload_n 3, 1) := by decide +kernel
theorem dX2_sumOf_15 : decode cX2_sumOf 15 = .ok (.iload_n 1, 1) := by decide +kernel
theorem dX2_sumOf_16 : decode cX2_sumOf 16 = .ok (.invokevirtual 28, 3) := by decide +kernel
theorem dX2_sumOf_19 : decode cX2_sumOf 19 = .ok (.iadd, 1) := by decide +kernel
theorem dX2_sumOf_20 : decode cX2_sumOf 20 = .ok (.istore_n 2, 1) := by decide +kernel
theorem dX2_sumOf_21 : decode cX2_sumOf 21 = .ok (.iinc 3 1, 3) := by decide +kernel
theorem dX2_sumOf_24 : decode cX2_sumOf 24 = .ok (.goto (-20), 3) := by decide +kernel
theorem dX2_sumOf_27 : decode cX2_sumOf 27 = .ok (.iload_n 2, 1) := by decide +kernel
theorem dX2_sumOf_28 : decode cX2_sumOf 28 = .ok (.ireturn, 1) := by decide +kernel
theorem dX2_addRow_0 : decode cX2_addRow 0 = .ok (.aload_n 0, 1) := by decide +kernel
theorem dX2_addRow_1 : decode cX2_addRow 1 = .ok (.getfield 19, 3) := by decide +kernel
theorem dX2_addRow_4 : decode cX2_addRow 4 = .ok (.iconst 1, 1) := by decide +kernel
theorem dX2_addRow_5 : decode cX2_addRow 5 = .ok (.iadd, 1) := by decide +kernel
theorem dX2_addRow_6 : decode cX2_addRow 6 = .ok (.aload_n 0, 1) := by decide +kernel
theorem dX2_addRow_7 : decode cX2_addRow 7 = .ok (.getfield 9, 3) := by decide +kernel
theorem dX2_addRow_10 : decode cX2_addRow 10 = .ok (.imul, 1) := by decide +kernel
theorem dX2_addRow_11 : decode cX2_addRow 11 = .ok (.aload_n 0, 1) := by decide +kernel
theorem dX2_addRow_12 : decode cX2_addRow 12 = .ok (.getfield 15, 3) := by decide +kernel
theorem dX2_addRow_15 : decode cX2_addRow 15 = .ok (.arraylength, 1) := by decide +kernel
theorem dX2_addRow_16 : decode cX2_addRow 16 = .ok (.if_icmp .le 5, 3) := by decide +kernel
theorem dX2_addRow_19 : decode cX2_addRow 19 = .ok (.iconst (-1), 1) := by decide +kernel
theorem dX2_addRow_20 : decode cX2_addRow 20 = .ok (.ireturn, 1) := by decide +kernel
theorem dX2_addRow_21 : decode cX2_addRow 21 = .ok (.aload_n 0, 1) := by decide +kernel
theorem dX2_addRow_22 : decode cX2_addRow 22 = .ok (.getfield 19, 3) := by decide +kernel
theorem dX2_addRow_25 : decode cX2_addRow 25 = .ok (.istore_n 1, 1) := by decide +kernel
theorem dX2_addRow_26 : decode cX2_addRow 26 = .ok (.aload_n 0, 1) := by decide +kernel
theorem dX2_addRow_27 : decode cX2_addRow 27 = .ok (.dup, 1) := by decide +kernel
theorem dX2_addRow_28 : decode cX2_addRow 28 = .ok (.getfield 19, 3) := by decide +kernel
theorem dX2_addRow_31 : decode cX2_addRow 31 = .ok (.iconst 1, 1) := by decide +kernel
theorem dX2_addRow_32 : decode cX2_addRow 32 = .ok (.iadd, 1) := by decide +kernel
theorem dX2_addRow_33 : decode cX2_addRow 33 = .ok (.putfield 19, 3) := by decide +kernel
theorem dX2_addRow_36 : decode cX2_addRow 36 = .ok (.iload_n 1, 1) := by decide +kernel
theorem dX2_addRow_37 : decode cX2_addRow 37 = .ok (.aload_n 0, 1) := by decide +kernel
theorem dX2_addRow_38 : decode cX2_addRow 38 = .ok (.getfield 9, 3) := by decide +kernel
theorem dX2_addRow_41 : decode cX2_addRow 41 = .ok (.imul, 1) := by decide +kernel
theorem dX2_addRow_42 : decode cX2_addRow 42 = .ok (.istore_n 2, 1) := by decide +kernel
theorem dX2_addRow_43 : decode cX2_addRow 43 = .ok (.iload_n 2, 1) := by decide +kernel
theorem dX2_addRow_44 : decode cX2_addRow 44 = .ok (.aload_n 0, 1) := by decide +kernel
theorem dX2_addRow_45 : decode cX2_addRow 45 = .ok (.getfield 19, 3) := by decide +kernel
theorem dX2_addRow_48 : decode cX2_addRow 48 = .ok (.aload_n 0, 1) := by decide +kernel
theorem dX2_addRow_49 : decode cX2_addRow 49 = .ok (.getfield 9, 3) := by decide +kernel
theorem dX2_addRow_52 : decode cX2_addRow 52 = .ok (.imul, 1) := by decide +kernel
theorem dX2_addRow_53 : decode cX2_addRow 53 = .ok (.if_icmp .ge 16, 3) := by decide +kernel
theorem dX2_addRow_56 : decode cX2_addRow 56 = .ok (.aload_n 0, 1) := by decide +kernel
theorem dX2_addRow_57 : decode cX2_addRow 57 = .ok (.getfield 15, 3) := by decide +kernel
theorem dX2_addRow_60 : decode cX2_addRow 60 = .ok (.iload_n 2, 1) := by decide +kernel
theorem dX2_addRow_61 : decode cX2_addRow 61 = .ok (.iconst 0, 1) := by decide +kernel
theorem dX2_addRow_62 : decode cX2_addRow 62 = .ok (.iastore, 1) := by decide +kernel
theorem dX2_addRow_63 : decode cX2_addRow 63 = .ok (.iinc 2 1, 3) := by decide +kernel
theorem dX2_addRow_66 : decode cX2_addRow 66 = .ok (.goto (-23), 3) := by decide +kernel
theorem dX2_addRow_69 : decode cX2_addRow 69 = .ok (.iload_n 1, 1) := by decide +kernel
theorem dX2_addRow_70 : decode cX2_addRow 70 = .ok (.ireturn, 1) := by decide +kernel
theorem dX2_removeRow_0 : decode cX2_removeRow 0 = .ok (.aload_n 0, 1) := by decide +kernel
theorem dX2_removeRow_1 : decode cX2_removeRow 1 = .ok (.iload_n 1, 1) := by decide +kernel
theorem dX2_removeRow_2 : decode cX2_removeRow 2 = .ok (.invokevirtual 31, 3) := by decide +kernel
theorem dX2_removeRow_5 : decode cX2_removeRow 5 = .ok (.ifCond .ne 4, 3) := by decide +kernel
theorem dX2_removeRow_8 : decode cX2_removeRow 8 = .ok (.return_, 1) := by decide +kernel
theorem dX2_removeRow_9 : decode cX2_removeRow 9 = .ok (.iload_n 1, 1) := by decide +kernel
theorem dX2_removeRow_10 : decode cX2_removeRow 10 = .ok (.iconst 1, 1) := by decide +kernel
theorem dX2_removeRow_11 : decode cX2_removeRow 11 = .ok (.iadd, 1) := by decide +kernel
theorem dX2_removeRow_12 : decode cX2_removeRow 12 = .ok (.aload_n 0, 1) := by decide +kernel
theorem dX2_removeRow_13 : decode cX2_removeRow 13 = .ok (.getfield 9, 3) := by decide +kernel
theorem dX2_removeRow_16 : decode cX2_removeRow 16 = .ok (.imul, 1) := by decide +kernel
theorem dX2_removeRow_17 : decode cX2_removeRow 17 = .ok (.istore_n 2, 1) := by decide +kernel
theorem dX2_removeRow_18 : decode cX2_removeRow 18 = .ok (.aload_n 0, 1) := by decide +kernel
theorem dX2_removeRow_19 : decode cX2_removeRow 19 = .ok (.getfield 15, 3) := by decide +kernel
theorem dX2_removeRow_22 : decode cX2_removeRow 22 = .ok (.iload_n 2, 1) := by decide +kernel
theorem dX2_removeRow_23 : decode cX2_removeRow 23 = .ok (.aload_n 0, 1) := by decide +kernel
theorem dX2_removeRow_24 : decode cX2_removeRow 24 = .ok (.getfield 15, 3) := by decide +kernel
theorem dX2_removeRow_27 : decode cX2_removeRow 27 = .ok (.iload_n 1, 1) := by decide +kernel
theorem dX2_removeRow_28 : decode cX2_removeRow 28 = .ok (.aload_n 0, 1) := by decide +kernel
theorem dX2_removeRow_29 : decode cX2_removeRow 29 = .ok (.getfield 9, 3) := by decide +kernel
theorem dX2_removeRow_32 : decode cX2_removeRow 32 = .ok (.imul, 1) := by decide +kernel
theorem dX2_removeRow_33 : decode cX2_removeRow 33 = .ok (.aload_n 0, 1) := by decide +kernel
theorem dX2_removeRow_34 : decode cX2_removeRow 34 = .ok (.getfield 19, 3) := by decide +kernel
theorem dX2_removeRow_37 : decode cX2_removeRow 37 = .ok (.aload_n 0, 1) := by decide +kernel
theorem dX2_removeRow_38 : decode cX2_removeRow 38 = .ok (.getfield 9, 3) := by decide +kernel
theorem dX2_removeRow_41 : decode cX2_removeRow 41 = .ok (.imul, 1) := by decide +kernel
theorem dX2_removeRow_42 : decode cX2_removeRow 42 = .ok (.iload_n 2, 1) := by decide +kernel
theorem dX2_removeRow_43 : decode cX2_removeRow 43 = .ok (.isub, 1) := by decide +kernel
theorem dX2_removeRow_44 : decode cX2_removeRow 44 = .ok (.invokestatic 35, 3) := by decide +kernel
theorem dX2_removeRow_47 : decode cX2_removeRow 47 = .ok (.aload_n 0, 1) := by decide +kernel
theorem dX2_removeRow_48 : decode cX2_removeRow 48 = .ok (.dup, 1) := by decide +kernel
theorem dX2_removeRow_49 : decode cX2_removeRow 49 = .ok (.getfield 19, 3) := by decide +kernel
theorem dX2_removeRow_52 : decode cX2_removeRow 52 = .ok (.iconst 1, 1) := by decide +kernel
theorem dX2_removeRow_53 : decode cX2_removeRow 53 = .ok (.isub, 1) := by decide +kernel
theorem dX2_removeRow_54 : decode cX2_removeRow 54 = .ok (.putfield 19, 3) := by decide +kernel
theorem dX2_removeRow_57 : decode cX2_removeRow 57 = .ok (.return_, 1) := by decide +kernel
theorem dX2_removeAll_0 : decode cX2_removeAll 0 = .ok (.aload_n 0, 1) := by decide +kernel
theorem dX2_removeAll_1 : decode cX2_removeAll 1 = .ok (.iconst 0, 1) := by decide +kernel
theorem dX2_removeAll_2 : decode cX2_removeAll 2 = .ok (.putfield 19, 3) := by decide +kernel
theorem dX2_removeAll_5 : decode cX2_removeAll 5 = .ok (.return_, 1) := by decide +kernel
theorem dX2_copyFrom_0 : decode cX2_copyFrom 0 = .ok (.aload_n 1, 1) := by decide +kernel
theorem dX2_copyFrom_1 : decode cX2_copyFrom 1 = .ok (.getfield 15, 3) := by decide +kernel
theorem dX2_copyFrom_4 : decode cX2_copyFrom 4 = .ok (.arraylength, 1) := by decide +kernel
theorem dX2_copyFrom_5 : decode cX2_copyFrom 5 = .ok (.aload_n 0, 1) := by decide +kernel
theorem dX2_copyFrom_6 : decode cX2_copyFrom 6 = .ok (.getfield 15, 3) := by decide +kernel
theorem dX2_copyFrom_9 : decode cX2_copyFrom 9 = .ok (.arraylength, 1) := by decide +kernel
theorem dX2_copyFrom_10 : decode cX2_copyFrom 10 = .ok (.if_icmp .ne 14, 3) := by decide +kernel
theorem dX2_copyFrom_13 : decode cX2_copyFrom 13 = .ok (.aload_n 1, 1) := by decide +kernel
theorem dX2_copyFrom_14 : decode cX2_copyFrom 14 = .ok (.getfield 9, 3) := by decide +kernel
theorem dX2_copyFrom_17 : decode cX2_copyFrom 17 = .ok (.aload_n 0, 1) := by decide +kernel
theorem dX2_copyFrom_18 : decode cX2_copyFrom 18 = .ok (.getfield 9, 3) := by decide +kernel
theorem dX2_copyFrom_21 : decode cX2_copyFrom 21 = .ok (.if_icmp .eq 4, 3) := by decide +kernel
theorem dX2_copyFrom_24 : decode cX2_copyFrom 24 = .ok (.return_, 1) := by decide +kernel
theorem dX2_copyFrom_25 : decode cX2_copyFrom 25 = .ok (.aload_n 1, 1) := by decide +kernel
theorem dX2_copyFrom_26 : decode cX2_copyFrom 26 = .ok (.getfield 15, 3) := by decide +kernel
theorem dX2_copyFrom_29 : decode cX2_copyFrom 29 = .ok (.iconst 0, 1) := by decide +kernel
theorem dX2_copyFrom_30 : decode cX2_copyFrom 30 = .ok (.aload_n 0, 1) := by decide +kernel
theorem dX2_copyFrom_31 : decode cX2_copyFrom 31 = .ok (.getfield 15, 3) := by decide +kernel
theorem dX2_copyFrom_34 : decode cX2_copyFrom 34 = .ok (.iconst 0, 1) := by decide +kernel
theorem dX2_copyFrom_35 : decode cX2_copyFrom 35 = .ok (.aload_n 1, 1) := by decide +kernel
theorem dX2_copyFrom_36 : decode cX2_copyFrom 36 = .ok (.getfield 19, 3) := by decide +kernel
theorem dX2_copyFrom_39 : decode cX2_copyFrom 39 = .ok (.aload_n 0, 1) := by decide +kernel
theorem dX2_copyFrom_40 : decode cX2_copyFrom 40 = .ok (.getfield 9, 3) := by decide +kernel
theorem dX2_copyFrom_43 : decode cX2_copyFrom 43 = .ok (.imul, 1) := by decide +kernel
theorem dX2_copyFrom_44 : decode cX2_copyFrom 44 = .ok (.invokestatic 35, 3) := by decide +kernel
theorem dX2_copyFrom_47 : decode cX2_copyFrom 47 = .ok (.aload_n 0, 1) := by decide +kernel
theorem dX2_copyFrom_48 : decode cX2_copyFrom 48 = .ok (.aload_n 1, 1) := by decide +kernel
theorem dX2_copyFrom_49 : decode cX2_copyFrom 49 = .ok (.getfield 19, 3) := by decide +kernel
theorem dX2_copyFrom_52 : decode cX2_copyFrom 52 = .ok (.putfield 19, 3) := by decide +kernel
theorem dX2_copyFrom_55 : decode cX2_copyFrom 55 = .ok (.return_, 1) := by decide +kernel
theorem dX3_init_0 : decode cX3_init 0 = .ok (.aload_n 0, 1) := by decide +kernel
theorem dX3_init_1 : decode cX3_init 1 = .ok (.invokespecial 1, 3) := by decide +kernel
theorem dX3_init_4 : decode cX3_init 4 = .ok (.aload_n 0, 1) := by decide +kernel
theorem dX3_init_5 : decode cX3_init 5 = .ok (.new 7, 3) := by decide +kernel
theorem dX3_init_8 : decode cX3_init 8 = .ok (.dup, 1) := by decide +kernel
theorem dX3_init_9 : decode cX3_init 9 = .ok (.invokespecial 9, 3) := by decide +kernel
theorem dX3_init_12 : decode cX3_init 12 = .ok (.putfield 10, 3) := by decide +kernel
theorem dX3_init_15 : decode cX3_init 15 = .ok (.aload_n 0, 1) := by decide +kernel
theorem dX3_init_16 : decode cX3_init 16 = .ok (.new 7, 3) := by decide +kernel
theorem dX3_init_19 : decode cX3_init 19 = .ok (.dup, 1) := by decide +kernel
theorem dX3_init_20 : decode cX3_init 20 = .ok (.invokespecial 9, 3) := by decide +kernel
theorem dX3_init_23 : decode cX3_init 23 = .ok (.putfield 16, 3) := by decide +kernel
theorem dX3_init_26 : decode cX3_init 26 = .ok (.aload_n 0, 1) := by decide +kernel
theorem dX3_init_27 : decode cX3_init 27 = .ok (.new 19, 3) := by decide +kernel
theorem dX3_init_30 : decode cX3_init 30 = .ok (.dup, 1) := by decide +kernel
theorem dX3_init_31 : decode cX3_init 31 = .ok (.invokespecial 21, 3) := by decide +kernel
theorem dX3_init_34 : decode cX3_init 34 = .ok (.putfield 22, 3) := by decide +kernel
theorem dX3_init_37 : decode cX3_init 37 = .ok (.aload_n 0, 1) := by decide +kernel
theorem dX3_init_38 : decode cX3_init 38 = .ok (.bipush 10, 2) := by decide +kernel
theorem dX3_init_40 : decode cX3_init 40 = .ok (.newarray .int, 2) := by decide +kernel
theorem dX3_init_42 : decode cX3_init 42 = .ok (.putfield 26, 3) := by decide +kernel
theorem dX3_init_45 : decode cX3_init 45 = .ok (.aload_n 0, 1) := by decide +kernel
theorem dX3_init_46 : decode cX3_init 46 = .ok (.bipush 8, 2) := by decide +kernel
theorem dX3_init_48 : decode cX3_init 48 = .ok (.anewarray 7, 3) := by decide +kernel
theorem dX3_init_51 : decode cX3_init 51 = .ok (.putfield 30, 3) := by decide +kernel
theorem dX3_init_54 : decode cX3_init 54 = .ok (.iconst 0, 1) := by decide +kernel
theorem dX3_init_55 : decode cX3_init 55 = .ok (.istore_n 1, 1) := by decide +kernel
theorem dX3_init_56 : decode cX3_init 56 = .ok (.iload_n 1, 1) := by decide +kernel
theorem dX3_init_57 : decode cX3_init 57 = .ok (.bipush 8, 2) := by decide +kernel
theorem dX3_init_59 : decode cX3_init 59 = .ok (.if_icmp .ge 22, 3) := by decide +kernel
theorem dX3_init_62 : decode cX3_init 62 = .ok (.aload_n 0, 1) := by decide +kernel
theorem dX3_init_63 : decode cX3_init 63 = .ok (.getfield 30, 3) := by decide +kernel
theorem dX3_init_66 : decode cX3_init 66 = .ok (.iload_n 1, 1) := by decide +kernel
theorem dX3_init_67 : decode cX3_init 67 = .ok (.new 7, 3) := by decide +kernel
theorem dX3_init_70 : decode cX3_init 70 = .ok (.dup, 1) := by decide +kernel
theorem dX3_init_71 : decode cX3_init 71 = .ok (.invokespecial 9, 3) := by decide +kernel
theorem dX3_init_74 : decode cX3_init 74 = .ok (.aastore, 1) := by decide +kernel
theorem dX3_init_75 : decode cX3_init 75 = .ok (.iinc 1 1, 3) := by decide +kernel
theorem dX3_init_78 : decode cX3_init 78 = .ok (.goto (-22), 3) := by decide +kernel
theorem dX3_init_81 : decode cX3_init 81 = .ok (.aload_n 0, 1) := by decide +kernel
theorem dX3_init_82 : decode cX3_init 82 = .ok (.iconst 2, 1) := by decide +kernel
theorem dX3_init_83 : decode cX3_init 83 = .ok (.anewarray 7, 3) := by decide +kernel
theorem dX3_init_86 : decode cX3_init 86 = .ok (.putfield 34, 3) := by decide +kernel
theorem dX3_init_89 : decode cX3_init 89 = .ok (.iconst 0, 1) := by decide +kernel
theorem dX3_init_90 : decode cX3_init 90 = .ok (.istore_n 1, 1) := by decide +kernel
theorem dX3_init_91 : decode cX3_init 91 = .ok (.iload_n 1, 1) := by decide +kernel
theorem dX3_init_92 : decode cX3_init 92 = .ok (.iconst 2, 1) := by decide +kernel
theorem dX3_init_93 : decode cX3_init 93 = .ok (.if_icmp .ge 22, 3) := by decide +kernel
theorem dX3_init_96 : decode cX3_init 96 = .ok (.aload_n 0, 1) := by decide +kernel
theorem dX3_init_97 : decode cX3_init 97 = .ok (.getfield 34, 3) := by decide +kernel
theorem dX3_init_100 : decode cX3_init 100 = .ok (.iload_n 1, 1) := by decide +kernel
theorem dX3_init_101 : decode cX3_init 101 = .ok (.new 7, 3) := by decide +kernel
theorem dX3_init_104 : decode cX3_init 104 = .ok (.dup, 1) := by decide +kernel
theorem dX3_init_105 : decode cX3_init 105 = .ok (.invokespecial 9, 3) := by decide +kernel
theorem dX3_init_108 : decode cX3_init 108 = .ok (.aastore, 1) := by decide +kernel
theorem dX3_init_109 : decode cX3_init 109 = .ok (.iinc 1 1, 3) := by decide +kernel
theorem dX3_init_112 : decode cX3_init 112 = .ok (.goto (-21), 3) := by decide +kernel
theorem dX3_init_115 : decode cX3_init 115 = .ok (.aload_n 0, 1) := by decide +kernel
theorem dX3_init_116 : decode cX3_init 116 = .ok (.iconst 2, 1) := by decide +kernel
theorem dX3_init_117 : decode cX3_init 117 = .ok (.newarray .boolean, 2) := by decide +kernel
theorem dX3_init_119 : decode cX3_init 119 = .ok (.putfield 37, 3) := by decide +kernel
theorem dX3_init_122 : decode cX3_init 122 = .ok (.aload_n 0, 1) := by decide +kernel
theorem dX3_init_123 : decode cX3_init 123 = .ok (.new 41, 3) := by decide +kernel
theorem dX3_init_126 : decode cX3_init 126 = .ok (.dup, 1) := by decide +kernel
theorem dX3_init_127 : decode cX3_init 127 = .ok (.invokespecial 43, 3) := by decide +kernel
theorem dX3_init_130 : decode cX3_init 130 = .ok (.putfield 44, 3) := by decide +kernel
theorem dX3_init_133 : decode cX3_init 133 = .ok (.aload_n 0, 1) := by decide +kernel
theorem dX3_init_134 : decode cX3_init 134 = .ok (.getfield 10, 3) := by decide +kernel
theorem dX3_init_137 : decode cX3_init 137 = .ok (.invokevirtual 48, 3) := by decide +kernel
theorem dX3_init_140 : decode cX3_init 140 = .ok (.return_, 1) := by decide +kernel
theorem dX3_append_0 : decode cX3_append 0 = .ok (.aload_n 0, 1) := by decide +kernel
theorem dX3_append_1 : decode cX3_append 1 = .ok (.getfield 22, 3) := by decide +kernel
theorem dX3_append_4 : decode cX3_append 4 = .ok (.getfield 51, 3) := by decide +kernel
theorem dX3_append_7 : decode cX3_append 7 = .ok (.bipush 20, 2) := by decide +kernel
theorem dX3_append_9 : decode cX3_append 9 = .ok (.iadd, 1) := by decide +kernel
theorem dX3_append_10 : decode cX3_append 10 = .ok (.sipush 900, 3) := by decide +kernel
theorem dX3_append_13 : decode cX3_append 13 = .ok (.if_icmp .le 5, 3) := by decide +kernel
theorem dX3_append_16 : decode cX3_append 16 = .ok (.iconst (-1), 1) := by decide +kernel
theorem dX3_append_17 : decode cX3_append 17 = .ok (.ireturn, 1) := by decide +kernel
theorem dX3_append_18 : decode cX3_append 18 = .ok (.aload_n 0, 1) := by decide +kernel
theorem dX3_append_19 : decode cX3_append 19 = .ok (.getfield 22, 3) := by decide +kernel
theorem dX3_append_22 : decode cX3_append 22 = .ok (.iload_n 1, 1) := by decide +kernel
theorem dX3_append_23 : decode cX3_append 23 = .ok (.invokevirtual 55, 3) := by decide +kernel
theorem dX3_append_26 : decode cX3_append 26 = .ok (.aload_n 0, 1) := by decide +kernel
theorem dX3_append_27 : decode cX3_append 27 = .ok (.getfield 22, 3) := by decide +kernel
theorem dX3_append_30 : decode cX3_append 30 = .ok (.iload_n 2, 1) := by decide +kernel
theorem dX3_append_31 : decode cX3_append 31 = .ok (.invokevirtual 55, 3) := by decide +kernel
theorem dX3_append_34 : decode cX3_append 34 = .ok (.aload_n 0, 1) := by decide +kernel
theorem dX3_append_35 : decode cX3_append 35 = .ok (.getfield 22, 3) := by decide +kernel
theorem dX3_append_38 : decode cX3_append 38 = .ok (.iload_n 3, 1) := by decide +kernel
theorem dX3_append_39 : decode cX3_append 39 = .ok (.invokevirtual 55, 3) := by decide +kernel
theorem dX3_append_42 : decode cX3_append 42 = .ok (.aload_n 0, 1) := by decide +kernel
theorem dX3_append_43 : decode cX3_append 43 = .ok (.getfield 22, 3) := by decide +kernel
theorem dX3_append_46 : decode cX3_append 46 = .ok (.iload 4, 2) := by decide +kernel
theorem dX3_append_48 : decode cX3_append 48 = .ok (.invokevirtual 55, 3) := by decide +kernel
theorem dX3_append_51 : decode cX3_append 51 = .ok (.aload_n 0, 1) := by decide +kernel
theorem dX3_append_52 : decode cX3_append 52 = .ok (.getfield 22, 3) := by decide +kernel
theorem dX3_append_55 : decode cX3_append 55 = .ok (.iload 5, 2) := by decide +kernel
theorem dX3_append_57 : decode cX3_append 57 = .ok (.invokevirtual 55, 3) := by decide +kernel
theorem dX3_append_60 : decode cX3_append 60 = .ok (.aload_n 0, 1) := by decide +kernel
theorem dX3_append_61 : decode cX3_append 61 = .ok (.getfield 22, 3) := by decide +kernel
theorem dX3_append_64 : decode cX3_append 64 = .ok (.getfield 51, 3) := by decide +kernel
theorem dX3_append_67 : decode cX3_append 67 = .ok (.ireturn, 1) := by decide +kernel
theorem dX3_truncate_0 : decode cX3_truncate 0 = .ok (.iload_n 1, 1) := by decide +kernel
theorem dX3_truncate_1 : decode cX3_truncate 1 = .ok (.ifCond .lt 14, 3) := by decide +kernel
theorem dX3_truncate_4 : decode cX3_truncate 4 = .ok (.iload_n 1, 1) := by decide +kernel
theorem dX3_truncate_5 : decode cX3_truncate 5 = .ok (.aload_n 0, 1) := by decide +kernel
theorem dX3_truncate_6 : decode cX3_truncate 6 = .ok (.getfield 22, 3) := by decide +kernel
theorem dX3_truncate_9 : decode cX3_truncate 9 = .ok (.getfield 51, 3) := by decide +kernel
theorem dX3_truncate_12 : decode cX3_truncate 12 = .ok (.if_icmp .le 5, 3) := by decide +kernel
theorem dX3_truncate_15 : decode cX3_truncate 15 = .ok (.iconst 0, 1) := by decide +kernel
theorem dX3_truncate_16 : decode cX3_truncate 16 = .ok (.ireturn, 1) := by decide +kernel
theorem dX3_truncate_17 : decode cX3_truncate 17 = .ok (.aload_n 0, 1) := by decide +kernel
theorem dX3_truncate_18 : decode cX3_truncate 18 = .ok (.getfield 22, 3) := by decide +kernel
theorem dX3_truncate_21 : decode cX3_truncate 21 = .ok (.iload_n 1, 1) := by decide +kernel
theorem dX3_truncate_22 : decode cX3_truncate 22 = .ok (.putfield 51, 3) := by decide +kernel
theorem dX3_truncate_25 : decode cX3_truncate 25 = .ok (.iconst 1, 1) := by decide +kernel
theorem dX3_truncate_26 : decode cX3_truncate 26 = .ok (.ireturn, 1) := by decide +kernel
theorem dX3_load_0 : decode cX3_load 0 = .ok (.aload_n 0, 1) := by decide +kernel
theorem dX3_load_1 : decode cX3_load 1 = .ok (.getfield 22, 3) := by decide +kernel
theorem dX3_load_4 : decode cX3_load 4 = .ok (.invokevirtual 59, 3) := by decide +kernel
theorem dX3_load_7 : decode cX3_load 7 = .ok (.istore_n 1, 1) := by decide +kernel
theorem dX3_load_8 : decode cX3_load 8 = .ok (.aload_n 0, 1) := by decide +kernel
theorem dX3_load_9 : decode cX3_load 9 = .ok (.getfield 22, 3) := by decide +kernel
theorem dX3_load_12 : decode cX3_load 12 = .ok (.iconst 0, 1) := by decide +kernel
theorem dX3_load_13 : decode cX3_load 13 = .ok (.putfield 51, 3) := by decide +kernel
theorem dX3_load_16 : decode cX3_load 16 = .ok (.iload_n 1, 1) := by decide +kernel
theorem dX3_load_17 : decode cX3_load 17 = .ok (.ifCond .ne 13, 3) := by decide +kernel
theorem dX3_load_20 : decode cX3_load 20 = .ok (.new 63, 3) := by decide +kernel
theorem dX3_load_23 : decode cX3_load 23 = .ok (.dup, 1) := by decide +kernel
theorem dX3_load_24 : decode cX3_load 24 = .ok (.ldc 65, 2) := by decide +kernel
theorem dX3_load_26 : decode cX3_load 26 = .ok (.invokespecial 67, 3) := by decide +kernel
theorem dX3_load_29 : decode cX3_load 29 = .ok (.athrow, 1) := by decide +kernel
theorem dX3_load_30 : decode cX3_load 30 = .ok (.aload_n 0, 1) := by decide +kernel
theorem dX3_load_31 : decode cX3_load 31 = .ok (.getfield 10, 3) := by decide +kernel
theorem dX3_load_34 : decode cX3_load 34 = .ok (.aload_n 0, 1) := by decide +kernel
theorem dX3_load_35 : decode cX3_load 35 = .ok (.getfield 22, 3) := by decide +kernel
theorem dX3_load_38 : decode cX3_load 38 = .ok (.getfield 70, 3) := by decide +kernel
theorem dX3_load_41 : decode cX3_load 41 = .ok (.invokevirtual 73, 3) := by decide +kernel
theorem dX3_load_44 : decode cX3_load 44 = .ok (.aload_n 0, 1) := by decide +kernel
theorem dX3_load_45 : decode cX3_load 45 = .ok (.iconst 0, 1) := by decide +kernel
theorem dX3_load_46 : decode cX3_load 46 = .ok (.putfield 77, 3) := by decide +kernel
theorem dX3_load_49 : decode cX3_load 49 = .ok (.iconst 0, 1) := by decide +kernel
theorem dX3_load_50 : decode cX3_load 50 = .ok (.istore_n 2, 1) := by decide +kernel
theorem dX3_load_51 : decode cX3_load 51 = .ok (.iload_n 2, 1) := by decide +kernel
theorem dX3_load_52 : decode cX3_load 52 = .ok (.iconst 2, 1) := by decide +kernel
theorem dX3_load_53 : decode cX3_load 53 = .ok (.if_icmp .ge 16, 3) := by decide +kernel
theorem dX3_load_56 : decode cX3_load 56 = .ok (.aload_n 0, 1) := by decide +kernel
theorem dX3_load_57 : decode cX3_load 57 = .ok (.getfield 37, 3) := by decide +kernel
theorem dX3_load_60 : decode cX3_load 60 = .ok (.iload_n 2, 1) := by decide +kernel
theorem dX3_load_61 : decode cX3_load 61 = .ok (.iconst 0, 1) := by decide +kernel
theorem dX3_load_62 : decode cX3_load 62 = .ok (.bastore, 1) := by decide +kernel
theorem dX3_load_63 : decode cX3_load 63 = .ok (.iinc 2 1, 3) := by decide +kernel
theorem dX3_load_66 : decode cX3_load 66 = .ok (.goto (-15), 3) := by decide +kernel
theorem dX3_load_69 : decode cX3_load 69 = .ok (.aload_n 0, 1) := by decide +kernel
theorem dX3_load_70 : decode cX3_load 70 = .ok (.getfield 10, 3) := by decide +kernel
theorem dX3_load_73 : decode cX3_load 73 = .ok (.getfield 80, 3) := by decide +kernel
theorem dX3_load_76 : decode cX3_load 76 = .ok (.getfield 84, 3) := by decide +kernel
theorem dX3_load_79 : decode cX3_load 79 = .ok (.ireturn, 1) := by decide +kernel
theorem dX3_errorKind_0 : decode cX3_errorKind 0 = .ok (.aload_n 0, 1) := by decide +kernel
theorem dX3_errorKind_1 : decode cX3_errorKind 1 = .ok (.getfield 22, 3) := by decide +kernel
theorem dX3_errorKind_4 : decode cX3_errorKind 4 = .ok (.getfield 92, 3) := by decide +kernel
theorem dX3_errorKind_7 : decode cX3_errorKind 7 = .ok (.ireturn, 1) := by decide +kernel
theorem dX3_count_0 : decode cX3_count 0 = .ok (.iload_n 1, 1) := by decide +kernel
theorem dX3_count_1 : decode cX3_count 1 = .ok (.tableswitch 126 0 7 #[47, 58, 69, 80, 91, 102, 110, 118], 47) := by decide +kernel
theorem dX3_count_48 : decode cX3_count 48 = .ok (.aload_n 0, 1) := by decide +kernel
theorem dX3_count_49 : decode cX3_count 49 = .ok (.getfield 10, 3) := by decide +kernel
theorem dX3_count_52 : decode cX3_count 52 = .ok (.getfield 95, 3) := by decide +kernel
theorem dX3_count_55 : decode cX3_count 55 = .ok (.getfield 84, 3) := by decide +kernel
theorem dX3_count_58 : decode cX3_count 58 = .ok (.ireturn, 1) := by decide +kernel
theorem dX3_count_59 : decode cX3_count 59 = .ok (.aload_n 0, 1) := by decide +kernel
theorem dX3_count_60 : decode cX3_count 60 = .ok (.getfield 10, 3) := by decide +kernel
theorem dX3_count_63 : decode cX3_count 63 = .ok (.getfield 98, 3) := by decide +kernel
theorem dX3_count_66 : decode cX3_count 66 = .ok (.getfield 84, 3) := by decide +kernel
theorem dX3_count_69 : decode cX3_count 69 = .ok (.ireturn, 1) := by decide +kernel
theorem dX3_count_70 : decode cX3_count 70 = .ok (.aload_n 0, 1) := by decide +kernel
theorem dX3_count_71 : decode cX3_count 71 = .ok (.getfield 10, 3) := by decide +kernel
theorem dX3_count_74 : decode cX3_count 74 = .ok (.getfield 80, 3) := by decide +kernel
theorem dX3_count_77 : decode cX3_count 77 = .ok (.getfield 84, 3) := by decide +kernel
theorem dX3_count_80 : decode cX3_count 80 = .ok (.ireturn, 1) := by decide +kernel
theorem dX3_count_81 : decode cX3_count 81 = .ok (.aload_n 0, 1) := by decide +kernel
theorem dX3_count_82 : decode cX3_count 82 = .ok (.getfield 10, 3) := by decide +kernel
theorem dX3_count_85 : decode cX3_count 85 = .ok (.getfield 101, 3) := by decide +kernel
theorem dX3_count_88 : decode cX3_count 88 = .ok (.getfield 84, 3) := by decide +kernel
theorem dX3_count_91 : decode cX3_count 91 = .ok (.ireturn, 1) := by decide +kernel
theorem dX3_count_92 : decode cX3_count 92 = .ok (.aload_n 0, 1) := by decide +kernel
theorem dX3_count_93 : decode cX3_count 93 = .ok (.getfield 10, 3) := by decide +kernel
theorem dX3_count_96 : decode cX3_count 96 = .ok (.getfield 104, 3) := by decide +kernel
theorem dX3_count_99 : decode cX3_count 99 = .ok (.getfield 84, 3) := by decide +kernel
theorem dX3_count_102 : decode cX3_count 102 = .ok (.ireturn, 1) := by decide +kernel
theorem dX3_count_103 : decode cX3_count 103 = .ok (.aload_n 0, 1) := by decide +kernel
theorem dX3_count_104 : decode cX3_count 104 = .ok (.getfield 10, 3) := by decide +kernel
theorem dX3_count_107 : decode cX3_count 107 = .ok (.getfield 107, 3) := by decide +kernel
theorem dX3_count_110 : decode cX3_count 110 = .ok (.ireturn, 1) := by decide +kernel
theorem dX3_count_111 : decode cX3_count 111 = .ok (.aload_n 0, 1) := by decide +kernel
theorem dX3_count_112 : decode cX3_count 112 = .ok (.getfield 10, 3) := by decide +kernel
theorem dX3_count_115 : decode cX3_count 115 = .ok (.getfield 110, 3) := by decide +kernel
theorem dX3_count_118 : decode cX3_count 118 = .ok (.ireturn, 1) := by decide +kernel
theorem dX3_count_119 : decode cX3_count 119 = .ok (.aload_n 0, 1) := by decide +kernel
theorem dX3_count_120 : decode cX3_count 120 = .ok (.getfield 10, 3) := by decide +kernel
theorem dX3_count_123 : decode cX3_count 123 = .ok (.getfield 113, 3) := by decide +kernel
theorem dX3_count_126 : decode cX3_count 126 = .ok (.ireturn, 1) := by decide +kernel
theorem dX3_count_127 : decode cX3_count 127 = .ok (.new 116, 3) := by decide +kernel
theorem dX3_count_130 : decode cX3_count 130 = .ok (.dup, 1) := by decide +kernel
theorem dX3_count_131 : decode cX3_count 131 = .ok (.ldc 118, 2) := by decide +kernel
theorem dX3_count_133 : decode cX3_count 133 = .ok (.invokespecial 120, 3) := by decide +kernel
theorem dX3_count_136 : decode cX3_count 136 = .ok (.athrow, 1) := by decide +kernel
theorem dX3_reach_0 : decode cX3_reach 0 = .ok (.aload_n 0, 1) := by decide +kernel
theorem dX3_reach_1 : decode cX3_reach 1 = .ok (.getfield 10, 3) := by decide +kernel
theorem dX3_reach_4 : decode cX3_reach 4 = .ok (.getfield 95, 3) := by decide +kernel
theorem dX3_reach_7 : decode cX3_reach 7 = .ok (.iload_n 1, 1) := by decide +kernel
theorem dX3_reach_8 : decode cX3_reach 8 = .ok (.invokestatic 134, 3) := by decide +kernel
theorem dX3_reach_11 : decode cX3_reach 11 = .ok (.iload_n 2, 1) := by decide +kernel
theorem dX3_reach_12 : decode cX3_reach 12 = .ok (.iconst 3, 1) := by decide +kernel
theorem dX3_reach_13 : decode cX3_reach 13 = .ok (.invokestatic 121, 3) := by decide +kernel
theorem dX3_reach_16 : decode cX3_reach 16 = .ok (.aload_n 0, 1) := by decide +kernel
theorem dX3_reach_17 : decode cX3_reach 17 = .ok (.getfield 10, 3) := by decide +kernel
theorem dX3_reach_20 : decode cX3_reach 20 = .ok (.getfield 95, 3) := by decide +kernel
theorem dX3_reach_23 : decode cX3_reach 23 = .ok (.iload_n 1, 1) := by decide +kernel
theorem dX3_reach_24 : decode cX3_reach 24 = .ok (.iload_n 2, 1) := by decide +kernel
theorem dX3_reach_25 : decode cX3_reach 25 = .ok (.invokevirtual 138, 3) := by decide +kernel
theorem dX3_reach_28 : decode cX3_reach 28 = .ok (.ireturn, 1) := by decide +kernel
theorem dX3_coming_0 : decode cX3_coming 0 = .ok (.aload_n 0, 1) := by decide +kernel
theorem dX3_coming_1 : decode cX3_coming 1 = .ok (.getfield 10, 3) := by decide +kernel
theorem dX3_coming_4 : decode cX3_coming 4 = .ok (.getfield 95, 3) := by decide +kernel
theorem dX3_coming_7 : decode cX3_coming 7 = .ok (.iload_n 1, 1) := by decide +kernel
theorem dX3_coming_8 : decode cX3_coming 8 = .ok (.invokestatic 134, 3) := by decide +kernel
theorem dX3_coming_11 : decode cX3_coming 11 = .ok (.aload_n 0, 1) := by decide +kernel
theorem dX3_coming_12 : decode cX3_coming 12 = .ok (.getfield 10, 3) := by decide +kernel
theorem dX3_coming_15 : decode cX3_coming 15 = .ok (.iload_n 1, 1) := by decide +kernel
theorem dX3_coming_16 : decode cX3_coming 16 = .ok (.invokevirtual 142, 3) := by decide +kernel
theorem dX3_coming_19 : decode cX3_coming 19 = .ok (.ireturn, 1) := by decide +kernel
theorem dX3_right_0 : decode cX3_right 0 = .ok (.aload_n 0, 1) := by decide +kernel
theorem dX3_right_1 : decode cX3_right 1 = .ok (.getfield 10, 3) := by decide +kernel
theorem dX3_right_4 : decode cX3_right 4 = .ok (.getfield 80, 3) := by decide +kernel
theorem dX3_right_7 : decode cX3_right 7 = .ok (.iload_n 1, 1) := by decide +kernel
theorem dX3_right_8 : decode cX3_right 8 = .ok (.invokestatic 134, 3) := by decide +kernel
theorem dX3_right_11 : decode cX3_right 11 = .ok (.iload_n 2, 1) := by decide +kernel
theorem dX3_right_12 : decode cX3_right 12 = .ok (.bipush 10, 2) := by decide +kernel
theorem dX3_right_14 : decode cX3_right 14 = .ok (.invokestatic 121, 3) := by decide +kernel
theorem dX3_right_17 : decode cX3_right 17 = .ok (.aload_n 0, 1) := by decide +kernel
theorem dX3_right_18 : decode cX3_right 18 = .ok (.getfield 10, 3) := by decide +kernel
theorem dX3_right_21 : decode cX3_right 21 = .ok (.getfield 80, 3) := by decide +kernel
theorem dX3_right_24 : decode cX3_right 24 = .ok (.iload_n 1, 1) := by decide +kernel
theorem dX3_right_25 : decode cX3_right 25 = .ok (.iload_n 2, 1) := by decide +kernel
theorem dX3_right_26 : decode cX3_right 26 = .ok (.invokevirtual 138, 3) := by decide +kernel
theorem dX3_right_29 : decode cX3_right 29 = .ok (.ireturn, 1) := by decide +kernel
theorem dX3_claims_0 : decode cX3_claims 0 = .ok (.aload_n 0, 1) := by decide +kernel
theorem dX3_claims_1 : decode cX3_claims 1 = .ok (.getfield 10, 3) := by decide +kernel
theorem dX3_claims_4 : decode cX3_claims 4 = .ok (.getfield 156, 3) := by decide +kernel
theorem dX3_claims_7 : decode cX3_claims 7 = .ok (.getfield 84, 3) := by decide +kernel
theorem dX3_claims_10 : decode cX3_claims 10 = .ok (.ireturn, 1) := by decide +kernel
theorem dX3_claim_0 : decode cX3_claim 0 = .ok (.aload_n 0, 1) := by decide +kernel
theorem dX3_claim_1 : decode cX3_claim 1 = .ok (.getfield 10, 3) := by decide +kernel
theorem dX3_claim_4 : decode cX3_claim 4 = .ok (.getfield 156, 3) := by decide +kernel
theorem dX3_claim_7 : decode cX3_claim 7 = .ok (.iload_n 1, 1) := by decide +kernel
theorem dX3_claim_8 : decode cX3_claim 8 = .ok (.invokestatic 134, 3) := by decide +kernel
theorem dX3_claim_11 : decode cX3_claim 11 = .ok (.iload_n 2, 1) := by decide +kernel
theorem dX3_claim_12 : decode cX3_claim 12 = .ok (.bipush 8, 2) := by decide +kernel
theorem dX3_claim_14 : decode cX3_claim 14 = .ok (.invokestatic 121, 3) := by decide +kernel
theorem dX3_claim_17 : decode cX3_claim 17 = .ok (.aload_n 0, 1) := by decide +kernel
theorem dX3_claim_18 : decode cX3_claim 18 = .ok (.getfield 10, 3) := by decide +kernel
theorem dX3_claim_21 : decode cX3_claim 21 = .ok (.getfield 156, 3) := by decide +kernel
theorem dX3_claim_24 : decode cX3_claim 24 = .ok (.iload_n 1, 1) := by decide +kernel
theorem dX3_claim_25 : decode cX3_claim 25 = .ok (.iload_n 2, 1) := by decide +kernel
theorem dX3_claim_26 : decode cX3_claim 26 = .ok (.invokevirtual 138, 3) := by decide +kernel
theorem dX3_claim_29 : decode cX3_claim 29 = .ok (.ireturn, 1) := by decide +kernel
theorem dX3_gauge_0 : decode cX3_gauge 0 = .ok (.aload_n 0, 1) := by decide +kernel
theorem dX3_gauge_1 : decode cX3_gauge 1 = .ok (.getfield 10, 3) := by decide +kernel
theorem dX3_gauge_4 : decode cX3_gauge 4 = .ok (.getfield 95, 3) := by decide +kernel
theorem dX3_gauge_7 : decode cX3_gauge 7 = .ok (.iload_n 1, 1) := by decide +kernel
theorem dX3_gauge_8 : decode cX3_gauge 8 = .ok (.invokestatic 134, 3) := by decide +kernel
theorem dX3_gauge_11 : decode cX3_gauge 11 = .ok (.iload_n 2, 1) := by decide +kernel
theorem dX3_gauge_12 : decode cX3_gauge 12 = .ok (.iconst 5, 1) := by decide +kernel
theorem dX3_gauge_13 : decode cX3_gauge 13 = .ok (.invokestatic 121, 3) := by decide +kernel
theorem dX3_gauge_16 : decode cX3_gauge 16 = .ok (.aload_n 0, 1) := by decide +kernel
theorem dX3_gauge_17 : decode cX3_gauge 17 = .ok (.getfield 10, 3) := by decide +kernel
theorem dX3_gauge_20 : decode cX3_gauge 20 = .ok (.getfield 159, 3) := by decide +kernel
theorem dX3_gauge_23 : decode cX3_gauge 23 = .ok (.iload_n 1, 1) := by decide +kernel
theorem dX3_gauge_24 : decode cX3_gauge 24 = .ok (.iload_n 2, 1) := by decide +kernel
theorem dX3_gauge_25 : decode cX3_gauge 25 = .ok (.invokevirtual 138, 3) := by decide +kernel
theorem dX3_gauge_28 : decode cX3_gauge 28 = .ok (.ireturn, 1) := by decide +kernel
theorem dX3_outflow_0 : decode cX3_outflow 0 = .ok (.aload_n 0, 1) := by decide +kernel
theorem dX3_outflow_1 : decode cX3_outflow 1 = .ok (.getfield 10, 3) := by decide +kernel
theorem dX3_outflow_4 : decode cX3_outflow 4 = .ok (.invokevirtual 168, 3) := by decide +kernel
theorem dX3_outflow_7 : decode cX3_outflow 7 = .ok (.ireturn, 1) := by decide +kernel
theorem dX3_run_0 : decode cX3_run 0 = .ok (.iload_n 1, 1) := by decide +kernel
theorem dX3_run_1 : decode cX3_run 1 = .ok (.iconst 1, 1) := by decide +kernel
theorem dX3_run_2 : decode cX3_run 2 = .ok (.bipush 36, 2) := by decide +kernel
theorem dX3_run_4 : decode cX3_run 4 = .ok (.invokestatic 187, 3) := by decide +kernel
theorem dX3_run_7 : decode cX3_run 7 = .ok (.aload_n 0, 1) := by decide +kernel
theorem dX3_run_8 : decode cX3_run 8 = .ok (.invokevirtual 194, 3) := by decide +kernel
theorem dX3_run_11 : decode cX3_run 11 = .ok (.aload_n 0, 1) := by decide +kernel
theorem dX3_run_12 : decode cX3_run 12 = .ok (.invokevirtual 224, 3) := by decide +kernel
theorem dX3_run_15 : decode cX3_run 15 = .ok (.iconst 0, 1) := by decide +kernel
theorem dX3_run_16 : decode cX3_run 16 = .ok (.istore_n 2, 1) := by decide +kernel
theorem dX3_run_17 : decode cX3_run 17 = .ok (.iconst 0, 1) := by decide +kernel
theorem dX3_run_18 : decode cX3_run 18 = .ok (.istore_n 3, 1) := by decide +kernel
theorem dX3_run_19 : decode cX3_run 19 = .ok (.iload_n 3, 1) := by decide +kernel
theorem dX3_run_20 : decode cX3_run 20 = .ok (.iload_n 1, 1) := by decide +kernel
theorem dX3_run_21 : decode cX3_run 21 = .ok (.if_icmp .ge 20, 3) := by decide +kernel
theorem dX3_run_24 : decode cX3_run 24 = .ok (.iload_n 2, 1) := by decide +kernel
theorem dX3_run_25 : decode cX3_run 25 = .ok (.aload_n 0, 1) := by decide +kernel
theorem dX3_run_26 : decode cX3_run 26 = .ok (.getfield 10, 3) := by decide +kernel
theorem dX3_run_29 : decode cX3_run 29 = .ok (.iconst (-1), 1) := by decide +kernel
theorem dX3_run_30 : decode cX3_run 30 = .ok (.invokevirtual 197, 3) := by decide +kernel
theorem dX3_run_33 : decode cX3_run 33 = .ok (.iadd, 1) := by decide +kernel
theorem dX3_run_34 : decode cX3_run 34 = .ok (.istore_n 2, 1) := by decide +kernel
theorem dX3_run_35 : decode cX3_run 35 = .ok (.iinc 3 1, 3) := by decide +kernel
theorem dX3_run_38 : decode cX3_run 38 = .ok (.goto (-19), 3) := by decide +kernel
theorem dX3_run_41 : decode cX3_run 41 = .ok (.iload_n 2, 1) := by decide +kernel
theorem dX3_run_42 : decode cX3_run 42 = .ok (.ireturn, 1) := by decide +kernel
theorem dX3_record_0 : decode cX3_record 0 = .ok (.aload_n 0, 1) := by decide +kernel
theorem dX3_record_1 : decode cX3_record 1 = .ok (.getfield 77, 3) := by decide +kernel
theorem dX3_record_4 : decode cX3_record 4 = .ok (.bipush 8, 2) := by decide +kernel
theorem dX3_record_6 : decode cX3_record 6 = .ok (.if_icmp .lt 52, 3) := by decide +kernel
theorem dX3_record_9 : decode cX3_record 9 = .ok (.aload_n 0, 1) := by decide +kernel
theorem dX3_record_10 : decode cX3_record 10 = .ok (.getfield 30, 3) := by decide +kernel
theorem dX3_record_13 : decode cX3_record 13 = .ok (.iconst 0, 1) := by decide +kernel
theorem dX3_record_14 : decode cX3_record 14 = .ok (.aaload, 1) := by decide +kernel
theorem dX3_record_15 : decode cX3_record 15 = .ok (.astore_n 1, 1) := by decide +kernel
theorem dX3_record_16 : decode cX3_record 16 = .ok (.iconst 1, 1) := by decide +kernel
theorem dX3_record_17 : decode cX3_record 17 = .ok (.istore_n 2, 1) := by decide +kernel
theorem dX3_record_18 : decode cX3_record 18 = .ok (.iload_n 2, 1) := by decide +kernel
theorem dX3_record_19 : decode cX3_record 19 = .ok (.bipush 8, 2) := by decide +kernel
theorem dX3_record_21 : decode cX3_record 21 = .ok (.if_icmp .ge 23, 3) := by decide +kernel
theorem dX3_record_24 : decode cX3_record 24 = .ok (.aload_n 0, 1) := by decide +kernel
theorem dX3_record_25 : decode cX3_record 25 = .ok (.getfield 30, 3) := by decide +kernel
theorem dX3_record_28 : decode cX3_record 28 = .ok (.iload_n 2, 1) := by decide +kernel
theorem dX3_record_29 : decode cX3_record 29 = .ok (.iconst 1, 1) := by decide +kernel
theorem dX3_record_30 : decode cX3_record 30 = .ok (.isub, 1) := by decide +kernel
theorem dX3_record_31 : decode cX3_record 31 = .ok (.aload_n 0, 1) := by decide +kernel
theorem dX3_record_32 : decode cX3_record 32 = .ok (.getfield 30, 3) := by decide +kernel
theorem dX3_record_35 : decode cX3_record 35 = .ok (.iload_n 2, 1) := by decide +kernel
theorem dX3_record_36 : decode cX3_record 36 = .ok (.aaload, 1) := by decide +kernel
theorem dX3_record_37 : decode cX3_record 37 = .ok (.aastore, 1) := by decide +kernel
theorem dX3_record_38 : decode cX3_record 38 = .ok (.iinc 2 1, 3) := by decide +kernel
theorem dX3_record_41 : decode cX3_record 41 = .ok (.goto (-23), 3) := by decide +kernel
theorem dX3_record_44 : decode cX3_record 44 = .ok (.aload_n 0, 1) := by decide +kernel
theorem dX3_record_45 : decode cX3_record 45 = .ok (.getfield 30, 3) := by decide +kernel
theorem dX3_record_48 : decode cX3_record 48 = .ok (.bipush 7, 2) := by decide +kernel
theorem dX3_record_50 : decode cX3_record 50 = .ok (.aload_n 1, 1) := by decide +kernel
theorem dX3_record_51 : decode cX3_record 51 = .ok (.aastore, 1) := by decide +kernel
theorem dX3_record_52 : decode cX3_record 52 = .ok (.aload_n 0, 1) := by decide +kernel
theorem dX3_record_53 : decode cX3_record 53 = .ok (.bipush 7, 2) := by decide +kernel
theorem dX3_record_55 : decode cX3_record 55 = .ok (.putfield 77, 3) := by decide +kernel
theorem dX3_record_58 : decode cX3_record 58 = .ok (.aload_n 0, 1) := by decide +kernel
theorem dX3_record_59 : decode cX3_record 59 = .ok (.getfield 30, 3) := by decide +kernel
theorem dX3_record_62 : decode cX3_record 62 = .ok (.aload_n 0, 1) := by decide +kernel
theorem dX3_record_63 : decode cX3_record 63 = .ok (.getfield 77, 3) := by decide +kernel
theorem dX3_record_66 : decode cX3_record 66 = .ok (.aaload, 1) := by decide +kernel
theorem dX3_record_67 : decode cX3_record 67 = .ok (.aload_n 0, 1) := by decide +kernel
theorem dX3_record_68 : decode cX3_record 68 = .ok (.getfield 10, 3) := by decide +kernel
theorem dX3_record_71 : decode cX3_record 71 = .ok (.invokevirtual 73, 3) := by decide +kernel
theorem dX3_record_74 : decode cX3_record 74 = .ok (.aload_n 0, 1) := by decide +kernel
theorem dX3_record_75 : decode cX3_record 75 = .ok (.dup, 1) := by decide +kernel
theorem dX3_record_76 : decode cX3_record 76 = .ok (.getfield 77, 3) := by decide +kernel
theorem dX3_record_79 : decode cX3_record 79 = .ok (.iconst 1, 1) := by decide +kernel
theorem dX3_record_80 : decode cX3_record 80 = .ok (.iadd, 1) := by decide +kernel
theorem dX3_record_81 : decode cX3_record 81 = .ok (.putfield 77, 3) := by decide +kernel
theorem dX3_record_84 : decode cX3_record 84 = .ok (.return_, 1) := by decide +kernel
theorem dX3_needRow_0 : decode cX3_needRow 0 = .ok (.aload_n 0, 1) := by decide +kernel
theorem dX3_needRow_1 : decode cX3_needRow 1 = .ok (.iload_n 1, 1) := by decide +kernel
theorem dX3_needRow_2 : decode cX3_needRow 2 = .ok (.invokevirtual 277, 3) := by decide +kernel
theorem dX3_needRow_5 : decode cX3_needRow 5 = .ok (.ifCond .ne 14, 3) := by decide +kernel
theorem dX3_needRow_8 : decode cX3_needRow 8 = .ok (.new 281, 3) := by decide +kernel
theorem dX3_needRow_11 : decode cX3_needRow 11 = .ok (.dup, 1) := by decide +kernel
theorem dX3_needRow_12 : decode cX3_needRow 12 = .ok (.ldc_w 283, 3) := by decide +kernel
theorem dX3_needRow_15 : decode cX3_needRow 15 = .ok (.invokespecial 285, 3) := by decide +kernel
theorem dX3_needRow_18 : decode cX3_needRow 18 = .ok (.athrow, 1) := by decide +kernel
theorem dX3_needRow_19 : decode cX3_needRow 19 = .ok (.return_, 1) := by decide +kernel
theorem dX3_needWhat_0 : decode cX3_needWhat 0 = .ok (.iload_n 0, 1) := by decide +kernel
theorem dX3_needWhat_1 : decode cX3_needWhat 1 = .ok (.ifCond .lt 8, 3) := by decide +kernel
theorem dX3_needWhat_4 : decode cX3_needWhat 4 = .ok (.iload_n 0, 1) := by decide +kernel
theorem dX3_needWhat_5 : decode cX3_needWhat 5 = .ok (.iload_n 1, 1) := by decide +kernel
theorem dX3_needWhat_6 : decode cX3_needWhat 6 = .ok (.if_icmp .lt 14, 3) := by decide +kernel
theorem dX3_needWhat_9 : decode cX3_needWhat 9 = .ok (.new 116, 3) := by decide +kernel
theorem dX3_needWhat_12 : decode cX3_needWhat 12 = .ok (.dup, 1) := by decide +kernel
theorem dX3_needWhat_13 : decode cX3_needWhat 13 = .ok (.ldc_w 288, 3) := by decide +kernel
theorem dX3_needWhat_16 : decode cX3_needWhat 16 = .ok (.invokespecial 120, 3) := by decide +kernel
theorem dX3_needWhat_19 : decode cX3_needWhat 19 = .ok (.athrow, 1) := by decide +kernel
theorem dX3_needWhat_20 : decode cX3_needWhat 20 = .ok (.return_, 1) := by decide +kernel
theorem dX3_needRange_0 : decode cX3_needRange 0 = .ok (.iload_n 0, 1) := by decide +kernel
theorem dX3_needRange_1 : decode cX3_needRange 1 = .ok (.iload_n 1, 1) := by decide +kernel
theorem dX3_needRange_2 : decode cX3_needRange 2 = .ok (.if_icmp .lt 8, 3) := by decide +kernel
theorem dX3_needRange_5 : decode cX3_needRange 5 = .ok (.iload_n 0, 1) := by decide +kernel
theorem dX3_needRange_6 : decode cX3_needRange 6 = .ok (.iload_n 2, 1) := by decide +kernel
theorem dX3_needRange_7 : decode cX3_needRange 7 = .ok (.if_icmp .le 13, 3) := by decide +kernel
theorem dX3_needRange_10 : decode cX3_needRange 10 = .ok (.new 63, 3) := by decide +kernel
theorem dX3_needRange_13 : decode cX3_needRange 13 = .ok (.dup, 1) := by decide +kernel
theorem dX3_needRange_14 : decode cX3_needRange 14 = .ok (.ldc 235, 2) := by decide +kernel
theorem dX3_needRange_16 : decode cX3_needRange 16 = .ok (.invokespecial 67, 3) := by decide +kernel
theorem dX3_needRange_19 : decode cX3_needRange 19 = .ok (.athrow, 1) := by decide +kernel
theorem dX3_needRange_20 : decode cX3_needRange 20 = .ok (.return_, 1) := by decide +kernel
theorem dX3_needReaches_0 : decode cX3_needReaches 0 = .ok (.aload_n 0, 1) := by decide +kernel
theorem dX3_needReaches_1 : decode cX3_needReaches 1 = .ok (.getfield 10, 3) := by decide +kernel
theorem dX3_needReaches_4 : decode cX3_needReaches 4 = .ok (.getfield 95, 3) := by decide +kernel
theorem dX3_needReaches_7 : decode cX3_needReaches 7 = .ok (.getfield 84, 3) := by decide +kernel
theorem dX3_needReaches_10 : decode cX3_needReaches 10 = .ok (.ifCond .ne 14, 3) := by decide +kernel
theorem dX3_needReaches_13 : decode cX3_needReaches 13 = .ok (.new 227, 3) := by decide +kernel
theorem dX3_needReaches_16 : decode cX3_needReaches 16 = .ok (.dup, 1) := by decide +kernel
theorem dX3_needReaches_17 : decode cX3_needReaches 17 = .ok (.ldc_w 290, 3) := by decide +kernel
theorem dX3_needReaches_20 : decode cX3_needReaches 20 = .ok (.invokespecial 231, 3) := by decide +kernel
theorem dX3_needReaches_23 : decode cX3_needReaches 23 = .ok (.athrow, 1) := by decide +kernel
theorem dX3_needReaches_24 : decode cX3_needReaches 24 = .ok (.return_, 1) := by decide +kernel
