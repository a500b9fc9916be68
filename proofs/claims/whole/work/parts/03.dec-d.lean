theorem dX4_setMinimum_6 : decode cX4_setMinimum 6 = .ok (.ifCond .ne 7, 3) := by decide +kernel
theorem dX4_setMinimum_9 : decode cX4_setMinimum 9 = .ok (.iconst 1, 1) := by decide +kernel
theorem dX4_setMinimum_10 : decode cX4_setMinimum 10 = .ok (.goto 19, 3) := by decide +kernel
theorem dX4_setMinimum_13 : decode cX4_setMinimum 13 = .ok (.iload_n 2, 1) := by decide +kernel
theorem dX4_setMinimum_14 : decode cX4_setMinimum 14 = .ok (.iconst 0, 1) := by decide +kernel
theorem dX4_setMinimum_15 : decode cX4_setMinimum 15 = .ok (.sipush 999, 3) := by decide +kernel
theorem dX4_setMinimum_18 : decode cX4_setMinimum 18 = .ok (.invokestatic 104, 3) := by decide +kernel
theorem dX4_setMinimum_21 : decode cX4_setMinimum 21 = .ok (.ifCond .ne 7, 3) := by decide +kernel
theorem dX4_setMinimum_24 : decode cX4_setMinimum 24 = .ok (.iconst 2, 1) := by decide +kernel
theorem dX4_setMinimum_25 : decode cX4_setMinimum 25 = .ok (.goto 4, 3) := by decide +kernel
theorem dX4_setMinimum_28 : decode cX4_setMinimum 28 = .ok (.iconst 0, 1) := by decide +kernel
theorem dX4_setMinimum_29 : decode cX4_setMinimum 29 = .ok (.putfield 77, 3) := by decide +kernel
theorem dX4_setMinimum_32 : decode cX4_setMinimum 32 = .ok (.aload_n 0, 1) := by decide +kernel
theorem dX4_setMinimum_33 : decode cX4_setMinimum 33 = .ok (.getfield 77, 3) := by decide +kernel
theorem dX4_setMinimum_36 : decode cX4_setMinimum 36 = .ok (.ifCond .le 7, 3) := by decide +kernel
theorem dX4_setMinimum_39 : decode cX4_setMinimum 39 = .ok (.iconst 0, 1) := by decide +kernel
theorem dX4_setMinimum_40 : decode cX4_setMinimum 40 = .ok (.goto 12, 3) := by decide +kernel
theorem dX4_setMinimum_43 : decode cX4_setMinimum 43 = .ok (.aload_n 0, 1) := by decide +kernel
theorem dX4_setMinimum_44 : decode cX4_setMinimum 44 = .ok (.bipush 14, 2) := by decide +kernel
theorem dX4_setMinimum_46 : decode cX4_setMinimum 46 = .ok (.iload_n 1, 1) := by decide +kernel
theorem dX4_setMinimum_47 : decode cX4_setMinimum 47 = .ok (.iadd, 1) := by decide +kernel
theorem dX4_setMinimum_48 : decode cX4_setMinimum 48 = .ok (.iload_n 2, 1) := by decide +kernel
theorem dX4_setMinimum_49 : decode cX4_setMinimum 49 = .ok (.invokevirtual 322, 3) := by decide +kernel
theorem dX4_setMinimum_52 : decode cX4_setMinimum 52 = .ok (.ireturn, 1) := by decide +kernel
theorem dX4_transfer_0 : decode cX4_transfer 0 = .ok (.aload_n 0, 1) := by decide +kernel
theorem dX4_transfer_1 : decode cX4_transfer 1 = .ok (.aload_n 0, 1) := by decide +kernel
theorem dX4_transfer_2 : decode cX4_transfer 2 = .ok (.iload_n 1, 1) := by decide +kernel
theorem dX4_transfer_3 : decode cX4_transfer 3 = .ok (.invokevirtual 213, 3) := by decide +kernel
theorem dX4_transfer_6 : decode cX4_transfer 6 = .ok (.ifCond .eq 11, 3) := by decide +kernel
theorem dX4_transfer_9 : decode cX4_transfer 9 = .ok (.aload_n 0, 1) := by decide +kernel
theorem dX4_transfer_10 : decode cX4_transfer 10 = .ok (.iload_n 2, 1) := by decide +kernel
theorem dX4_transfer_11 : decode cX4_transfer 11 = .ok (.invokevirtual 210, 3) := by decide +kernel
theorem dX4_transfer_14 : decode cX4_transfer 14 = .ok (.ifCond .ne 7, 3) := by decide +kernel
theorem dX4_transfer_17 : decode cX4_transfer 17 = .ok (.iconst 1, 1) := by decide +kernel
theorem dX4_transfer_18 : decode cX4_transfer 18 = .ok (.goto 19, 3) := by decide +kernel
theorem dX4_transfer_21 : decode cX4_transfer 21 = .ok (.iload_n 3, 1) := by decide +kernel
theorem dX4_transfer_22 : decode cX4_transfer 22 = .ok (.iconst 0, 1) := by decide +kernel
theorem dX4_transfer_23 : decode cX4_transfer 23 = .ok (.sipush 9999, 3) := by decide +kernel
theorem dX4_transfer_26 : decode cX4_transfer 26 = .ok (.invokestatic 104, 3) := by decide +kernel
theorem dX4_transfer_29 : decode cX4_transfer 29 = .ok (.ifCond .ne 7, 3) := by decide +kernel
theorem dX4_transfer_32 : decode cX4_transfer 32 = .ok (.iconst 2, 1) := by decide +kernel
theorem dX4_transfer_33 : decode cX4_transfer 33 = .ok (.goto 4, 3) := by decide +kernel
theorem dX4_transfer_36 : decode cX4_transfer 36 = .ok (.iconst 0, 1) := by decide +kernel
theorem dX4_transfer_37 : decode cX4_transfer 37 = .ok (.putfield 77, 3) := by decide +kernel
theorem dX4_transfer_40 : decode cX4_transfer 40 = .ok (.aload_n 0, 1) := by decide +kernel
theorem dX4_transfer_41 : decode cX4_transfer 41 = .ok (.getfield 77, 3) := by decide +kernel
theorem dX4_transfer_44 : decode cX4_transfer 44 = .ok (.ifCond .le 5, 3) := by decide +kernel
theorem dX4_transfer_47 : decode cX4_transfer 47 = .ok (.iconst 0, 1) := by decide +kernel
theorem dX4_transfer_48 : decode cX4_transfer 48 = .ok (.ireturn, 1) := by decide +kernel
theorem dX4_transfer_49 : decode cX4_transfer 49 = .ok (.aload_n 0, 1) := by decide +kernel
theorem dX4_transfer_50 : decode cX4_transfer 50 = .ok (.iload_n 1, 1) := by decide +kernel
theorem dX4_transfer_51 : decode cX4_transfer 51 = .ok (.iconst 0, 1) := by decide +kernel
theorem dX4_transfer_52 : decode cX4_transfer 52 = .ok (.invokestatic 80, 3) := by decide +kernel
theorem dX4_transfer_55 : decode cX4_transfer 55 = .ok (.iload_n 2, 1) := by decide +kernel
theorem dX4_transfer_56 : decode cX4_transfer 56 = .ok (.invokevirtual 322, 3) := by decide +kernel
theorem dX4_transfer_59 : decode cX4_transfer 59 = .ok (.istore 4, 2) := by decide +kernel
theorem dX4_transfer_61 : decode cX4_transfer 61 = .ok (.aload_n 0, 1) := by decide +kernel
theorem dX4_transfer_62 : decode cX4_transfer 62 = .ok (.iload_n 2, 1) := by decide +kernel
theorem dX4_transfer_63 : decode cX4_transfer 63 = .ok (.iload 4, 2) := by decide +kernel
theorem dX4_transfer_65 : decode cX4_transfer 65 = .ok (.iload_n 3, 1) := by decide +kernel
theorem dX4_transfer_66 : decode cX4_transfer 66 = .ok (.i2l, 1) := by decide +kernel
theorem dX4_transfer_67 : decode cX4_transfer 67 = .ok (.invokevirtual 246, 3) := by decide +kernel
theorem dX4_transfer_70 : decode cX4_transfer 70 = .ok (.iload 4, 2) := by decide +kernel
theorem dX4_transfer_72 : decode cX4_transfer 72 = .ok (.ireturn, 1) := by decide +kernel
theorem dX4_swap_0 : decode cX4_swap 0 = .ok (.aload_n 0, 1) := by decide +kernel
theorem dX4_swap_1 : decode cX4_swap 1 = .ok (.aload_n 0, 1) := by decide +kernel
theorem dX4_swap_2 : decode cX4_swap 2 = .ok (.iload_n 1, 1) := by decide +kernel
theorem dX4_swap_3 : decode cX4_swap 3 = .ok (.invokevirtual 213, 3) := by decide +kernel
theorem dX4_swap_6 : decode cX4_swap 6 = .ok (.ifCond .eq 11, 3) := by decide +kernel
theorem dX4_swap_9 : decode cX4_swap 9 = .ok (.aload_n 0, 1) := by decide +kernel
theorem dX4_swap_10 : decode cX4_swap 10 = .ok (.iload_n 2, 1) := by decide +kernel
theorem dX4_swap_11 : decode cX4_swap 11 = .ok (.invokevirtual 213, 3) := by decide +kernel
theorem dX4_swap_14 : decode cX4_swap 14 = .ok (.ifCond .ne 7, 3) := by decide +kernel
theorem dX4_swap_17 : decode cX4_swap 17 = .ok (.iconst 1, 1) := by decide +kernel
theorem dX4_swap_18 : decode cX4_swap 18 = .ok (.goto 23, 3) := by decide +kernel
theorem dX4_swap_21 : decode cX4_swap 21 = .ok (.aload_n 0, 1) := by decide +kernel
theorem dX4_swap_22 : decode cX4_swap 22 = .ok (.iload_n 1, 1) := by decide +kernel
theorem dX4_swap_23 : decode cX4_swap 23 = .ok (.iconst 0, 1) := by decide +kernel
theorem dX4_swap_24 : decode cX4_swap 24 = .ok (.invokevirtual 216, 3) := by decide +kernel
theorem dX4_swap_27 : decode cX4_swap 27 = .ok (.aload_n 0, 1) := by decide +kernel
theorem dX4_swap_28 : decode cX4_swap 28 = .ok (.iload_n 2, 1) := by decide +kernel
theorem dX4_swap_29 : decode cX4_swap 29 = .ok (.iconst 0, 1) := by decide +kernel
theorem dX4_swap_30 : decode cX4_swap 30 = .ok (.invokevirtual 216, 3) := by decide +kernel
theorem dX4_swap_33 : decode cX4_swap 33 = .ok (.if_icmp .eq 7, 3) := by decide +kernel
theorem dX4_swap_36 : decode cX4_swap 36 = .ok (.iconst 2, 1) := by decide +kernel
theorem dX4_swap_37 : decode cX4_swap 37 = .ok (.goto 4, 3) := by decide +kernel
theorem dX4_swap_40 : decode cX4_swap 40 = .ok (.iconst 0, 1) := by decide +kernel
theorem dX4_swap_41 : decode cX4_swap 41 = .ok (.putfield 77, 3) := by decide +kernel
theorem dX4_swap_44 : decode cX4_swap 44 = .ok (.aload_n 0, 1) := by decide +kernel
theorem dX4_swap_45 : decode cX4_swap 45 = .ok (.getfield 77, 3) := by decide +kernel
theorem dX4_swap_48 : decode cX4_swap 48 = .ok (.ifCond .le 5, 3) := by decide +kernel
theorem dX4_swap_51 : decode cX4_swap 51 = .ok (.iconst 0, 1) := by decide +kernel
theorem dX4_swap_52 : decode cX4_swap 52 = .ok (.ireturn, 1) := by decide +kernel
theorem dX4_swap_53 : decode cX4_swap 53 = .ok (.aload_n 0, 1) := by decide +kernel
theorem dX4_swap_54 : decode cX4_swap 54 = .ok (.iload_n 1, 1) := by decide +kernel
theorem dX4_swap_55 : decode cX4_swap 55 = .ok (.iconst 2, 1) := by decide +kernel
theorem dX4_swap_56 : decode cX4_swap 56 = .ok (.invokestatic 80, 3) := by decide +kernel
theorem dX4_swap_59 : decode cX4_swap 59 = .ok (.aload_n 0, 1) := by decide +kernel
theorem dX4_swap_60 : decode cX4_swap 60 = .ok (.iload_n 2, 1) := by decide +kernel
theorem dX4_swap_61 : decode cX4_swap 61 = .ok (.iconst 2, 1) := by decide +kernel
theorem dX4_swap_62 : decode cX4_swap 62 = .ok (.invokevirtual 216, 3) := by decide +kernel
theorem dX4_swap_65 : decode cX4_swap 65 = .ok (.invokevirtual 322, 3) := by decide +kernel
theorem dX4_swap_68 : decode cX4_swap 68 = .ok (.istore_n 3, 1) := by decide +kernel
theorem dX4_swap_69 : decode cX4_swap 69 = .ok (.aload_n 0, 1) := by decide +kernel
theorem dX4_swap_70 : decode cX4_swap 70 = .ok (.getfield 7, 3) := by decide +kernel
theorem dX4_swap_73 : decode cX4_swap 73 = .ok (.iload_n 2, 1) := by decide +kernel
theorem dX4_swap_74 : decode cX4_swap 74 = .ok (.iconst 2, 1) := by decide +kernel
theorem dX4_swap_75 : decode cX4_swap 75 = .ok (.invokestatic 80, 3) := by decide +kernel
theorem dX4_swap_78 : decode cX4_swap 78 = .ok (.iload_n 3, 1) := by decide +kernel
theorem dX4_swap_79 : decode cX4_swap 79 = .ok (.iastore, 1) := by decide +kernel
theorem dX4_swap_80 : decode cX4_swap 80 = .ok (.aload_n 0, 1) := by decide +kernel
theorem dX4_swap_81 : decode cX4_swap 81 = .ok (.iload_n 1, 1) := by decide +kernel
theorem dX4_swap_82 : decode cX4_swap 82 = .ok (.iconst 2, 1) := by decide +kernel
theorem dX4_swap_83 : decode cX4_swap 83 = .ok (.invokevirtual 216, 3) := by decide +kernel
theorem dX4_swap_86 : decode cX4_swap 86 = .ok (.ireturn, 1) := by decide +kernel
theorem dX4_save_0 : decode cX4_save 0 = .ok (.aload_n 0, 1) := by decide +kernel
theorem dX4_save_1 : decode cX4_save 1 = .ok (.iload_n 1, 1) := by decide +kernel
theorem dX4_save_2 : decode cX4_save 2 = .ok (.iconst 0, 1) := by decide +kernel
theorem dX4_save_3 : decode cX4_save 3 = .ok (.iconst 1, 1) := by decide +kernel
theorem dX4_save_4 : decode cX4_save 4 = .ok (.invokestatic 104, 3) := by decide +kernel
theorem dX4_save_7 : decode cX4_save 7 = .ok (.ifCond .eq 7, 3) := by decide +kernel
theorem dX4_save_10 : decode cX4_save 10 = .ok (.iconst 0, 1) := by decide +kernel
theorem dX4_save_11 : decode cX4_save 11 = .ok (.goto 4, 3) := by decide +kernel
theorem dX4_save_14 : decode cX4_save 14 = .ok (.iconst 1, 1) := by decide +kernel
theorem dX4_save_15 : decode cX4_save 15 = .ok (.putfield 77, 3) := by decide +kernel
theorem dX4_save_18 : decode cX4_save 18 = .ok (.aload_n 0, 1) := by decide +kernel
theorem dX4_save_19 : decode cX4_save 19 = .ok (.getfield 77, 3) := by decide +kernel
theorem dX4_save_22 : decode cX4_save 22 = .ok (.ifCond .le 5, 3) := by decide +kernel
theorem dX4_save_25 : decode cX4_save 25 = .ok (.iconst 0, 1) := by decide +kernel
theorem dX4_save_26 : decode cX4_save 26 = .ok (.ireturn, 1) := by decide +kernel
theorem dX4_save_27 : decode cX4_save 27 = .ok (.aload_n 0, 1) := by decide +kernel
theorem dX4_save_28 : decode cX4_save 28 = .ok (.getfield 38, 3) := by decide +kernel
theorem dX4_save_31 : decode cX4_save 31 = .ok (.iload_n 1, 1) := by decide +kernel
theorem dX4_save_32 : decode cX4_save 32 = .ok (.baload, 1) := by decide +kernel
theorem dX4_save_33 : decode cX4_save 33 = .ok (.istore_n 2, 1) := by decide +kernel
theorem dX4_save_34 : decode cX4_save 34 = .ok (.aload_n 0, 1) := by decide +kernel
theorem dX4_save_35 : decode cX4_save 35 = .ok (.getfield 38, 3) := by decide +kernel
theorem dX4_save_38 : decode cX4_save 38 = .ok (.iload_n 1, 1) := by decide +kernel
theorem dX4_save_39 : decode cX4_save 39 = .ok (.iconst 1, 1) := by decide +kernel
theorem dX4_save_40 : decode cX4_save 40 = .ok (.bastore, 1) := by decide +kernel
theorem dX4_save_41 : decode cX4_save 41 = .ok (.iconst 0, 1) := by decide +kernel
theorem dX4_save_42 : decode cX4_save 42 = .ok (.istore_n 3, 1) := by decide +kernel
theorem dX4_save_43 : decode cX4_save 43 = .ok (.iload_n 3, 1) := by decide +kernel
theorem dX4_save_44 : decode cX4_save 44 = .ok (.sipush 521, 3) := by decide +kernel
theorem dX4_save_47 : decode cX4_save 47 = .ok (.if_icmp .ge 27, 3) := by decide +kernel
theorem dX4_save_50 : decode cX4_save 50 = .ok (.aload_n 0, 1) := by decide +kernel
theorem dX4_save_51 : decode cX4_save 51 = .ok (.getfield 32, 3) := by decide +kernel
theorem dX4_save_54 : decode cX4_save 54 = .ok (.sipush 521, 3) := by decide +kernel
theorem dX4_save_57 : decode cX4_save 57 = .ok (.iload_n 1, 1) := by decide +kernel
theorem dX4_save_58 : decode cX4_save 58 = .ok (.imul, 1) := by decide +kernel
theorem dX4_save_59 : decode cX4_save 59 = .ok (.iload_n 3, 1) := by decide +kernel
theorem dX4_save_60 : decode cX4_save 60 = .ok (.iadd, 1) := by decide +kernel
theorem dX4_save_61 : decode cX4_save 61 = .ok (.aload_n 0, 1) := by decide +kernel
theorem dX4_save_62 : decode cX4_save 62 = .ok (.getfield 7, 3) := by decide +kernel
theorem dX4_save_65 : decode cX4_save 65 = .ok (.iload_n 3, 1) := by decide +kernel
theorem dX4_save_66 : decode cX4_save 66 = .ok (.iaload, 1) := by decide +kernel
theorem dX4_save_67 : decode cX4_save 67 = .ok (.iastore, 1) := by decide +kernel
theorem dX4_save_68 : decode cX4_save 68 = .ok (.iinc 3 1, 3) := by decide +kernel
theorem dX4_save_71 : decode cX4_save 71 = .ok (.goto (-28), 3) := by decide +kernel
theorem dX4_save_74 : decode cX4_save 74 = .ok (.iconst 0, 1) := by decide +kernel
theorem dX4_save_75 : decode cX4_save 75 = .ok (.istore_n 3, 1) := by decide +kernel
theorem dX4_save_76 : decode cX4_save 76 = .ok (.iload_n 3, 1) := by decide +kernel
theorem dX4_save_77 : decode cX4_save 77 = .ok (.bipush 15, 2) := by decide +kernel
theorem dX4_save_79 : decode cX4_save 79 = .ok (.if_icmp .ge 26, 3) := by decide +kernel
theorem dX4_save_82 : decode cX4_save 82 = .ok (.aload_n 0, 1) := by decide +kernel
theorem dX4_save_83 : decode cX4_save 83 = .ok (.getfield 35, 3) := by decide +kernel
theorem dX4_save_86 : decode cX4_save 86 = .ok (.bipush 15, 2) := by decide +kernel
theorem dX4_save_88 : decode cX4_save 88 = .ok (.iload_n 1, 1) := by decide +kernel
theorem dX4_save_89 : decode cX4_save 89 = .ok (.imul, 1) := by decide +kernel
theorem dX4_save_90 : decode cX4_save 90 = .ok (.iload_n 3, 1) := by decide +kernel
theorem dX4_save_91 : decode cX4_save 91 = .ok (.iadd, 1) := by decide +kernel
theorem dX4_save_92 : decode cX4_save 92 = .ok (.aload_n 0, 1) := by decide +kernel
theorem dX4_save_93 : decode cX4_save 93 = .ok (.getfield 22, 3) := by decide +kernel
theorem dX4_save_96 : decode cX4_save 96 = .ok (.iload_n 3, 1) := by decide +kernel
theorem dX4_save_97 : decode cX4_save 97 = .ok (.laload, 1) := by decide +kernel
theorem dX4_save_98 : decode cX4_save 98 = .ok (.lastore, 1) := by decide +kernel
theorem dX4_save_99 : decode cX4_save 99 = .ok (.iinc 3 1, 3) := by decide +kernel
theorem dX4_save_102 : decode cX4_save 102 = .ok (.goto (-26), 3) := by decide +kernel
theorem dX4_save_105 : decode cX4_save 105 = .ok (.iload_n 2, 1) := by decide +kernel
theorem dX4_save_106 : decode cX4_save 106 = .ok (.ireturn, 1) := by decide +kernel
theorem dX4_restore_0 : decode cX4_restore 0 = .ok (.aload_n 0, 1) := by decide +kernel
theorem dX4_restore_1 : decode cX4_restore 1 = .ok (.iload_n 1, 1) := by decide +kernel
theorem dX4_restore_2 : decode cX4_restore 2 = .ok (.iconst 0, 1) := by decide +kernel
theorem dX4_restore_3 : decode cX4_restore 3 = .ok (.iconst 1, 1) := by decide +kernel
theorem dX4_restore_4 : decode cX4_restore 4 = .ok (.invokestatic 104, 3) := by decide +kernel
theorem dX4_restore_7 : decode cX4_restore 7 = .ok (.ifCond .ne 7, 3) := by decide +kernel
theorem dX4_restore_10 : decode cX4_restore 10 = .ok (.iconst 1, 1) := by decide +kernel
theorem dX4_restore_11 : decode cX4_restore 11 = .ok (.goto 17, 3) := by decide +kernel
theorem dX4_restore_14 : decode cX4_restore 14 = .ok (.aload_n 0, 1) := by decide +kernel
theorem dX4_restore_15 : decode cX4_restore 15 = .ok (.getfield 38, 3) := by decide +kernel
theorem dX4_restore_18 : decode cX4_restore 18 = .ok (.iload_n 1, 1) := by decide +kernel
theorem dX4_restore_19 : decode cX4_restore 19 = .ok (.baload, 1) := by decide +kernel
theorem dX4_restore_20 : decode cX4_restore 20 = .ok (.ifCond .ne 7, 3) := by decide +kernel
theorem dX4_restore_23 : decode cX4_restore 23 = .ok (.iconst 2, 1) := by decide +kernel
theorem dX4_restore_24 : decode cX4_restore 24 = .ok (.goto 4, 3) := by decide +kernel
theorem dX4_restore_27 : decode cX4_restore 27 = .ok (.iconst 0, 1) := by decide +kernel
theorem dX4_restore_28 : decode cX4_restore 28 = .ok (.putfield 77, 3) := by decide +kernel
theorem dX4_restore_31 : decode cX4_restore 31 = .ok (.aload_n 0, 1) := by decide +kernel
theorem dX4_restore_32 : decode cX4_restore 32 = .ok (.getfield 77, 3) := by decide +kernel
theorem dX4_restore_35 : decode cX4_restore 35 = .ok (.ifCond .le 5, 3) := by decide +kernel
theorem dX4_restore_38 : decode cX4_restore 38 = .ok (.iconst 0, 1) := by decide +kernel
theorem dX4_restore_39 : decode cX4_restore 39 = .ok (.ireturn, 1) := by decide +kernel
theorem dX4_restore_40 : decode cX4_restore 40 = .ok (.iconst 0, 1) := by decide +kernel
theorem dX4_restore_41 : decode cX4_restore 41 = .ok (.istore_n 2, 1) := by decide +kernel
theorem dX4_restore_42 : decode cX4_restore 42 = .ok (.iload_n 2, 1) := by decide +kernel
theorem dX4_restore_43 : decode cX4_restore 43 = .ok (.sipush 521, 3) := by decide +kernel
theorem dX4_restore_46 : decode cX4_restore 46 = .ok (.if_icmp .ge 27, 3) := by decide +kernel
theorem dX4_restore_49 : decode cX4_restore 49 = .ok (.aload_n 0, 1) := by decide +kernel
theorem dX4_restore_50 : decode cX4_restore 50 = .ok (.getfield 7, 3) := by decide +kernel
theorem dX4_restore_53 : decode cX4_restore 53 = .ok (.iload_n 2, 1) := by decide +kernel
theorem dX4_restore_54 : decode cX4_restore 54 = .ok (.aload_n 0, 1) := by decide +kernel
theorem dX4_restore_55 : decode cX4_restore 55 = .ok (.getfield 32, 3) := by decide +kernel
theorem dX4_restore_58 : decode cX4_restore 58 = .ok (.sipush 521, 3) := by decide +kernel
theorem dX4_restore_61 : decode cX4_restore 61 = .ok (.iload_n 1, 1) := by decide +kernel
theorem dX4_restore_62 : decode cX4_restore 62 = .ok (.imul, 1) := by decide +kernel
theorem dX4_restore_63 : decode cX4_restore 63 = .ok (.iload_n 2, 1) := by decide +kernel
theorem dX4_restore_64 : decode cX4_restore 64 = .ok (.iadd, 1) := by decide +kernel
theorem dX4_restore_65 : decode cX4_restore 65 = .ok (.iaload, 1) := by decide +kernel
theorem dX4_restore_66 : decode cX4_restore 66 = .ok (.iastore, 1) := by decide +kernel
theorem dX4_restore_67 : decode cX4_restore 67 = .ok (.iinc 2 1, 3) := by decide +kernel
theorem dX4_restore_70 : decode cX4_restore 70 = .ok (.goto (-28), 3) := by decide +kernel
theorem dX4_restore_73 : decode cX4_restore 73 = .ok (.iconst 0, 1) := by decide +kernel
theorem dX4_restore_74 : decode cX4_restore 74 = .ok (.istore_n 2, 1) := by decide +kernel
theorem dX4_restore_75 : decode cX4_restore 75 = .ok (.iload_n 2, 1) := by decide +kernel
theorem dX4_restore_76 : decode cX4_restore 76 = .ok (.bipush 15, 2) := by decide +kernel
theorem dX4_restore_78 : decode cX4_restore 78 = .ok (.if_icmp .ge 26, 3) := by decide +kernel
theorem dX4_restore_81 : decode cX4_restore 81 = .ok (.aload_n 0, 1) := by decide +kernel
theorem dX4_restore_82 : decode cX4_restore 82 = .ok (.getfield 22, 3) := by decide +kernel
theorem dX4_restore_85 : decode cX4_restore 85 = .ok (.iload_n 2, 1) := by decide +kernel
theorem dX4_restore_86 : decode cX4_restore 86 = .ok (.aload_n 0, 1) := by decide +kernel
theorem dX4_restore_87 : decode cX4_restore 87 = .ok (.getfield 35, 3) := by decide +kernel
theorem dX4_restore_90 : decode cX4_restore 90 = .ok (.bipush 15, 2) := by decide +kernel
theorem dX4_restore_92 : decode cX4_restore 92 = .ok (.iload_n 1, 1) := by decide +kernel
theorem dX4_restore_93 : decode cX4_restore 93 = .ok (.imul, 1) := by decide +kernel
theorem dX4_restore_94 : decode cX4_restore 94 = .ok (.iload_n 2, 1) := by decide +kernel
theorem dX4_restore_95 : decode cX4_restore 95 = .ok (.iadd, 1) := by decide +kernel
theorem dX4_restore_96 : decode cX4_restore 96 = .ok (.laload, 1) := by decide +kernel
theorem dX4_restore_97 : decode cX4_restore 97 = .ok (.lastore, 1) := by decide +kernel
theorem dX4_restore_98 : decode cX4_restore 98 = .ok (.iinc 2 1, 3) := by decide +kernel
theorem dX4_restore_101 : decode cX4_restore 101 = .ok (.goto (-26), 3) := by decide +kernel
theorem dX4_restore_104 : decode cX4_restore 104 = .ok (.aload_n 0, 1) := by decide +kernel
theorem dX4_restore_105 : decode cX4_restore 105 = .ok (.iconst 0, 1) := by decide +kernel
theorem dX4_restore_106 : decode cX4_restore 106 = .ok (.putfield 194, 3) := by decide +kernel
theorem dX4_restore_109 : decode cX4_restore 109 = .ok (.aload_n 0, 1) := by decide +kernel
theorem dX4_restore_110 : decode cX4_restore 110 = .ok (.getfield 7, 3) := by decide +kernel
theorem dX4_restore_113 : decode cX4_restore 113 = .ok (.iconst 5, 1) := by decide +kernel
theorem dX4_restore_114 : decode cX4_restore 114 = .ok (.iaload, 1) := by decide +kernel
theorem dX4_restore_115 : decode cX4_restore 115 = .ok (.ireturn, 1) := by decide +kernel
theorem dX4_undo_0 : decode cX4_undo 0 = .ok (.aload_n 0, 1) := by decide +kernel
theorem dX4_undo_1 : decode cX4_undo 1 = .ok (.iconst 0, 1) := by decide +kernel
theorem dX4_undo_2 : decode cX4_undo 2 = .ok (.putfield 77, 3) := by decide +kernel
theorem dX4_undo_5 : decode cX4_undo 5 = .ok (.aload_n 0, 1) := by decide +kernel
theorem dX4_undo_6 : decode cX4_undo 6 = .ok (.getfield 194, 3) := by decide +kernel
theorem dX4_undo_9 : decode cX4_undo 9 = .ok (.ifCond .ne 5, 3) := by decide +kernel
theorem dX4_undo_12 : decode cX4_undo 12 = .ok (.iconst (-1), 1) := by decide +kernel
theorem dX4_undo_13 : decode cX4_undo 13 = .ok (.ireturn, 1) := by decide +kernel
theorem dX4_undo_14 : decode cX4_undo 14 = .ok (.aload_n 0, 1) := by decide +kernel
theorem dX4_undo_15 : decode cX4_undo 15 = .ok (.dup, 1) := by decide +kernel
theorem dX4_undo_16 : decode cX4_undo 16 = .ok (.getfield 194, 3) := by decide +kernel
theorem dX4_undo_19 : decode cX4_undo 19 = .ok (.iconst 1, 1) := by decide +kernel
theorem dX4_undo_20 : decode cX4_undo 20 = .ok (.isub, 1) := by decide +kernel
theorem dX4_undo_21 : decode cX4_undo 21 = .ok (.putfield 194, 3) := by decide +kernel
theorem dX4_undo_24 : decode cX4_undo 24 = .ok (.iconst 0, 1) := by decide +kernel
theorem dX4_undo_25 : decode cX4_undo 25 = .ok (.istore_n 1, 1) := by decide +kernel
theorem dX4_undo_26 : decode cX4_undo 26 = .ok (.iload_n 1, 1) := by decide +kernel
theorem dX4_undo_27 : decode cX4_undo 27 = .ok (.sipush 521, 3) := by decide +kernel
theorem dX4_undo_30 : decode cX4_undo 30 = .ok (.if_icmp .ge 30, 3) := by decide +kernel
theorem dX4_undo_33 : decode cX4_undo 33 = .ok (.aload_n 0, 1) := by decide +kernel
theorem dX4_undo_34 : decode cX4_undo 34 = .ok (.getfield 7, 3) := by decide +kernel
theorem dX4_undo_37 : decode cX4_undo 37 = .ok (.iload_n 1, 1) := by decide +kernel
theorem dX4_undo_38 : decode cX4_undo 38 = .ok (.aload_n 0, 1) := by decide +kernel
theorem dX4_undo_39 : decode cX4_undo 39 = .ok (.getfield 19, 3) := by decide +kernel
theorem dX4_undo_42 : decode cX4_undo 42 = .ok (.sipush 521, 3) := by decide +kernel
theorem dX4_undo_45 : decode cX4_undo 45 = .ok (.aload_n 0, 1) := by decide +kernel
theorem dX4_undo_46 : decode cX4_undo 46 = .ok (.getfield 194, 3) := by decide +kernel
theorem dX4_undo_49 : decode cX4_undo 49 = .ok (.imul, 1) := by decide +kernel
theorem dX4_undo_50 : decode cX4_undo 50 = .ok (.iload_n 1, 1) := by decide +kernel
theorem dX4_undo_51 : decode cX4_undo 51 = .ok (.iadd, 1) := by decide +kernel
theorem dX4_undo_52 : decode cX4_undo 52 = .ok (.iaload, 1) := by decide +kernel
theorem dX4_undo_53 : decode cX4_undo 53 = .ok (.iastore, 1) := by decide +kernel
theorem dX4_undo_54 : decode cX4_undo 54 = .ok (.iinc 1 1, 3) := by decide +kernel
theorem dX4_undo_57 : decode cX4_undo 57 = .ok (.goto (-31), 3) := by decide +kernel
theorem dX4_undo_60 : decode cX4_undo 60 = .ok (.iconst 0, 1) := by decide +kernel
theorem dX4_undo_61 : decode cX4_undo 61 = .ok (.istore_n 1, 1) := by decide +kernel
theorem dX4_undo_62 : decode cX4_undo 62 = .ok (.iload_n 1, 1) := by decide +kernel
theorem dX4_undo_63 : decode cX4_undo 63 = .ok (.bipush 15, 2) := by decide +kernel
theorem dX4_undo_65 : decode cX4_undo 65 = .ok (.if_icmp .ge 29, 3) := by decide +kernel
theorem dX4_undo_68 : decode cX4_undo 68 = .ok (.aload_n 0, 1) := by decide +kernel
theorem dX4_undo_69 : decode cX4_undo 69 = .ok (.getfield 22, 3) := by decide +kernel
theorem dX4_undo_72 : decode cX4_undo 72 = .ok (.iload_n 1, 1) := by decide +kernel
theorem dX4_undo_73 : decode cX4_undo 73 = .ok (.aload_n 0, 1) := by decide +kernel
theorem dX4_undo_74 : decode cX4_undo 74 = .ok (.getfield 29, 3) := by decide +kernel
theorem dX4_undo_77 : decode cX4_undo 77 = .ok (.bipush 15, 2) := by decide +kernel
theorem dX4_undo_79 : decode cX4_undo 79 = .ok (.aload_n 0, 1) := by decide +kernel
theorem dX4_undo_80 : decode cX4_undo 80 = .ok (.getfield 194, 3) := by decide +kernel
theorem dX4_undo_83 : decode cX4_undo 83 = .ok (.imul, 1) := by decide +kernel
theorem dX4_undo_84 : decode cX4_undo 84 = .ok (.iload_n 1, 1) := by decide +kernel
theorem dX4_undo_85 : decode cX4_undo 85 = .ok (.iadd, 1) := by decide +kernel
theorem dX4_undo_86 : decode cX4_undo 86 = .ok (.laload, 1) := by decide +kernel
theorem dX4_undo_87 : decode cX4_undo 87 = .ok (.lastore, 1) := by decide +kernel
theorem dX4_undo_88 : decode cX4_undo 88 = .ok (.iinc 1 1, 3) := by decide +kernel
theorem dX4_undo_91 : decode cX4_undo 91 = .ok (.goto (-29), 3) := by decide +kernel
theorem dX4_undo_94 : decode cX4_undo 94 = .ok (.aload_n 0, 1) := by decide +kernel
theorem dX4_undo_95 : decode cX4_undo 95 = .ok (.getfield 194, 3) := by decide +kernel
theorem dX4_undo_98 : decode cX4_undo 98 = .ok (.ireturn, 1) := by decide +kernel
theorem dX4_undoDepth_0 : decode cX4_undoDepth 0 = .ok (.aload_n 0, 1) := by decide +kernel
theorem dX4_undoDepth_1 : decode cX4_undoDepth 1 = .ok (.iconst 0, 1) := by decide +kernel
theorem dX4_undoDepth_2 : decode cX4_undoDepth 2 = .ok (.putfield 77, 3) := by decide +kernel
theorem dX4_undoDepth_5 : decode cX4_undoDepth 5 = .ok (.aload_n 0, 1) := by decide +kernel
theorem dX4_undoDepth_6 : decode cX4_undoDepth 6 = .ok (.getfield 194, 3) := by decide +kernel
theorem dX4_undoDepth_9 : decode cX4_undoDepth 9 = .ok (.ireturn, 1) := by decide +kernel
theorem dX4_says_0 : decode cX4_says 0 = .ok (.aload_n 0, 1) := by decide +kernel
theorem dX4_says_1 : decode cX4_says 1 = .ok (.getfield 68, 3) := by decide +kernel
theorem dX4_says_4 : decode cX4_says 4 = .ok (.aload_n 0, 1) := by decide +kernel
theorem dX4_says_5 : decode cX4_says 5 = .ok (.getfield 325, 3) := by decide +kernel
theorem dX4_says_8 : decode cX4_says 8 = .ok (.iload_n 1, 1) := by decide +kernel
theorem dX4_says_9 : decode cX4_says 9 = .ok (.iastore, 1) := by decide +kernel
theorem dX4_says_10 : decode cX4_says 10 = .ok (.aload_n 0, 1) := by decide +kernel
theorem dX4_says_11 : decode cX4_says 11 = .ok (.dup, 1) := by decide +kernel
theorem dX4_says_12 : decode cX4_says 12 = .ok (.getfield 325, 3) := by decide +kernel
theorem dX4_says_15 : decode cX4_says 15 = .ok (.iconst 1, 1) := by decide +kernel
theorem dX4_says_16 : decode cX4_says 16 = .ok (.iadd, 1) := by decide +kernel
theorem dX4_says_17 : decode cX4_says 17 = .ok (.putfield 325, 3) := by decide +kernel
theorem dX4_says_20 : decode cX4_says 20 = .ok (.return_, 1) := by decide +kernel
theorem dX4_saysNumber_0 : decode cX4_saysNumber 0 = .ok (.iconst 1, 1) := by decide +kernel
theorem dX4_saysNumber_1 : decode cX4_saysNumber 1 = .ok (.istore_n 2, 1) := by decide +kernel
theorem dX4_saysNumber_2 : decode cX4_saysNumber 2 = .ok (.iload_n 1, 1) := by decide +kernel
theorem dX4_saysNumber_3 : decode cX4_saysNumber 3 = .ok (.iload_n 2, 1) := by decide +kernel
theorem dX4_saysNumber_4 : decode cX4_saysNumber 4 = .ok (.idiv, 1) := by decide +kernel
theorem dX4_saysNumber_5 : decode cX4_saysNumber 5 = .ok (.bipush 9, 2) := by decide +kernel
theorem dX4_saysNumber_7 : decode cX4_saysNumber 7 = .ok (.if_icmp .le 11, 3) := by decide +kernel
theorem dX4_saysNumber_10 : decode cX4_saysNumber 10 = .ok (.iload_n 2, 1) := by decide +kernel
theorem dX4_saysNumber_11 : decode cX4_saysNumber 11 = .ok (.bipush 10, 2) := by decide +kernel
theorem dX4_saysNumber_13 : decode cX4_saysNumber 13 = .ok (.imul, 1) := by decide +kernel
theorem dX4_saysNumber_14 : decode cX4_saysNumber 14 = .ok (.istore_n 2, 1) := by decide +kernel
theorem dX4_saysNumber_15 : decode cX4_saysNumber 15 = .ok (.goto (-13), 3) := by decide +kernel
theorem dX4_saysNumber_18 : decode cX4_saysNumber 18 = .ok (.iload_n 2, 1) := by decide +kernel
theorem dX4_saysNumber_19 : decode cX4_saysNumber 19 = .ok (.ifCond .le 24, 3) := by decide +kernel
theorem dX4_saysNumber_22 : decode cX4_saysNumber 22 = .ok (.aload_n 0, 1) := by decide +kernel
theorem dX4_saysNumber_23 : decode cX4_saysNumber 23 = .ok (.bipush 48, 2) := by decide +kernel
theorem dX4_saysNumber_25 : decode cX4_saysNumber 25 = .ok (.iload_n 1, 1) := by decide +kernel
theorem dX4_saysNumber_26 : decode cX4_saysNumber 26 = .ok (.iload_n 2, 1) := by decide +kernel
theorem dX4_saysNumber_27 : decode cX4_saysNumber 27 = .ok (.idiv, 1) := by decide +kernel
theorem dX4_saysNumber_28 : decode cX4_saysNumber 28 = .ok (.bipush 10, 2) := by decide +kernel
theorem dX4_saysNumber_30 : decode cX4_saysNumber 30 = .ok (.irem, 1) := by decide +kernel
theorem dX4_saysNumber_31 : decode cX4_saysNumber 31 = .ok (.iadd, 1) := by decide +kernel
theorem dX4_saysNumber_32 : decode cX4_saysNumber 32 = .ok (.invokevirtual 328, 3) := by decide +kernel
theorem dX4_saysNumber_35 : decode cX4_saysNumber 35 = .ok (.iload_n 2, 1) := by decide +kernel
theorem dX4_saysNumber_36 : decode cX4_saysNumber 36 = .ok (.bipush 10, 2) := by decide +kernel
theorem dX4_saysNumber_38 : decode cX4_saysNumber 38 = .ok (.idiv, 1) := by decide +kernel
theorem dX4_saysNumber_39 : decode cX4_saysNumber 39 = .ok (.istore_n 2, 1) := by decide +kernel
theorem dX4_saysNumber_40 : decode cX4_saysNumber 40 = .ok (.goto (-22), 3) := by decide +kernel
theorem dX4_saysNumber_43 : decode cX4_saysNumber 43 = .ok (.return_, 1) := by decide +kernel
theorem dX4_formatClaims_0 : decode cX4_formatClaims 0 = .ok (.aload_n 0, 1) := by decide +kernel
theorem dX4_formatClaims_1 : decode cX4_formatClaims 1 = .ok (.iconst 0, 1) := by decide +kernel
theorem dX4_formatClaims_2 : decode cX4_formatClaims 2 = .ok (.putfield 77, 3) := by decide +kernel
theorem dX4_formatClaims_5 : decode cX4_formatClaims 5 = .ok (.aload_n 0, 1) := by decide +kernel
theorem dX4_formatClaims_6 : decode cX4_formatClaims 6 = .ok (.iconst 0, 1) := by decide +kernel
theorem dX4_formatClaims_7 : decode cX4_formatClaims 7 = .ok (.putfield 325, 3) := by decide +kernel
theorem dX4_formatClaims_10 : decode cX4_formatClaims 10 = .ok (.iconst 0, 1) := by decide +kernel
theorem dX4_formatClaims_11 : decode cX4_formatClaims 11 = .ok (.istore_n 1, 1) := by decide +kernel
theorem dX4_formatClaims_12 : decode cX4_formatClaims 12 = .ok (.iload_n 1, 1) := by decide +kernel
theorem dX4_formatClaims_13 : decode cX4_formatClaims 13 = .ok (.aload_n 0, 1) := by decide +kernel
theorem dX4_formatClaims_14 : decode cX4_formatClaims 14 = .ok (.getfield 7, 3) := by decide +kernel
theorem dX4_formatClaims_17 : decode cX4_formatClaims 17 = .ok (.bipush 56, 2) := by decide +kernel
theorem dX4_formatClaims_19 : decode cX4_formatClaims 19 = .ok (.iaload, 1) := by decide +kernel
theorem dX4_formatClaims_20 : decode cX4_formatClaims 20 = .ok (.if_icmp .ge 96, 3) := by decide +kernel
theorem dX4_formatClaims_23 : decode cX4_formatClaims 23 = .ok (.iload_n 1, 1) := by decide +kernel
theorem dX4_formatClaims_24 : decode cX4_formatClaims 24 = .ok (.ifCond .le 9, 3) := by decide +kernel
theorem dX4_formatClaims_27 : decode cX4_formatClaims 27 = .ok (.aload_n 0, 1) := by decide +kernel
theorem dX4_formatClaims_28 : decode cX4_formatClaims 28 = .ok (.bipush 32, 2) := by decide +kernel
theorem dX4_formatClaims_30 : decode cX4_formatClaims 30 = .ok (.invokevirtual 328, 3) := by decide +kernel
theorem dX4_formatClaims_33 : decode cX4_formatClaims 33 = .ok (.aload_n 0, 1) := by decide +kernel
theorem dX4_formatClaims_34 : decode cX4_formatClaims 34 = .ok (.aload_n 0, 1) := by decide +kernel
theorem dX4_formatClaims_35 : decode cX4_formatClaims 35 = .ok (.iload_n 1, 1) := by decide +kernel
theorem dX4_formatClaims_36 : decode cX4_formatClaims 36 = .ok (.iconst 0, 1) := by decide +kernel
theorem dX4_formatClaims_37 : decode cX4_formatClaims 37 = .ok (.invokevirtual 278, 3) := by decide +kernel
theorem dX4_formatClaims_40 : decode cX4_formatClaims 40 = .ok (.ifCond .ne 8, 3) := by decide +kernel
theorem dX4_formatClaims_43 : decode cX4_formatClaims 43 = .ok (.bipush 114, 2) := by decide +kernel
theorem dX4_formatClaims_45 : decode cX4_formatClaims 45 = .ok (.goto 20, 3) := by decide +kernel
theorem dX4_formatClaims_48 : decode cX4_formatClaims 48 = .ok (.aload_n 0, 1) := by decide +kernel
theorem dX4_formatClaims_49 : decode cX4_formatClaims 49 = .ok (.iload_n 1, 1) := by decide +kernel
theorem dX4_formatClaims_50 : decode cX4_formatClaims 50 = .ok (.iconst 0, 1) := by decide +kernel
theorem dX4_formatClaims_51 : decode cX4_formatClaims 51 = .ok (.invokevirtual 278, 3) := by decide +kernel
theorem dX4_formatClaims_54 : decode cX4_formatClaims 54 = .ok (.iconst 1, 1) := by decide +kernel
theorem dX4_formatClaims_55 : decode cX4_formatClaims 55 = .ok (.if_icmp .ne 8, 3) := by decide +kernel
theorem dX4_formatClaims_58 : decode cX4_formatClaims 58 = .ok (.bipush 108, 2) := by decide +kernel
theorem dX4_formatClaims_60 : decode cX4_formatClaims 60 = .ok (.goto 5, 3) := by decide +kernel
theorem dX4_formatClaims_63 : decode cX4_formatClaims 63 = .ok (.bipush 111, 2) := by decide +kernel
theorem dX4_formatClaims_65 : decode cX4_formatClaims 65 = .ok (.invokevirtual 328, 3) := by decide +kernel
theorem dX4_formatClaims_68 : decode cX4_formatClaims 68 = .ok (.aload_n 0, 1) := by decide +kernel
theorem dX4_formatClaims_69 : decode cX4_formatClaims 69 = .ok (.aload_n 0, 1) := by decide +kernel
theorem dX4_formatClaims_70 : decode cX4_formatClaims 70 = .ok (.iload_n 1, 1) := by decide +kernel
theorem dX4_formatClaims_71 : decode cX4_formatClaims 71 = .ok (.iconst 1, 1) := by decide +kernel
theorem dX4_formatClaims_72 : decode cX4_formatClaims 72 = .ok (.invokevirtual 278, 3) := by decide +kernel
theorem dX4_formatClaims_75 : decode cX4_formatClaims 75 = .ok (.invokevirtual 331, 3) := by decide +kernel
theorem dX4_formatClaims_78 : decode cX4_formatClaims 78 = .ok (.aload_n 0, 1) := by decide +kernel
theorem dX4_formatClaims_79 : decode cX4_formatClaims 79 = .ok (.bipush 58, 2) := by decide +kernel
theorem dX4_formatClaims_81 : decode cX4_formatClaims 81 = .ok (.invokevirtual 328, 3) := by decide +kernel
theorem dX4_formatClaims_84 : decode cX4_formatClaims 84 = .ok (.aload_n 0, 1) := by decide +kernel
theorem dX4_formatClaims_85 : decode cX4_formatClaims 85 = .ok (.aload_n 0, 1) := by decide +kernel
theorem dX4_formatClaims_86 : decode cX4_formatClaims 86 = .ok (.iload_n 1, 1) := by decide +kernel
theorem dX4_formatClaims_87 : decode cX4_formatClaims 87 = .ok (.iconst 5, 1) := by decide +kernel
theorem dX4_formatClaims_88 : decode cX4_formatClaims 88 = .ok (.invokevirtual 278, 3) := by decide +kernel
theorem dX4_formatClaims_91 : decode cX4_formatClaims 91 = .ok (.invokevirtual 331, 3) := by decide +kernel
theorem dX4_formatClaims_94 : decode cX4_formatClaims 94 = .ok (.aload_n 0, 1) := by decide +kernel
theorem dX4_formatClaims_95 : decode cX4_formatClaims 95 = .ok (.bipush 47, 2) := by decide +kernel
theorem dX4_formatClaims_97 : decode cX4_formatClaims 97 = .ok (.invokevirtual 328, 3) := by decide +kernel
theorem dX4_formatClaims_100 : decode cX4_formatClaims 100 = .ok (.aload_n 0, 1) := by decide +kernel
theorem dX4_formatClaims_101 : decode cX4_formatClaims 101 = .ok (.aload_n 0, 1) := by decide +kernel
theorem dX4_formatClaims_102 : decode cX4_formatClaims 102 = .ok (.iload_n 1, 1) := by decide +kernel
theorem dX4_formatClaims_103 : decode cX4_formatClaims 103 = .ok (.iconst 4, 1) := by decide +kernel
theorem dX4_formatClaims_104 : decode cX4_formatClaims 104 = .ok (.invokevirtual 278, 3) := by decide +kernel
theorem dX4_formatClaims_107 : decode cX4_formatClaims 107 = .ok (.invokevirtual 331, 3) := by decide +kernel
theorem dX4_formatClaims_110 : decode cX4_formatClaims 110 = .ok (.iinc 1 1, 3) := by decide +kernel
theorem dX4_formatClaims_113 : decode cX4_formatClaims 113 = .ok (.goto (-101), 3) := by decide +kernel
theorem dX4_formatClaims_116 : decode cX4_formatClaims 116 = .ok (.aload_n 0, 1) := by decide +kernel
theorem dX4_formatClaims_117 : decode cX4_formatClaims 117 = .ok (.getfield 325, 3) := by decide +kernel
theorem dX4_formatClaims_120 : decode cX4_formatClaims 120 = .ok (.ireturn, 1) := by decide +kernel
theorem dX4_formatRiver_0 : decode cX4_formatRiver 0 = .ok (.aload_n 0, 1) := by decide +kernel
theorem dX4_formatRiver_1 : decode cX4_formatRiver 1 = .ok (.iconst 0, 1) := by decide +kernel
theorem dX4_formatRiver_2 : decode cX4_formatRiver 2 = .ok (.putfield 77, 3) := by decide +kernel
theorem dX4_formatRiver_5 : decode cX4_formatRiver 5 = .ok (.aload_n 0, 1) := by decide +kernel
theorem dX4_formatRiver_6 : decode cX4_formatRiver 6 = .ok (.iconst 0, 1) := by decide +kernel
theorem dX4_formatRiver_7 : decode cX4_formatRiver 7 = .ok (.putfield 325, 3) := by decide +kernel
theorem dX4_formatRiver_10 : decode cX4_formatRiver 10 = .ok (.iconst 0, 1) := by decide +kernel
theorem dX4_formatRiver_11 : decode cX4_formatRiver 11 = .ok (.istore_n 1, 1) := by decide +kernel
theorem dX4_formatRiver_12 : decode cX4_formatRiver 12 = .ok (.iload_n 1, 1) := by decide +kernel
theorem dX4_formatRiver_13 : decode cX4_formatRiver 13 = .ok (.aload_n 0, 1) := by decide +kernel
theorem dX4_formatRiver_14 : decode cX4_formatRiver 14 = .ok (.getfield 7, 3) := by decide +kernel
theorem dX4_formatRiver_17 : decode cX4_formatRiver 17 = .ok (.iconst 0, 1) := by decide +kernel
theorem dX4_formatRiver_18 : decode cX4_formatRiver 18 = .ok (.iaload, 1) := by decide +kernel
theorem dX4_formatRiver_19 : decode cX4_formatRiver 19 = .ok (.if_icmp .ge 29, 3) := by decide +kernel
theorem dX4_formatRiver_22 : decode cX4_formatRiver 22 = .ok (.iload_n 1, 1) := by decide +kernel
theorem dX4_formatRiver_23 : decode cX4_formatRiver 23 = .ok (.ifCond .le 9, 3) := by decide +kernel
theorem dX4_formatRiver_26 : decode cX4_formatRiver 26 = .ok (.aload_n 0, 1) := by decide +kernel
theorem dX4_formatRiver_27 : decode cX4_formatRiver 27 = .ok (.bipush 62, 2) := by decide +kernel
theorem dX4_formatRiver_29 : decode cX4_formatRiver 29 = .ok (.invokevirtual 328, 3) := by decide +kernel
theorem dX4_formatRiver_32 : decode cX4_formatRiver 32 = .ok (.aload_n 0, 1) := by decide +kernel
theorem dX4_formatRiver_33 : decode cX4_formatRiver 33 = .ok (.aload_n 0, 1) := by decide +kernel
theorem dX4_formatRiver_34 : decode cX4_formatRiver 34 = .ok (.iload_n 1, 1) := by decide +kernel
theorem dX4_formatRiver_35 : decode cX4_formatRiver 35 = .ok (.iconst 2, 1) := by decide +kernel
theorem dX4_formatRiver_36 : decode cX4_formatRiver 36 = .ok (.invokevirtual 290, 3) := by decide +kernel
theorem dX4_formatRiver_39 : decode cX4_formatRiver 39 = .ok (.invokevirtual 331, 3) := by decide +kernel
theorem dX4_formatRiver_42 : decode cX4_formatRiver 42 = .ok (.iinc 1 1, 3) := by decide +kernel
theorem dX4_formatRiver_45 : decode cX4_formatRiver 45 = .ok (.goto (-33), 3) := by decide +kernel
theorem dX4_formatRiver_48 : decode cX4_formatRiver 48 = .ok (.aload_n 0, 1) := by decide +kernel
theorem dX4_formatRiver_49 : decode cX4_formatRiver 49 = .ok (.getfield 325, 3) := by decide +kernel
theorem dX4_formatRiver_52 : decode cX4_formatRiver 52 = .ok (.ireturn, 1) := by decide +kernel
theorem dX4_formattedByte_0 : decode cX4_formattedByte 0 = .ok (.aload_n 0, 1) := by decide +kernel
theorem dX4_formattedByte_1 : decode cX4_formattedByte 1 = .ok (.iconst 0, 1) := by decide +kernel
theorem dX4_formattedByte_2 : decode cX4_formattedByte 2 = .ok (.putfield 77, 3) := by decide +kernel
theorem dX4_formattedByte_5 : decode cX4_formattedByte 5 = .ok (.iload_n 1, 1) := by decide +kernel
theorem dX4_formattedByte_6 : decode cX4_formattedByte 6 = .ok (.iconst 0, 1) := by decide +kernel
theorem dX4_formattedByte_7 : decode cX4_formattedByte 7 = .ok (.aload_n 0, 1) := by decide +kernel
theorem dX4_formattedByte_8 : decode cX4_formattedByte 8 = .ok (.getfield 325, 3) := by decide +kernel
theorem dX4_formattedByte_11 : decode cX4_formattedByte 11 = .ok (.iconst 1, 1) := by decide +kernel
theorem dX4_formattedByte_12 : decode cX4_formattedByte 12 = .ok (.isub, 1) := by decide +kernel
theorem dX4_formattedByte_13 : decode cX4_formattedByte 13 = .ok (.invokestatic 104, 3) := by decide +kernel
theorem dX4_formattedByte_16 : decode cX4_formattedByte 16 = .ok (.ifCond .eq 12, 3) := by decide +kernel
theorem dX4_formattedByte_19 : decode cX4_formattedByte 19 = .ok (.aload_n 0, 1) := by decide +kernel
theorem dX4_formattedByte_20 : decode cX4_formattedByte 20 = .ok (.getfield 68, 3) := by decide +kernel
theorem dX4_formattedByte_23 : decode cX4_formattedByte 23 = .ok (.iload_n 1, 1) := by decide +kernel
theorem dX4_formattedByte_24 : decode cX4_formattedByte 24 = .ok (.iaload, 1) := by decide +kernel
theorem dX4_formattedByte_25 : decode cX4_formattedByte 25 = .ok (.goto 4, 3) := by decide +kernel
theorem dX4_formattedByte_28 : decode cX4_formattedByte 28 = .ok (.iconst (-1), 1) := by decide +kernel
theorem dX4_formattedByte_29 : decode cX4_formattedByte 29 = .ok (.ireturn, 1) := by decide +kernel
