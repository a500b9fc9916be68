theorem dX0_init_0 : decode cX0_init 0 = .ok (.aload_n 0, 1) := by decide +kernel
theorem dX0_init_1 : decode cX0_init 1 = .ok (.invokespecial 3, 3) := by decide +kernel
theorem dX0_init_4 : decode cX0_init 4 = .ok (.aload_n 0, 1) := by decide +kernel
theorem dX0_init_5 : decode cX0_init 5 = .ok (.sipush 900, 3) := by decide +kernel
theorem dX0_init_8 : decode cX0_init 8 = .ok (.newarray .byte, 2) := by decide +kernel
theorem dX0_init_10 : decode cX0_init 10 = .ok (.putfield 9, 3) := by decide +kernel
theorem dX0_init_13 : decode cX0_init 13 = .ok (.aload_n 0, 1) := by decide +kernel
theorem dX0_init_14 : decode cX0_init 14 = .ok (.new 15, 3) := by decide +kernel
theorem dX0_init_17 : decode cX0_init 17 = .ok (.dup, 1) := by decide +kernel
theorem dX0_init_18 : decode cX0_init 18 = .ok (.invokespecial 17, 3) := by decide +kernel
theorem dX0_init_21 : decode cX0_init 21 = .ok (.putfield 18, 3) := by decide +kernel
theorem dX0_init_24 : decode cX0_init 24 = .ok (.aload_n 0, 1) := by decide +kernel
theorem dX0_init_25 : decode cX0_init 25 = .ok (.iconst (-1), 1) := by decide +kernel
theorem dX0_init_26 : decode cX0_init 26 = .ok (.putfield 22, 3) := by decide +kernel
theorem dX0_init_29 : decode cX0_init 29 = .ok (.return_, 1) := by decide +kernel
theorem dX0_addWord_0 : decode cX0_addWord 0 = .ok (.bipush 24, 2) := by decide +kernel
theorem dX0_addWord_2 : decode cX0_addWord 2 = .ok (.istore_n 2, 1) := by decide +kernel
theorem dX0_addWord_3 : decode cX0_addWord 3 = .ok (.iload_n 2, 1) := by decide +kernel
theorem dX0_addWord_4 : decode cX0_addWord 4 = .ok (.ifCond .lt 42, 3) := by decide +kernel
theorem dX0_addWord_7 : decode cX0_addWord 7 = .ok (.aload_n 0, 1) := by decide +kernel
theorem dX0_addWord_8 : decode cX0_addWord 8 = .ok (.getfield 26, 3) := by decide +kernel
theorem dX0_addWord_11 : decode cX0_addWord 11 = .ok (.sipush 900, 3) := by decide +kernel
theorem dX0_addWord_14 : decode cX0_addWord 14 = .ok (.if_icmp .ge 32, 3) := by decide +kernel
theorem dX0_addWord_17 : decode cX0_addWord 17 = .ok (.aload_n 0, 1) := by decide +kernel
theorem dX0_addWord_18 : decode cX0_addWord 18 = .ok (.getfield 9, 3) := by decide +kernel
theorem dX0_addWord_21 : decode cX0_addWord 21 = .ok (.aload_n 0, 1) := by decide +kernel
theorem dX0_addWord_22 : decode cX0_addWord 22 = .ok (.getfield 26, 3) := by decide +kernel
theorem dX0_addWord_25 : decode cX0_addWord 25 = .ok (.iload_n 1, 1) := by decide +kernel
theorem dX0_addWord_26 : decode cX0_addWord 26 = .ok (.iload_n 2, 1) := by decide +kernel
theorem dX0_addWord_27 : decode cX0_addWord 27 = .ok (.iushr, 1) := by decide +kernel
theorem dX0_addWord_28 : decode cX0_addWord 28 = .ok (.i2b, 1) := by decide +kernel
theorem dX0_addWord_29 : decode cX0_addWord 29 = .ok (.bastore, 1) := by decide +kernel
theorem dX0_addWord_30 : decode cX0_addWord 30 = .ok (.aload_n 0, 1) := by decide +kernel
theorem dX0_addWord_31 : decode cX0_addWord 31 = .ok (.dup, 1) := by decide +kernel
theorem dX0_addWord_32 : decode cX0_addWord 32 = .ok (.getfield 26, 3) := by decide +kernel
theorem dX0_addWord_35 : decode cX0_addWord 35 = .ok (.iconst 1, 1) := by decide +kernel
theorem dX0_addWord_36 : decode cX0_addWord 36 = .ok (.iadd, 1) := by decide +kernel
theorem dX0_addWord_37 : decode cX0_addWord 37 = .ok (.putfield 26, 3) := by decide +kernel
theorem dX0_addWord_40 : decode cX0_addWord 40 = .ok (.iinc 2 (-8), 3) := by decide +kernel
theorem dX0_addWord_43 : decode cX0_addWord 43 = .ok (.goto (-40), 3) := by decide +kernel
theorem dX0_addWord_46 : decode cX0_addWord 46 = .ok (.return_, 1) := by decide +kernel
theorem dX0_readText_0 : decode cX0_readText 0 = .ok (.aload_n 0, 1) := by decide +kernel
theorem dX0_readText_1 : decode cX0_readText 1 = .ok (.iconst (-1), 1) := by decide +kernel
theorem dX0_readText_2 : decode cX0_readText 2 = .ok (.putfield 22, 3) := by decide +kernel
theorem dX0_readText_5 : decode cX0_readText 5 = .ok (.aload_n 0, 1) := by decide +kernel
theorem dX0_readText_6 : decode cX0_readText 6 = .ok (.iconst 0, 1) := by decide +kernel
theorem dX0_readText_7 : decode cX0_readText 7 = .ok (.putfield 29, 3) := by decide +kernel
theorem dX0_readText_10 : decode cX0_readText 10 = .ok (.aload_n 0, 1) := by decide +kernel
theorem dX0_readText_11 : decode cX0_readText 11 = .ok (.iconst 0, 1) := by decide +kernel
theorem dX0_readText_12 : decode cX0_readText 12 = .ok (.putfield 32, 3) := by decide +kernel
theorem dX0_readText_15 : decode cX0_readText 15 = .ok (.aload_n 0, 1) := by decide +kernel
theorem dX0_readText_16 : decode cX0_readText 16 = .ok (.getfield 18, 3) := by decide +kernel
theorem dX0_readText_19 : decode cX0_readText 19 = .ok (.invokevirtual 35, 3) := by decide +kernel
theorem dX0_readText_22 : decode cX0_readText 22 = .ok (.aload_n 0, 1) := by decide +kernel
theorem dX0_readText_23 : decode cX0_readText 23 = .ok (.invokevirtual 38, 3) := by decide +kernel
theorem dX0_readText_26 : decode cX0_readText 26 = .ok (.iconst 0, 1) := by decide +kernel
theorem dX0_readText_27 : decode cX0_readText 27 = .ok (.istore_n 1, 1) := by decide +kernel
theorem dX0_readText_28 : decode cX0_readText 28 = .ok (.iload_n 1, 1) := by decide +kernel
theorem dX0_readText_29 : decode cX0_readText 29 = .ok (.aload_n 0, 1) := by decide +kernel
theorem dX0_readText_30 : decode cX0_readText 30 = .ok (.getfield 26, 3) := by decide +kernel
theorem dX0_readText_33 : decode cX0_readText 33 = .ok (.if_icmp .ge 48, 3) := by decide +kernel
theorem dX0_readText_36 : decode cX0_readText 36 = .ok (.aload_n 0, 1) := by decide +kernel
theorem dX0_readText_37 : decode cX0_readText 37 = .ok (.getfield 41, 3) := by decide +kernel
theorem dX0_readText_40 : decode cX0_readText 40 = .ok (.ifCond .eq 41, 3) := by decide +kernel
theorem dX0_readText_43 : decode cX0_readText 43 = .ok (.aload_n 0, 1) := by decide +kernel
theorem dX0_readText_44 : decode cX0_readText 44 = .ok (.getfield 29, 3) := by decide +kernel
theorem dX0_readText_47 : decode cX0_readText 47 = .ok (.ifCond .ne 34, 3) := by decide +kernel
theorem dX0_readText_50 : decode cX0_readText 50 = .ok (.aload_n 0, 1) := by decide +kernel
theorem dX0_readText_51 : decode cX0_readText 51 = .ok (.invokevirtual 44, 3) := by decide +kernel
theorem dX0_readText_54 : decode cX0_readText 54 = .ok (.aload_n 0, 1) := by decide +kernel
theorem dX0_readText_55 : decode cX0_readText 55 = .ok (.getfield 41, 3) := by decide +kernel
theorem dX0_readText_58 : decode cX0_readText 58 = .ok (.iconst 3, 1) := by decide +kernel
theorem dX0_readText_59 : decode cX0_readText 59 = .ok (.if_icmp .eq 12, 3) := by decide +kernel
theorem dX0_readText_62 : decode cX0_readText 62 = .ok (.aload_n 0, 1) := by decide +kernel
theorem dX0_readText_63 : decode cX0_readText 63 = .ok (.iconst 1, 1) := by decide +kernel
theorem dX0_readText_64 : decode cX0_readText 64 = .ok (.aload_n 0, 1) := by decide +kernel
theorem dX0_readText_65 : decode cX0_readText 65 = .ok (.getfield 47, 3) := by decide +kernel
theorem dX0_readText_68 : decode cX0_readText 68 = .ok (.invokevirtual 50, 3) := by decide +kernel
theorem dX0_readText_71 : decode cX0_readText 71 = .ok (.aload_n 0, 1) := by decide +kernel
theorem dX0_readText_72 : decode cX0_readText 72 = .ok (.invokevirtual 38, 3) := by decide +kernel
theorem dX0_readText_75 : decode cX0_readText 75 = .ok (.iinc 1 1, 3) := by decide +kernel
theorem dX0_readText_78 : decode cX0_readText 78 = .ok (.goto (-50), 3) := by decide +kernel
theorem dX0_readText_81 : decode cX0_readText 81 = .ok (.aload_n 0, 1) := by decide +kernel
theorem dX0_readText_82 : decode cX0_readText 82 = .ok (.getfield 18, 3) := by decide +kernel
theorem dX0_readText_85 : decode cX0_readText 85 = .ok (.invokevirtual 54, 3) := by decide +kernel
theorem dX0_readText_88 : decode cX0_readText 88 = .ok (.aload_n 0, 1) := by decide +kernel
theorem dX0_readText_89 : decode cX0_readText 89 = .ok (.getfield 29, 3) := by decide +kernel
theorem dX0_readText_92 : decode cX0_readText 92 = .ok (.ifCond .ne 7, 3) := by decide +kernel
theorem dX0_readText_95 : decode cX0_readText 95 = .ok (.iconst 1, 1) := by decide +kernel
theorem dX0_readText_96 : decode cX0_readText 96 = .ok (.goto 4, 3) := by decide +kernel
theorem dX0_readText_99 : decode cX0_readText 99 = .ok (.iconst 0, 1) := by decide +kernel
theorem dX0_readText_100 : decode cX0_readText 100 = .ok (.ireturn, 1) := by decide +kernel
theorem dX0_nextToken_0 : decode cX0_nextToken 0 = .ok (.aload_n 0, 1) := by decide +kernel
theorem dX0_nextToken_1 : decode cX0_nextToken 1 = .ok (.getfield 32, 3) := by decide +kernel
theorem dX0_nextToken_4 : decode cX0_nextToken 4 = .ok (.istore_n 1, 1) := by decide +kernel
theorem dX0_nextToken_5 : decode cX0_nextToken 5 = .ok (.iload_n 1, 1) := by decide +kernel
theorem dX0_nextToken_6 : decode cX0_nextToken 6 = .ok (.aload_n 0, 1) := by decide +kernel
theorem dX0_nextToken_7 : decode cX0_nextToken 7 = .ok (.getfield 26, 3) := by decide +kernel
theorem dX0_nextToken_10 : decode cX0_nextToken 10 = .ok (.if_icmp .ge 21, 3) := by decide +kernel
theorem dX0_nextToken_13 : decode cX0_nextToken 13 = .ok (.aload_n 0, 1) := by decide +kernel
theorem dX0_nextToken_14 : decode cX0_nextToken 14 = .ok (.getfield 9, 3) := by decide +kernel
theorem dX0_nextToken_17 : decode cX0_nextToken 17 = .ok (.iload_n 1, 1) := by decide +kernel
theorem dX0_nextToken_18 : decode cX0_nextToken 18 = .ok (.baload, 1) := by decide +kernel
theorem dX0_nextToken_19 : decode cX0_nextToken 19 = .ok (.invokestatic 57, 3) := by decide +kernel
theorem dX0_nextToken_22 : decode cX0_nextToken 22 = .ok (.ifCond .eq 9, 3) := by decide +kernel
theorem dX0_nextToken_25 : decode cX0_nextToken 25 = .ok (.iinc 1 1, 3) := by decide +kernel
theorem dX0_nextToken_28 : decode cX0_nextToken 28 = .ok (.goto (-23), 3) := by decide +kernel
theorem dX0_nextToken_31 : decode cX0_nextToken 31 = .ok (.aload_n 0, 1) := by decide +kernel
theorem dX0_nextToken_32 : decode cX0_nextToken 32 = .ok (.iload_n 1, 1) := by decide +kernel
theorem dX0_nextToken_33 : decode cX0_nextToken 33 = .ok (.putfield 47, 3) := by decide +kernel
theorem dX0_nextToken_36 : decode cX0_nextToken 36 = .ok (.aload_n 0, 1) := by decide +kernel
theorem dX0_nextToken_37 : decode cX0_nextToken 37 = .ok (.iload_n 1, 1) := by decide +kernel
theorem dX0_nextToken_38 : decode cX0_nextToken 38 = .ok (.putfield 32, 3) := by decide +kernel
theorem dX0_nextToken_41 : decode cX0_nextToken 41 = .ok (.iload_n 1, 1) := by decide +kernel
theorem dX0_nextToken_42 : decode cX0_nextToken 42 = .ok (.aload_n 0, 1) := by decide +kernel
theorem dX0_nextToken_43 : decode cX0_nextToken 43 = .ok (.getfield 26, 3) := by decide +kernel
theorem dX0_nextToken_46 : decode cX0_nextToken 46 = .ok (.if_icmp .lt 11, 3) := by decide +kernel
theorem dX0_nextToken_49 : decode cX0_nextToken 49 = .ok (.aload_n 0, 1) := by decide +kernel
theorem dX0_nextToken_50 : decode cX0_nextToken 50 = .ok (.iconst 0, 1) := by decide +kernel
theorem dX0_nextToken_51 : decode cX0_nextToken 51 = .ok (.putfield 41, 3) := by decide +kernel
theorem dX0_nextToken_54 : decode cX0_nextToken 54 = .ok (.goto 145, 3) := by decide +kernel
theorem dX0_nextToken_57 : decode cX0_nextToken 57 = .ok (.aload_n 0, 1) := by decide +kernel
theorem dX0_nextToken_58 : decode cX0_nextToken 58 = .ok (.getfield 9, 3) := by decide +kernel
theorem dX0_nextToken_61 : decode cX0_nextToken 61 = .ok (.iload_n 1, 1) := by decide +kernel
theorem dX0_nextToken_62 : decode cX0_nextToken 62 = .ok (.baload, 1) := by decide +kernel
theorem dX0_nextToken_63 : decode cX0_nextToken 63 = .ok (.invokestatic 61, 3) := by decide +kernel
theorem dX0_nextToken_66 : decode cX0_nextToken 66 = .ok (.ifCond .eq 47, 3) := by decide +kernel
theorem dX0_nextToken_69 : decode cX0_nextToken 69 = .ok (.aload_n 0, 1) := by decide +kernel
theorem dX0_nextToken_70 : decode cX0_nextToken 70 = .ok (.iconst 1, 1) := by decide +kernel
theorem dX0_nextToken_71 : decode cX0_nextToken 71 = .ok (.putfield 41, 3) := by decide +kernel
theorem dX0_nextToken_74 : decode cX0_nextToken 74 = .ok (.aload_n 0, 1) := by decide +kernel
theorem dX0_nextToken_75 : decode cX0_nextToken 75 = .ok (.getfield 32, 3) := by decide +kernel
theorem dX0_nextToken_78 : decode cX0_nextToken 78 = .ok (.aload_n 0, 1) := by decide +kernel
theorem dX0_nextToken_79 : decode cX0_nextToken 79 = .ok (.getfield 26, 3) := by decide +kernel
theorem dX0_nextToken_82 : decode cX0_nextToken 82 = .ok (.if_icmp .ge 117, 3) := by decide +kernel
theorem dX0_nextToken_85 : decode cX0_nextToken 85 = .ok (.aload_n 0, 1) := by decide +kernel
theorem dX0_nextToken_86 : decode cX0_nextToken 86 = .ok (.getfield 9, 3) := by decide +kernel
theorem dX0_nextToken_89 : decode cX0_nextToken 89 = .ok (.aload_n 0, 1) := by decide +kernel
theorem dX0_nextToken_90 : decode cX0_nextToken 90 = .ok (.getfield 32, 3) := by decide +kernel
theorem dX0_nextToken_93 : decode cX0_nextToken 93 = .ok (.baload, 1) := by decide +kernel
theorem dX0_nextToken_94 : decode cX0_nextToken 94 = .ok (.invokestatic 61, 3) := by decide +kernel
theorem dX0_nextToken_97 : decode cX0_nextToken 97 = .ok (.ifCond .eq 102, 3) := by decide +kernel
theorem dX0_nextToken_100 : decode cX0_nextToken 100 = .ok (.aload_n 0, 1) := by decide +kernel
theorem dX0_nextToken_101 : decode cX0_nextToken 101 = .ok (.dup, 1) := by decide +kernel
theorem dX0_nextToken_102 : decode cX0_nextToken 102 = .ok (.getfield 32, 3) := by decide +kernel
theorem dX0_nextToken_105 : decode cX0_nextToken 105 = .ok (.iconst 1, 1) := by decide +kernel
theorem dX0_nextToken_106 : decode cX0_nextToken 106 = .ok (.iadd, 1) := by decide +kernel
theorem dX0_nextToken_107 : decode cX0_nextToken 107 = .ok (.putfield 32, 3) := by decide +kernel
theorem dX0_nextToken_110 : decode cX0_nextToken 110 = .ok (.goto (-36), 3) := by decide +kernel
theorem dX0_nextToken_113 : decode cX0_nextToken 113 = .ok (.aload_n 0, 1) := by decide +kernel
theorem dX0_nextToken_114 : decode cX0_nextToken 114 = .ok (.getfield 9, 3) := by decide +kernel
theorem dX0_nextToken_117 : decode cX0_nextToken 117 = .ok (.iload_n 1, 1) := by decide +kernel
theorem dX0_nextToken_118 : decode cX0_nextToken 118 = .ok (.baload, 1) := by decide +kernel
theorem dX0_nextToken_119 : decode cX0_nextToken 119 = .ok (.invokestatic 64, 3) := by decide +kernel
theorem dX0_nextToken_122 : decode cX0_nextToken 122 = .ok (.ifCond .eq 47, 3) := by decide +kernel
theorem dX0_nextToken_125 : decode cX0_nextToken 125 = .ok (.aload_n 0, 1) := by decide +kernel
theorem dX0_nextToken_126 : decode cX0_nextToken 126 = .ok (.iconst 2, 1) := by decide +kernel
theorem dX0_nextToken_127 : decode cX0_nextToken 127 = .ok (.putfield 41, 3) := by decide +kernel
theorem dX0_nextToken_130 : decode cX0_nextToken 130 = .ok (.aload_n 0, 1) := by decide +kernel
theorem dX0_nextToken_131 : decode cX0_nextToken 131 = .ok (.getfield 32, 3) := by decide +kernel
theorem dX0_nextToken_134 : decode cX0_nextToken 134 = .ok (.aload_n 0, 1) := by decide +kernel
theorem dX0_nextToken_135 : decode cX0_nextToken 135 = .ok (.getfield 26, 3) := by decide +kernel
theorem dX0_nextToken_138 : decode cX0_nextToken 138 = .ok (.if_icmp .ge 61, 3) := by decide +kernel
theorem dX0_nextToken_141 : decode cX0_nextToken 141 = .ok (.aload_n 0, 1) := by decide +kernel
theorem dX0_nextToken_142 : decode cX0_nextToken 142 = .ok (.getfield 9, 3) := by decide +kernel
theorem dX0_nextToken_145 : decode cX0_nextToken 145 = .ok (.aload_n 0, 1) := by decide +kernel
theorem dX0_nextToken_146 : decode cX0_nextToken 146 = .ok (.getfield 32, 3) := by decide +kernel
theorem dX0_nextToken_149 : decode cX0_nextToken 149 = .ok (.baload, 1) := by decide +kernel
theorem dX0_nextToken_150 : decode cX0_nextToken 150 = .ok (.invokestatic 64, 3) := by decide +kernel
theorem dX0_nextToken_153 : decode cX0_nextToken 153 = .ok (.ifCond .eq 46, 3) := by decide +kernel
theorem dX0_nextToken_156 : decode cX0_nextToken 156 = .ok (.aload_n 0, 1) := by decide +kernel
theorem dX0_nextToken_157 : decode cX0_nextToken 157 = .ok (.dup, 1) := by decide +kernel
theorem dX0_nextToken_158 : decode cX0_nextToken 158 = .ok (.getfield 32, 3) := by decide +kernel
theorem dX0_nextToken_161 : decode cX0_nextToken 161 = .ok (.iconst 1, 1) := by decide +kernel
theorem dX0_nextToken_162 : decode cX0_nextToken 162 = .ok (.iadd, 1) := by decide +kernel
theorem dX0_nextToken_163 : decode cX0_nextToken 163 = .ok (.putfield 32, 3) := by decide +kernel
theorem dX0_nextToken_166 : decode cX0_nextToken 166 = .ok (.goto (-36), 3) := by decide +kernel
theorem dX0_nextToken_169 : decode cX0_nextToken 169 = .ok (.aload_n 0, 1) := by decide +kernel
theorem dX0_nextToken_170 : decode cX0_nextToken 170 = .ok (.aload_n 0, 1) := by decide +kernel
theorem dX0_nextToken_171 : decode cX0_nextToken 171 = .ok (.getfield 9, 3) := by decide +kernel
theorem dX0_nextToken_174 : decode cX0_nextToken 174 = .ok (.iload_n 1, 1) := by decide +kernel
theorem dX0_nextToken_175 : decode cX0_nextToken 175 = .ok (.baload, 1) := by decide +kernel
theorem dX0_nextToken_176 : decode cX0_nextToken 176 = .ok (.bipush 59, 2) := by decide +kernel
theorem dX0_nextToken_178 : decode cX0_nextToken 178 = .ok (.if_icmp .ne 7, 3) := by decide +kernel
theorem dX0_nextToken_181 : decode cX0_nextToken 181 = .ok (.iconst 3, 1) := by decide +kernel
theorem dX0_nextToken_182 : decode cX0_nextToken 182 = .ok (.goto 4, 3) := by decide +kernel
theorem dX0_nextToken_185 : decode cX0_nextToken 185 = .ok (.iconst 4, 1) := by decide +kernel
theorem dX0_nextToken_186 : decode cX0_nextToken 186 = .ok (.putfield 41, 3) := by decide +kernel
theorem dX0_nextToken_189 : decode cX0_nextToken 189 = .ok (.aload_n 0, 1) := by decide +kernel
theorem dX0_nextToken_190 : decode cX0_nextToken 190 = .ok (.dup, 1) := by decide +kernel
theorem dX0_nextToken_191 : decode cX0_nextToken 191 = .ok (.getfield 32, 3) := by decide +kernel
theorem dX0_nextToken_194 : decode cX0_nextToken 194 = .ok (.iconst 1, 1) := by decide +kernel
theorem dX0_nextToken_195 : decode cX0_nextToken 195 = .ok (.iadd, 1) := by decide +kernel
theorem dX0_nextToken_196 : decode cX0_nextToken 196 = .ok (.putfield 32, 3) := by decide +kernel
theorem dX0_nextToken_199 : decode cX0_nextToken 199 = .ok (.return_, 1) := by decide +kernel
theorem dX0_isBlank_0 : decode cX0_isBlank 0 = .ok (.iload_n 0, 1) := by decide +kernel
theorem dX0_isBlank_1 : decode cX0_isBlank 1 = .ok (.bipush 32, 2) := by decide +kernel
theorem dX0_isBlank_3 : decode cX0_isBlank 3 = .ok (.if_icmp .eq 15, 3) := by decide +kernel
theorem dX0_isBlank_6 : decode cX0_isBlank 6 = .ok (.iload_n 0, 1) := by decide +kernel
theorem dX0_isBlank_7 : decode cX0_isBlank 7 = .ok (.bipush 9, 2) := by decide +kernel
theorem dX0_isBlank_9 : decode cX0_isBlank 9 = .ok (.if_icmp .eq 9, 3) := by decide +kernel
theorem dX0_isBlank_12 : decode cX0_isBlank 12 = .ok (.iload_n 0, 1) := by decide +kernel
theorem dX0_isBlank_13 : decode cX0_isBlank 13 = .ok (.bipush 10, 2) := by decide +kernel
theorem dX0_isBlank_15 : decode cX0_isBlank 15 = .ok (.if_icmp .ne 7, 3) := by decide +kernel
theorem dX0_isBlank_18 : decode cX0_isBlank 18 = .ok (.iconst 1, 1) := by decide +kernel
theorem dX0_isBlank_19 : decode cX0_isBlank 19 = .ok (.goto 4, 3) := by decide +kernel
theorem dX0_isBlank_22 : decode cX0_isBlank 22 = .ok (.iconst 0, 1) := by decide +kernel
theorem dX0_isBlank_23 : decode cX0_isBlank 23 = .ok (.ireturn, 1) := by decide +kernel
theorem dX0_isLetter_0 : decode cX0_isLetter 0 = .ok (.iload_n 0, 1) := by decide +kernel
theorem dX0_isLetter_1 : decode cX0_isLetter 1 = .ok (.bipush 97, 2) := by decide +kernel
theorem dX0_isLetter_3 : decode cX0_isLetter 3 = .ok (.if_icmp .lt 13, 3) := by decide +kernel
theorem dX0_isLetter_6 : decode cX0_isLetter 6 = .ok (.iload_n 0, 1) := by decide +kernel
theorem dX0_isLetter_7 : decode cX0_isLetter 7 = .ok (.bipush 122, 2) := by decide +kernel
theorem dX0_isLetter_9 : decode cX0_isLetter 9 = .ok (.if_icmp .gt 7, 3) := by decide +kernel
theorem dX0_isLetter_12 : decode cX0_isLetter 12 = .ok (.iconst 1, 1) := by decide +kernel
theorem dX0_isLetter_13 : decode cX0_isLetter 13 = .ok (.goto 4, 3) := by decide +kernel
theorem dX0_isLetter_16 : decode cX0_isLetter 16 = .ok (.iconst 0, 1) := by decide +kernel
theorem dX0_isLetter_17 : decode cX0_isLetter 17 = .ok (.ireturn, 1) := by decide +kernel
theorem dX0_isDigit_0 : decode cX0_isDigit 0 = .ok (.iload_n 0, 1) := by decide +kernel
theorem dX0_isDigit_1 : decode cX0_isDigit 1 = .ok (.bipush 48, 2) := by decide +kernel
theorem dX0_isDigit_3 : decode cX0_isDigit 3 = .ok (.if_icmp .lt 13, 3) := by decide +kernel
theorem dX0_isDigit_6 : decode cX0_isDigit 6 = .ok (.iload_n 0, 1) := by decide +kernel
theorem dX0_isDigit_7 : decode cX0_isDigit 7 = .ok (.bipush 57, 2) := by decide +kernel
theorem dX0_isDigit_9 : decode cX0_isDigit 9 = .ok (.if_icmp .gt 7, 3) := by decide +kernel
theorem dX0_isDigit_12 : decode cX0_isDigit 12 = .ok (.iconst 1, 1) := by decide +kernel
theorem dX0_isDigit_13 : decode cX0_isDigit 13 = .ok (.goto 4, 3) := by decide +kernel
theorem dX0_isDigit_16 : decode cX0_isDigit 16 = .ok (.iconst 0, 1) := by decide +kernel
theorem dX0_isDigit_17 : decode cX0_isDigit 17 = .ok (.ireturn, 1) := by decide +kernel
theorem dX0_isWord_0 : decode cX0_isWord 0 = .ok (.aload_n 0, 1) := by decide +kernel
theorem dX0_isWord_1 : decode cX0_isWord 1 = .ok (.getfield 41, 3) := by decide +kernel
theorem dX0_isWord_4 : decode cX0_isWord 4 = .ok (.iconst 1, 1) := by decide +kernel
theorem dX0_isWord_5 : decode cX0_isWord 5 = .ok (.if_icmp .ne 19, 3) := by decide +kernel
theorem dX0_isWord_8 : decode cX0_isWord 8 = .ok (.aload_n 0, 1) := by decide +kernel
theorem dX0_isWord_9 : decode cX0_isWord 9 = .ok (.getfield 32, 3) := by decide +kernel
theorem dX0_isWord_12 : decode cX0_isWord 12 = .ok (.aload_n 0, 1) := by decide +kernel
theorem dX0_isWord_13 : decode cX0_isWord 13 = .ok (.getfield 47, 3) := by decide +kernel
theorem dX0_isWord_16 : decode cX0_isWord 16 = .ok (.isub, 1) := by decide +kernel
theorem dX0_isWord_17 : decode cX0_isWord 17 = .ok (.aload_n 1, 1) := by decide +kernel
theorem dX0_isWord_18 : decode cX0_isWord 18 = .ok (.invokevirtual 67, 3) := by decide +kernel
theorem dX0_isWord_21 : decode cX0_isWord 21 = .ok (.if_icmp .eq 5, 3) := by decide +kernel
theorem dX0_isWord_24 : decode cX0_isWord 24 = .ok (.iconst 0, 1) := by decide +kernel
theorem dX0_isWord_25 : decode cX0_isWord 25 = .ok (.ireturn, 1) := by decide +kernel
theorem dX0_isWord_26 : decode cX0_isWord 26 = .ok (.iconst 0, 1) := by decide +kernel
theorem dX0_isWord_27 : decode cX0_isWord 27 = .ok (.istore_n 2, 1) := by decide +kernel
theorem dX0_isWord_28 : decode cX0_isWord 28 = .ok (.iload_n 2, 1) := by decide +kernel
theorem dX0_isWord_29 : decode cX0_isWord 29 = .ok (.aload_n 1, 1) := by decide +kernel
theorem dX0_isWord_30 : decode cX0_isWord 30 = .ok (.invokevirtual 67, 3) := by decide +kernel
theorem dX0_isWord_33 : decode cX0_isWord 33 = .ok (.if_icmp .ge 43, 3) := by decide +kernel
theorem dX0_isWord_36 : decode cX0_isWord 36 = .ok (.aload_n 0, 1) := by decide +kernel
theorem dX0_isWord_37 : decode cX0_isWord 37 = .ok (.getfield 47, 3) := by decide +kernel
theorem dX0_isWord_40 : decode cX0_isWord 40 = .ok (.iload_n 2, 1) := by decide +kernel
theorem dX0_isWord_41 : decode cX0_isWord 41 = .ok (.iadd, 1) := by decide +kernel
theorem dX0_isWord_42 : decode cX0_isWord 42 = .ok (.aload_n 0, 1) := by decide +kernel
theorem dX0_isWord_43 : decode cX0_isWord 43 = .ok (.getfield 26, 3) := by decide +kernel
theorem dX0_isWord_46 : decode cX0_isWord 46 = .ok (.if_icmp .ge 30, 3) := by decide +kernel
theorem dX0_isWord_49 : decode cX0_isWord 49 = .ok (.aload_n 0, 1) := by decide +kernel
theorem dX0_isWord_50 : decode cX0_isWord 50 = .ok (.getfield 9, 3) := by decide +kernel
theorem dX0_isWord_53 : decode cX0_isWord 53 = .ok (.aload_n 0, 1) := by decide +kernel
theorem dX0_isWord_54 : decode cX0_isWord 54 = .ok (.getfield 47, 3) := by decide +kernel
theorem dX0_isWord_57 : decode cX0_isWord 57 = .ok (.iload_n 2, 1) := by decide +kernel
theorem dX0_isWord_58 : decode cX0_isWord 58 = .ok (.iadd, 1) := by decide +kernel
theorem dX0_isWord_59 : decode cX0_isWord 59 = .ok (.baload, 1) := by decide +kernel
theorem dX0_isWord_60 : decode cX0_isWord 60 = .ok (.aload_n 1, 1) := by decide +kernel
theorem dX0_isWord_61 : decode cX0_isWord 61 = .ok (.iload_n 2, 1) := by decide +kernel
theorem dX0_isWord_62 : decode cX0_isWord 62 = .ok (.invokevirtual 72, 3) := by decide +kernel
theorem dX0_isWord_65 : decode cX0_isWord 65 = .ok (.if_icmp .eq 5, 3) := by decide +kernel
theorem dX0_isWord_68 : decode cX0_isWord 68 = .ok (.iconst 0, 1) := by decide +kernel
theorem dX0_isWord_69 : decode cX0_isWord 69 = .ok (.ireturn, 1) := by decide +kernel
theorem dX0_isWord_70 : decode cX0_isWord 70 = .ok (.iinc 2 1, 3) := by decide +kernel
theorem dX0_isWord_73 : decode cX0_isWord 73 = .ok (.goto (-45), 3) := by decide +kernel
theorem dX0_isWord_76 : decode cX0_isWord 76 = .ok (.iconst 1, 1) := by decide +kernel
theorem dX0_isWord_77 : decode cX0_isWord 77 = .ok (.ireturn, 1) := by decide +kernel
theorem dX0_fail_0 : decode cX0_fail 0 = .ok (.aload_n 0, 1) := by decide +kernel
theorem dX0_fail_1 : decode cX0_fail 1 = .ok (.getfield 29, 3) := by decide +kernel
theorem dX0_fail_4 : decode cX0_fail 4 = .ok (.ifCond .ne 13, 3) := by decide +kernel
theorem dX0_fail_7 : decode cX0_fail 7 = .ok (.aload_n 0, 1) := by decide +kernel
theorem dX0_fail_8 : decode cX0_fail 8 = .ok (.iload_n 1, 1) := by decide +kernel
theorem dX0_fail_9 : decode cX0_fail 9 = .ok (.putfield 29, 3) := by decide +kernel
theorem dX0_fail_12 : decode cX0_fail 12 = .ok (.aload_n 0, 1) := by decide +kernel
theorem dX0_fail_13 : decode cX0_fail 13 = .ok (.iload_n 2, 1) := by decide +kernel
theorem dX0_fail_14 : decode cX0_fail 14 = .ok (.putfield 22, 3) := by decide +kernel
theorem dX0_fail_17 : decode cX0_fail 17 = .ok (.return_, 1) := by decide +kernel
theorem dX0_takeNumber_0 : decode cX0_takeNumber 0 = .ok (.aload_n 0, 1) := by decide +kernel
theorem dX0_takeNumber_1 : decode cX0_takeNumber 1 = .ok (.getfield 29, 3) := by decide +kernel
theorem dX0_takeNumber_4 : decode cX0_takeNumber 4 = .ok (.ifCond .eq 5, 3) := by decide +kernel
theorem dX0_takeNumber_7 : decode cX0_takeNumber 7 = .ok (.iload_n 1, 1) := by decide +kernel
theorem dX0_takeNumber_8 : decode cX0_takeNumber 8 = .ok (.ireturn, 1) := by decide +kernel
theorem dX0_takeNumber_9 : decode cX0_takeNumber 9 = .ok (.aload_n 0, 1) := by decide +kernel
theorem dX0_takeNumber_10 : decode cX0_takeNumber 10 = .ok (.getfield 41, 3) := by decide +kernel
theorem dX0_takeNumber_13 : decode cX0_takeNumber 13 = .ok (.iconst 2, 1) := by decide +kernel
theorem dX0_takeNumber_14 : decode cX0_takeNumber 14 = .ok (.if_icmp .eq 14, 3) := by decide +kernel
theorem dX0_takeNumber_17 : decode cX0_takeNumber 17 = .ok (.aload_n 0, 1) := by decide +kernel
theorem dX0_takeNumber_18 : decode cX0_takeNumber 18 = .ok (.iconst 1, 1) := by decide +kernel
theorem dX0_takeNumber_19 : decode cX0_takeNumber 19 = .ok (.aload_n 0, 1) := by decide +kernel
theorem dX0_takeNumber_20 : decode cX0_takeNumber 20 = .ok (.getfield 47, 3) := by decide +kernel
theorem dX0_takeNumber_23 : decode cX0_takeNumber 23 = .ok (.invokevirtual 50, 3) := by decide +kernel
theorem dX0_takeNumber_26 : decode cX0_takeNumber 26 = .ok (.iload_n 1, 1) := by decide +kernel
theorem dX0_takeNumber_27 : decode cX0_takeNumber 27 = .ok (.ireturn, 1) := by decide +kernel
theorem dX0_takeNumber_28 : decode cX0_takeNumber 28 = .ok (.iconst 0, 1) := by decide +kernel
theorem dX0_takeNumber_29 : decode cX0_takeNumber 29 = .ok (.istore_n 3, 1) := by decide +kernel
theorem dX0_takeNumber_30 : decode cX0_takeNumber 30 = .ok (.aload_n 0, 1) := by decide +kernel
theorem dX0_takeNumber_31 : decode cX0_takeNumber 31 = .ok (.getfield 47, 3) := by decide +kernel
theorem dX0_takeNumber_34 : decode cX0_takeNumber 34 = .ok (.istore 4, 2) := by decide +kernel
theorem dX0_takeNumber_36 : decode cX0_takeNumber 36 = .ok (.iload 4, 2) := by decide +kernel
theorem dX0_takeNumber_38 : decode cX0_takeNumber 38 = .ok (.aload_n 0, 1) := by decide +kernel
theorem dX0_takeNumber_39 : decode cX0_takeNumber 39 = .ok (.getfield 32, 3) := by decide +kernel
theorem dX0_takeNumber_42 : decode cX0_takeNumber 42 = .ok (.if_icmp .ge 45, 3) := by decide +kernel
theorem dX0_takeNumber_45 : decode cX0_takeNumber 45 = .ok (.iload 4, 2) := by decide +kernel
theorem dX0_takeNumber_47 : decode cX0_takeNumber 47 = .ok (.aload_n 0, 1) := by decide +kernel
theorem dX0_takeNumber_48 : decode cX0_takeNumber 48 = .ok (.getfield 47, 3) := by decide +kernel
theorem dX0_takeNumber_51 : decode cX0_takeNumber 51 = .ok (.iconst 3, 1) := by decide +kernel
theorem dX0_takeNumber_52 : decode cX0_takeNumber 52 = .ok (.iadd, 1) := by decide +kernel
theorem dX0_takeNumber_53 : decode cX0_takeNumber 53 = .ok (.if_icmp .ge 34, 3) := by decide +kernel
theorem dX0_takeNumber_56 : decode cX0_takeNumber 56 = .ok (.iload 4, 2) := by decide +kernel
theorem dX0_takeNumber_58 : decode cX0_takeNumber 58 = .ok (.aload_n 0, 1) := by decide +kernel
theorem dX0_takeNumber_59 : decode cX0_takeNumber 59 = .ok (.getfield 26, 3) := by decide +kernel
theorem dX0_takeNumber_62 : decode cX0_takeNumber 62 = .ok (.if_icmp .ge 25, 3) := by decide +kernel
theorem dX0_takeNumber_65 : decode cX0_takeNumber 65 = .ok (.iload_n 3, 1) := by decide +kernel
theorem dX0_takeNumber_66 : decode cX0_takeNumber 66 = .ok (.bipush 10, 2) := by decide +kernel
theorem dX0_takeNumber_68 : decode cX0_takeNumber 68 = .ok (.imul, 1) := by decide +kernel
theorem dX0_takeNumber_69 : decode cX0_takeNumber 69 = .ok (.aload_n 0, 1) := by decide +kernel
theorem dX0_takeNumber_70 : decode cX0_takeNumber 70 = .ok (.getfield 9, 3) := by decide +kernel
theorem dX0_takeNumber_73 : decode cX0_takeNumber 73 = .ok (.iload 4, 2) := by decide +kernel
theorem dX0_takeNumber_75 : decode cX0_takeNumber 75 = .ok (.baload, 1) := by decide +kernel
theorem dX0_takeNumber_76 : decode cX0_takeNumber 76 = .ok (.bipush 48, 2) := by decide +kernel
theorem dX0_takeNumber_78 : decode cX0_takeNumber 78 = .ok (.isub, 1) := by decide +kernel
theorem dX0_takeNumber_79 : decode cX0_takeNumber 79 = .ok (.iadd, 1) := by decide +kernel
theorem dX0_takeNumber_80 : decode cX0_takeNumber 80 = .ok (.istore_n 3, 1) := by decide +kernel
theorem dX0_takeNumber_81 : decode cX0_takeNumber 81 = .ok (.iinc 4 1, 3) := by decide +kernel
theorem dX0_takeNumber_84 : decode cX0_takeNumber 84 = .ok (.goto (-48), 3) := by decide +kernel
theorem dX0_takeNumber_87 : decode cX0_takeNumber 87 = .ok (.aload_n 0, 1) := by decide +kernel
theorem dX0_takeNumber_88 : decode cX0_takeNumber 88 = .ok (.getfield 32, 3) := by decide +kernel
theorem dX0_takeNumber_91 : decode cX0_takeNumber 91 = .ok (.aload_n 0, 1) := by decide +kernel
theorem dX0_takeNumber_92 : decode cX0_takeNumber 92 = .ok (.getfield 47, 3) := by decide +kernel
theorem dX0_takeNumber_95 : decode cX0_takeNumber 95 = .ok (.isub, 1) := by decide +kernel
theorem dX0_takeNumber_96 : decode cX0_takeNumber 96 = .ok (.iconst 3, 1) := by decide +kernel
theorem dX0_takeNumber_97 : decode cX0_takeNumber 97 = .ok (.if_icmp .gt 13, 3) := by decide +kernel
theorem dX0_takeNumber_100 : decode cX0_takeNumber 100 = .ok (.iload_n 3, 1) := by decide +kernel
theorem dX0_takeNumber_101 : decode cX0_takeNumber 101 = .ok (.iload_n 1, 1) := by decide +kernel
theorem dX0_takeNumber_102 : decode cX0_takeNumber 102 = .ok (.if_icmp .lt 8, 3) := by decide +kernel
theorem dX0_takeNumber_105 : decode cX0_takeNumber 105 = .ok (.iload_n 3, 1) := by decide +kernel
theorem dX0_takeNumber_106 : decode cX0_takeNumber 106 = .ok (.iload_n 2, 1) := by decide +kernel
theorem dX0_takeNumber_107 : decode cX0_takeNumber 107 = .ok (.if_icmp .le 14, 3) := by decide +kernel
theorem dX0_takeNumber_110 : decode cX0_takeNumber 110 = .ok (.aload_n 0, 1) := by decide +kernel
theorem dX0_takeNumber_111 : decode cX0_takeNumber 111 = .ok (.iconst 2, 1) := by decide +kernel
theorem dX0_takeNumber_112 : decode cX0_takeNumber 112 = .ok (.aload_n 0, 1) := by decide +kernel
theorem dX0_takeNumber_113 : decode cX0_takeNumber 113 = .ok (.getfield 47, 3) := by decide +kernel
theorem dX0_takeNumber_116 : decode cX0_takeNumber 116 = .ok (.invokevirtual 50, 3) := by decide +kernel
theorem dX0_takeNumber_119 : decode cX0_takeNumber 119 = .ok (.iload_n 1, 1) := by decide +kernel
theorem dX0_takeNumber_120 : decode cX0_takeNumber 120 = .ok (.ireturn, 1) := by decide +kernel
theorem dX0_takeNumber_121 : decode cX0_takeNumber 121 = .ok (.aload_n 0, 1) := by decide +kernel
theorem dX0_takeNumber_122 : decode cX0_takeNumber 122 = .ok (.invokevirtual 38, 3) := by decide +kernel
theorem dX0_takeNumber_125 : decode cX0_takeNumber 125 = .ok (.iload_n 3, 1) := by decide +kernel
theorem dX0_takeNumber_126 : decode cX0_takeNumber 126 = .ok (.ireturn, 1) := by decide +kernel
theorem dX0_readLine_0 : decode cX0_readLine 0 = .ok (.aload_n 0, 1) := by decide +kernel
theorem dX0_readLine_1 : decode cX0_readLine 1 = .ok (.ldc 76, 2) := by decide +kernel
theorem dX0_readLine_3 : decode cX0_readLine 3 = .ok (.invokevirtual 78, 3) := by decide +kernel
theorem dX0_readLine_6 : decode cX0_readLine 6 = .ok (.ifCond .eq 10, 3) := by decide +kernel
theorem dX0_readLine_9 : decode cX0_readLine 9 = .ok (.aload_n 0, 1) := by decide +kernel
theorem dX0_readLine_10 : decode cX0_readLine 10 = .ok (.invokevirtual 82, 3) := by decide +kernel
theorem dX0_readLine_13 : decode cX0_readLine 13 = .ok (.goto 138, 3) := by decide +kernel
theorem dX0_readLine_16 : decode cX0_readLine 16 = .ok (.aload_n 0, 1) := by decide +kernel
theorem dX0_readLine_17 : decode cX0_readLine 17 = .ok (.ldc 85, 2) := by decide +kernel
theorem dX0_readLine_19 : decode cX0_readLine 19 = .ok (.invokevirtual 78, 3) := by decide +kernel
theorem dX0_readLine_22 : decode cX0_readLine 22 = .ok (.ifCond .eq 10, 3) := by decide +kernel
theorem dX0_readLine_25 : decode cX0_readLine 25 = .ok (.aload_n 0, 1) := by decide +kernel
theorem dX0_readLine_26 : decode cX0_readLine 26 = .ok (.invokevirtual 87, 3) := by decide +kernel
theorem dX0_readLine_29 : decode cX0_readLine 29 = .ok (.goto 122, 3) := by decide +kernel
theorem dX0_readLine_32 : decode cX0_readLine 32 = .ok (.aload_n 0, 1) := by decide +kernel
theorem dX0_readLine_33 : decode cX0_readLine 33 = .ok (.ldc 90, 2) := by decide +kernel
theorem dX0_readLine_35 : decode cX0_readLine 35 = .ok (.invokevirtual 78, 3) := by decide +kernel
theorem dX0_readLine_38 : decode cX0_readLine 38 = .ok (.ifCond .eq 10, 3) := by decide +kernel
theorem dX0_readLine_41 : decode cX0_readLine 41 = .ok (.aload_n 0, 1) := by decide +kernel
theorem dX0_readLine_42 : decode cX0_readLine 42 = .ok (.invokevirtual 92, 3) := by decide +kernel
theorem dX0_readLine_45 : decode cX0_readLine 45 = .ok (.goto 106, 3) := by decide +kernel
theorem dX0_readLine_48 : decode cX0_readLine 48 = .ok (.aload_n 0, 1) := by decide +kernel
theorem dX0_readLine_49 : decode cX0_readLine 49 = .ok (.ldc 95, 2) := by decide +kernel
theorem dX0_readLine_51 : decode cX0_readLine 51 = .ok (.invokevirtual 78, 3) := by decide +kernel
theorem dX0_readLine_54 : decode cX0_readLine 54 = .ok (.ifCond .eq 24, 3) := by decide +kernel
theorem dX0_readLine_57 : decode cX0_readLine 57 = .ok (.aload_n 0, 1) := by decide +kernel
theorem dX0_readLine_58 : decode cX0_readLine 58 = .ok (.invokevirtual 38, 3) := by decide +kernel
theorem dX0_readLine_61 : decode cX0_readLine 61 = .ok (.aload_n 0, 1) := by decide +kernel
theorem dX0_readLine_62 : decode cX0_readLine 62 = .ok (.getfield 18, 3) := by decide +kernel
theorem dX0_readLine_65 : decode cX0_readLine 65 = .ok (.aload_n 0, 1) := by decide +kernel
theorem dX0_readLine_66 : decode cX0_readLine 66 = .ok (.iconst 0, 1) := by decide +kernel
theorem dX0_readLine_67 : decode cX0_readLine 67 = .ok (.bipush 50, 2) := by decide +kernel
theorem dX0_readLine_69 : decode cX0_readLine 69 = .ok (.invokevirtual 97, 3) := by decide +kernel
theorem dX0_readLine_72 : decode cX0_readLine 72 = .ok (.putfield 101, 3) := by decide +kernel
theorem dX0_readLine_75 : decode cX0_readLine 75 = .ok (.goto 76, 3) := by decide +kernel
theorem dX0_readLine_78 : decode cX0_readLine 78 = .ok (.aload_n 0, 1) := by decide +kernel
theorem dX0_readLine_79 : decode cX0_readLine 79 = .ok (.ldc 103, 2) := by decide +kernel
theorem dX0_readLine_81 : decode cX0_readLine 81 = .ok (.invokevirtual 78, 3) := by decide +kernel
theorem dX0_readLine_84 : decode cX0_readLine 84 = .ok (.ifCond .eq 10, 3) := by decide +kernel
theorem dX0_readLine_87 : decode cX0_readLine 87 = .ok (.aload_n 0, 1) := by decide +kernel
theorem dX0_readLine_88 : decode cX0_readLine 88 = .ok (.invokevirtual 105, 3) := by decide +kernel
theorem dX0_readLine_91 : decode cX0_readLine 91 = .ok (.goto 60, 3) := by decide +kernel
theorem dX0_readLine_94 : decode cX0_readLine 94 = .ok (.aload_n 0, 1) := by decide +kernel
theorem dX0_readLine_95 : decode cX0_readLine 95 = .ok (.ldc 108, 2) := by decide +kernel
theorem dX0_readLine_97 : decode cX0_readLine 97 = .ok (.invokevirtual 78, 3) := by decide +kernel
theorem dX0_readLine_100 : decode cX0_readLine 100 = .ok (.ifCond .eq 10, 3) := by decide +kernel
theorem dX0_readLine_103 : decode cX0_readLine 103 = .ok (.aload_n 0, 1) := by decide +kernel
theorem dX0_readLine_104 : decode cX0_readLine 104 = .ok (.invokevirtual 110, 3) := by decide +kernel
theorem dX0_readLine_107 : decode cX0_readLine 107 = .ok (.goto 44, 3) := by decide +kernel
theorem dX0_readLine_110 : decode cX0_readLine 110 = .ok (.aload_n 0, 1) := by decide +kernel
theorem dX0_readLine_111 : decode cX0_readLine 111 = .ok (.ldc 113, 2) := by decide +kernel
theorem dX0_readLine_113 : decode cX0_readLine 113 = .ok (.invokevirtual 78, 3) := by decide +kernel
theorem dX0_readLine_116 : decode cX0_readLine 116 = .ok (.ifCond .eq 10, 3) := by decide +kernel
theorem dX0_readLine_119 : decode cX0_readLine 119 = .ok (.aload_n 0, 1) := by decide +kernel
theorem dX0_readLine_120 : decode cX0_readLine 120 = .ok (.invokevirtual 115, 3) := by decide +kernel
theorem dX0_readLine_123 : decode cX0_readLine 123 = .ok (.goto 28, 3) := by decide +kernel
theorem dX0_readLine_126 : decode cX0_readLine 126 = .ok (.aload_n 0, 1) := by decide +kernel
theorem dX0_readLine_127 : decode cX0_readLine 127 = .ok (.ldc 118, 2) := by decide +kernel
theorem dX0_readLine_129 : decode cX0_readLine 129 = .ok (.invokevirtual 78, 3) := by decide +kernel
theorem dX0_readLine_132 : decode cX0_readLine 132 = .ok (.ifCond .eq 10, 3) := by decide +kernel
theorem dX0_readLine_135 : decode cX0_readLine 135 = .ok (.aload_n 0, 1) := by decide +kernel
theorem dX0_readLine_136 : decode cX0_readLine 136 = .ok (.invokevirtual 120, 3) := by decide +kernel
theorem dX0_readLine_139 : decode cX0_readLine 139 = .ok (.goto 12, 3) := by decide +kernel
theorem dX0_readLine_142 : decode cX0_readLine 142 = .ok (.aload_n 0, 1) := by decide +kernel
theorem dX0_readLine_143 : decode cX0_readLine 143 = .ok (.iconst 1, 1) := by decide +kernel
theorem dX0_readLine_144 : decode cX0_readLine 144 = .ok (.aload_n 0, 1) := by decide +kernel
theorem dX0_readLine_145 : decode cX0_readLine 145 = .ok (.getfield 47, 3) := by decide +kernel
theorem dX0_readLine_148 : decode cX0_readLine 148 = .ok (.invokevirtual 50, 3) := by decide +kernel
theorem dX0_readLine_151 : decode cX0_readLine 151 = .ok (.return_, 1) := by decide +kernel
theorem dX0_takeRowWord_0 : decode cX0_takeRowWord 0 = .ok (.aload_n 1, 1) := by decide +kernel
theorem dX0_takeRowWord_1 : decode cX0_takeRowWord 1 = .ok (.getfield 123, 3) := by decide +kernel
theorem dX0_takeRowWord_4 : decode cX0_takeRowWord 4 = .ok (.iload_n 2, 1) := by decide +kernel
theorem dX0_takeRowWord_5 : decode cX0_takeRowWord 5 = .ok (.if_icmp .lt 15, 3) := by decide +kernel
theorem dX0_takeRowWord_8 : decode cX0_takeRowWord 8 = .ok (.aload_n 0, 1) := by decide +kernel
theorem dX0_takeRowWord_9 : decode cX0_takeRowWord 9 = .ok (.iconst 4, 1) := by decide +kernel
theorem dX0_takeRowWord_10 : decode cX0_takeRowWord 10 = .ok (.aload_n 0, 1) := by decide +kernel
theorem dX0_takeRowWord_11 : decode cX0_takeRowWord 11 = .ok (.getfield 47, 3) := by decide +kernel
theorem dX0_takeRowWord_14 : decode cX0_takeRowWord 14 = .ok (.invokevirtual 50, 3) := by decide +kernel
theorem dX0_takeRowWord_17 : decode cX0_takeRowWord 17 = .ok (.goto 7, 3) := by decide +kernel
theorem dX0_takeRowWord_20 : decode cX0_takeRowWord 20 = .ok (.aload_n 0, 1) := by decide +kernel
theorem dX0_takeRowWord_21 : decode cX0_takeRowWord 21 = .ok (.invokevirtual 38, 3) := by decide +kernel
theorem dX0_takeRowWord_24 : decode cX0_takeRowWord 24 = .ok (.return_, 1) := by decide +kernel
theorem dX0_readReach_0 : decode cX0_readReach 0 = .ok (.aload_n 0, 1) := by decide +kernel
theorem dX0_readReach_1 : decode cX0_readReach 1 = .ok (.aload_n 0, 1) := by decide +kernel
theorem dX0_readReach_2 : decode cX0_readReach 2 = .ok (.getfield 18, 3) := by decide +kernel
theorem dX0_readReach_5 : decode cX0_readReach 5 = .ok (.getfield 128, 3) := by decide +kernel
theorem dX0_readReach_8 : decode cX0_readReach 8 = .ok (.bipush 6, 2) := by decide +kernel
theorem dX0_readReach_10 : decode cX0_readReach 10 = .ok (.invokevirtual 132, 3) := by decide +kernel
theorem dX0_readReach_13 : decode cX0_readReach 13 = .ok (.aload_n 0, 1) := by decide +kernel
theorem dX0_readReach_14 : decode cX0_readReach 14 = .ok (.iconst 0, 1) := by decide +kernel
theorem dX0_readReach_15 : decode cX0_readReach 15 = .ok (.sipush 999, 3) := by decide +kernel
theorem dX0_readReach_18 : decode cX0_readReach 18 = .ok (.invokevirtual 97, 3) := by decide +kernel
theorem dX0_readReach_21 : decode cX0_readReach 21 = .ok (.istore_n 1, 1) := by decide +kernel
theorem dX0_readReach_22 : decode cX0_readReach 22 = .ok (.aload_n 0, 1) := by decide +kernel
theorem dX0_readReach_23 : decode cX0_readReach 23 = .ok (.iconst 0, 1) := by decide +kernel
theorem dX0_readReach_24 : decode cX0_readReach 24 = .ok (.sipush 999, 3) := by decide +kernel
theorem dX0_readReach_27 : decode cX0_readReach 27 = .ok (.invokevirtual 97, 3) := by decide +kernel
theorem dX0_readReach_30 : decode cX0_readReach 30 = .ok (.istore_n 2, 1) := by decide +kernel
theorem dX0_readReach_31 : decode cX0_readReach 31 = .ok (.aload_n 0, 1) := by decide +kernel
theorem dX0_readReach_32 : decode cX0_readReach 32 = .ok (.getfield 18, 3) := by decide +kernel
theorem dX0_readReach_35 : decode cX0_readReach 35 = .ok (.getfield 128, 3) := by decide +kernel
theorem dX0_readReach_38 : decode cX0_readReach 38 = .ok (.invokevirtual 136, 3) := by decide +kernel
theorem dX0_readReach_41 : decode cX0_readReach 41 = .ok (.istore_n 3, 1) := by decide +kernel
theorem dX0_readReach_42 : decode cX0_readReach 42 = .ok (.aload_n 0, 1) := by decide +kernel
theorem dX0_readReach_43 : decode cX0_readReach 43 = .ok (.getfield 18, 3) := by decide +kernel
theorem dX0_readReach_46 : decode cX0_readReach 46 = .ok (.getfield 128, 3) := by decide +kernel
theorem dX0_readReach_49 : decode cX0_readReach 49 = .ok (.iload_n 3, 1) := by decide +kernel
theorem dX0_readReach_50 : decode cX0_readReach 50 = .ok (.iconst 0, 1) := by decide +kernel
theorem dX0_readReach_51 : decode cX0_readReach 51 = .ok (.iload_n 1, 1) := by decide +kernel
theorem dX0_readReach_52 : decode cX0_readReach 52 = .ok (.invokevirtual 139, 3) := by decide +kernel
theorem dX0_readReach_55 : decode cX0_readReach 55 = .ok (.aload_n 0, 1) := by decide +kernel
theorem dX0_readReach_56 : decode cX0_readReach 56 = .ok (.getfield 18, 3) := by decide +kernel
theorem dX0_readReach_59 : decode cX0_readReach 59 = .ok (.getfield 128, 3) := by decide +kernel
theorem dX0_readReach_62 : decode cX0_readReach 62 = .ok (.iload_n 3, 1) := by decide +kernel
theorem dX0_readReach_63 : decode cX0_readReach 63 = .ok (.iconst 1, 1) := by decide +kernel
theorem dX0_readReach_64 : decode cX0_readReach 64 = .ok (.iload_n 2, 1) := by decide +kernel
theorem dX0_readReach_65 : decode cX0_readReach 65 = .ok (.invokevirtual 139, 3) := by decide +kernel
theorem dX0_readReach_68 : decode cX0_readReach 68 = .ok (.return_, 1) := by decide +kernel
theorem dX0_readSeason_0 : decode cX0_readSeason 0 = .ok (.aload_n 0, 1) := by decide +kernel
theorem dX0_readSeason_1 : decode cX0_readSeason 1 = .ok (.invokevirtual 38, 3) := by decide +kernel
theorem dX0_readSeason_4 : decode cX0_readSeason 4 = .ok (.aload_n 0, 1) := by decide +kernel
theorem dX0_readSeason_5 : decode cX0_readSeason 5 = .ok (.getfield 18, 3) := by decide +kernel
theorem dX0_readSeason_8 : decode cX0_readSeason 8 = .ok (.getfield 143, 3) := by decide +kernel
theorem dX0_readSeason_11 : decode cX0_readSeason 11 = .ok (.iconst 0, 1) := by decide +kernel
theorem dX0_readSeason_12 : decode cX0_readSeason 12 = .ok (.aload_n 0, 1) := by decide +kernel
theorem dX0_readSeason_13 : decode cX0_readSeason 13 = .ok (.iconst 0, 1) := by decide +kernel
theorem dX0_readSeason_14 : decode cX0_readSeason 14 = .ok (.sipush 200, 3) := by decide +kernel
theorem dX0_readSeason_17 : decode cX0_readSeason 17 = .ok (.invokevirtual 97, 3) := by decide +kernel
theorem dX0_readSeason_20 : decode cX0_readSeason 20 = .ok (.iastore, 1) := by decide +kernel
theorem dX0_readSeason_21 : decode cX0_readSeason 21 = .ok (.iconst 1, 1) := by decide +kernel
theorem dX0_readSeason_22 : decode cX0_readSeason 22 = .ok (.istore_n 1, 1) := by decide +kernel
theorem dX0_readSeason_23 : decode cX0_readSeason 23 = .ok (.iload_n 1, 1) := by decide +kernel
theorem dX0_readSeason_24 : decode cX0_readSeason 24 = .ok (.bipush 12, 2) := by decide +kernel
theorem dX0_readSeason_26 : decode cX0_readSeason 26 = .ok (.if_icmp .ge 41, 3) := by decide +kernel
theorem dX0_readSeason_29 : decode cX0_readSeason 29 = .ok (.aload_n 0, 1) := by decide +kernel
theorem dX0_readSeason_30 : decode cX0_readSeason 30 = .ok (.getfield 41, 3) := by decide +kernel
theorem dX0_readSeason_33 : decode cX0_readSeason 33 = .ok (.iconst 2, 1) := by decide +kernel
theorem dX0_readSeason_34 : decode cX0_readSeason 34 = .ok (.if_icmp .ne 33, 3) := by decide +kernel
theorem dX0_readSeason_37 : decode cX0_readSeason 37 = .ok (.aload_n 0, 1) := by decide +kernel
theorem dX0_readSeason_38 : decode cX0_readSeason 38 = .ok (.getfield 29, 3) := by decide +kernel
theorem dX0_readSeason_41 : decode cX0_readSeason 41 = .ok (.ifCond .ne 26, 3) := by decide +kernel
theorem dX0_readSeason_44 : decode cX0_readSeason 44 = .ok (.aload_n 0, 1) := by decide +kernel
theorem dX0_readSeason_45 : decode cX0_readSeason 45 = .ok (.getfield 18, 3) := by decide +kernel
theorem dX0_readSeason_48 : decode cX0_readSeason 48 = .ok (.getfield 143, 3) := by decide +kernel
theorem dX0_readSeason_51 : decode cX0_readSeason 51 = .ok (.iload_n 1, 1) := by decide +kernel
theorem dX0_readSeason_52 : decode cX0_readSeason 52 = .ok (.aload_n 0, 1) := by decide +kernel
theorem dX0_readSeason_53 : decode cX0_readSeason 53 = .ok (.iconst 0, 1) := by decide +kernel
theorem dX0_readSeason_54 : decode cX0_readSeason 54 = .ok (.sipush 200, 3) := by decide +kernel
theorem dX0_readSeason_57 : decode cX0_readSeason 57 = .ok (.invokevirtual 97, 3) := by decide +kernel
theorem dX0_readSeason_60 : decode cX0_readSeason 60 = .ok (.iastore, 1) := by decide +kernel
theorem dX0_readSeason_61 : decode cX0_readSeason 61 = .ok (.iinc 1 1, 3) := by decide +kernel
theorem dX0_readSeason_64 : decode cX0_readSeason 64 = .ok (.goto (-41), 3) := by decide +kernel
theorem dX0_readSeason_67 : decode cX0_readSeason 67 = .ok (.aload_n 0, 1) := by decide +kernel
theorem dX0_readSeason_68 : decode cX0_readSeason 68 = .ok (.getfield 41, 3) := by decide +kernel
theorem dX0_readSeason_71 : decode cX0_readSeason 71 = .ok (.iconst 2, 1) := by decide +kernel
theorem dX0_readSeason_72 : decode cX0_readSeason 72 = .ok (.if_icmp .ne 12, 3) := by decide +kernel
theorem dX0_readSeason_75 : decode cX0_readSeason 75 = .ok (.aload_n 0, 1) := by decide +kernel
theorem dX0_readSeason_76 : decode cX0_readSeason 76 = .ok (.iconst 4, 1) := by decide +kernel
theorem dX0_readSeason_77 : decode cX0_readSeason 77 = .ok (.aload_n 0, 1) := by decide +kernel
theorem dX0_readSeason_78 : decode cX0_readSeason 78 = .ok (.getfield 47, 3) := by decide +kernel
theorem dX0_readSeason_81 : decode cX0_readSeason 81 = .ok (.invokevirtual 50, 3) := by decide +kernel
theorem dX0_readSeason_84 : decode cX0_readSeason 84 = .ok (.return_, 1) := by decide +kernel
theorem dX0_readYears_0 : decode cX0_readYears 0 = .ok (.aload_n 0, 1) := by decide +kernel
theorem dX0_readYears_1 : decode cX0_readYears 1 = .ok (.invokevirtual 38, 3) := by decide +kernel
theorem dX0_readYears_4 : decode cX0_readYears 4 = .ok (.aload_n 0, 1) := by decide +kernel
theorem dX0_readYears_5 : decode cX0_readYears 5 = .ok (.getfield 18, 3) := by decide +kernel
theorem dX0_readYears_8 : decode cX0_readYears 8 = .ok (.getfield 147, 3) := by decide +kernel
theorem dX0_readYears_11 : decode cX0_readYears 11 = .ok (.iconst 0, 1) := by decide +kernel
theorem dX0_readYears_12 : decode cX0_readYears 12 = .ok (.aload_n 0, 1) := by decide +kernel
theorem dX0_readYears_13 : decode cX0_readYears 13 = .ok (.iconst 0, 1) := by decide +kernel
theorem dX0_readYears_14 : decode cX0_readYears 14 = .ok (.sipush 200, 3) := by decide +kernel
theorem dX0_readYears_17 : decode cX0_readYears 17 = .ok (.invokevirtual 97, 3) := by decide +kernel
theorem dX0_readYears_20 : decode cX0_readYears 20 = .ok (.iastore, 1) := by decide +kernel
theorem dX0_readYears_21 : decode cX0_readYears 21 = .ok (.aload_n 0, 1) := by decide +kernel
theorem dX0_readYears_22 : decode cX0_readYears 22 = .ok (.getfield 18, 3) := by decide +kernel
theorem dX0_readYears_25 : decode cX0_readYears 25 = .ok (.iconst 1, 1) := by decide +kernel
theorem dX0_readYears_26 : decode cX0_readYears 26 = .ok (.putfield 149, 3) := by decide +kernel
theorem dX0_readYears_29 : decode cX0_readYears 29 = .ok (.iconst 1, 1) := by decide +kernel
theorem dX0_readYears_30 : decode cX0_readYears 30 = .ok (.istore_n 1, 1) := by decide +kernel
theorem dX0_readYears_31 : decode cX0_readYears 31 = .ok (.iload_n 1, 1) := by decide +kernel
theorem dX0_readYears_32 : decode cX0_readYears 32 = .ok (.iconst 5, 1) := by decide +kernel
theorem dX0_readYears_33 : decode cX0_readYears 33 = .ok (.if_icmp .ge 51, 3) := by decide +kernel
theorem dX0_readYears_36 : decode cX0_readYears 36 = .ok (.aload_n 0, 1) := by decide +kernel
theorem dX0_readYears_37 : decode cX0_readYears 37 = .ok (.getfield 41, 3) := by decide +kernel
theorem dX0_readYears_40 : decode cX0_readYears 40 = .ok (.iconst 2, 1) := by decide +kernel
theorem dX0_readYears_41 : decode cX0_readYears 41 = .ok (.if_icmp .ne 43, 3) := by decide +kernel
theorem dX0_readYears_44 : decode cX0_readYears 44 = .ok (.aload_n 0, 1) := by decide +kernel
theorem dX0_readYears_45 : decode cX0_readYears 45 = .ok (.getfield 29, 3) := by decide +kernel
theorem dX0_readYears_48 : decode cX0_readYears 48 = .ok (.ifCond .ne 36, 3) := by decide +kernel
theorem dX0_readYears_51 : decode cX0_readYears 51 = .ok (.aload_n 0, 1) := by decide +kernel
theorem dX0_readYears_52 : decode cX0_readYears 52 = .ok (.getfield 18, 3) := by decide +kernel
theorem dX0_readYears_55 : decode cX0_readYears 55 = .ok (.getfield 147, 3) := by decide +kernel
theorem dX0_readYears_58 : decode cX0_readYears 58 = .ok (.iload_n 1, 1) := by decide +kernel
theorem dX0_readYears_59 : decode cX0_readYears 59 = .ok (.aload_n 0, 1) := by decide +kernel
theorem dX0_readYears_60 : decode cX0_readYears 60 = .ok (.iconst 0, 1) := by decide +kernel
theorem dX0_readYears_61 : decode cX0_readYears 61 = .ok (.sipush 200, 3) := by decide +kernel
theorem dX0_readYears_64 : decode cX0_readYears 64 = .ok (.invokevirtual 97, 3) := by decide +kernel
theorem dX0_readYears_67 : decode cX0_readYears 67 = .ok (.iastore, 1) := by decide +kernel
theorem dX0_readYears_68 : decode cX0_readYears 68 = .ok (.aload_n 0, 1) := by decide +kernel
theorem dX0_readYears_69 : decode cX0_readYears 69 = .ok (.getfield 18, 3) := by decide +kernel
theorem dX0_readYears_72 : decode cX0_readYears 72 = .ok (.iload_n 1, 1) := by decide +kernel
theorem dX0_readYears_73 : decode cX0_readYears 73 = .ok (.iconst 1, 1) := by decide +kernel
theorem dX0_readYears_74 : decode cX0_readYears 74 = .ok (.iadd, 1) := by decide +kernel
theorem dX0_readYears_75 : decode cX0_readYears 75 = .ok (.putfield 149, 3) := by decide +kernel
theorem dX0_readYears_78 : decode cX0_readYears 78 = .ok (.iinc 1 1, 3) := by decide +kernel
theorem dX0_readYears_81 : decode cX0_readYears 81 = .ok (.goto (-50), 3) := by decide +kernel
theorem dX0_readYears_84 : decode cX0_readYears 84 = .ok (.aload_n 0, 1) := by decide +kernel
theorem dX0_readYears_85 : decode cX0_readYears 85 = .ok (.getfield 41, 3) := by decide +kernel
theorem dX0_readYears_88 : decode cX0_readYears 88 = .ok (.iconst 2, 1) := by decide +kernel
theorem dX0_readYears_89 : decode cX0_readYears 89 = .ok (.if_icmp .ne 12, 3) := by decide +kernel
theorem dX0_readYears_92 : decode cX0_readYears 92 = .ok (.aload_n 0, 1) := by decide +kernel
theorem dX0_readYears_93 : decode cX0_readYears 93 = .ok (.iconst 4, 1) := by decide +kernel
theorem dX0_readYears_94 : decode cX0_readYears 94 = .ok (.aload_n 0, 1) := by decide +kernel
theorem dX0_readYears_95 : decode cX0_readYears 95 = .ok (.getfield 47, 3) := by decide +kernel
theorem dX0_readYears_98 : decode cX0_readYears 98 = .ok (.invokevirtual 50, 3) := by decide +kernel
theorem dX0_readYears_101 : decode cX0_readYears 101 = .ok (.return_, 1) := by decide +kernel
theorem dX0_readAccounts_0 : decode cX0_readAccounts 0 = .ok (.aload_n 0, 1) := by decide +kernel
theorem dX0_readAccounts_1 : decode cX0_readAccounts 1 = .ok (.getfield 18, 3) := by decide +kernel
theorem dX0_readAccounts_4 : decode cX0_readAccounts 4 = .ok (.getfield 152, 3) := by decide +kernel
theorem dX0_readAccounts_7 : decode cX0_readAccounts 7 = .ok (.getfield 123, 3) := by decide +kernel
theorem dX0_readAccounts_10 : decode cX0_readAccounts 10 = .ok (.ifCond .le 13, 3) := by decide +kernel
theorem dX0_readAccounts_13 : decode cX0_readAccounts 13 = .ok (.aload_n 0, 1) := by decide +kernel
theorem dX0_readAccounts_14 : decode cX0_readAccounts 14 = .ok (.iconst 1, 1) := by decide +kernel
theorem dX0_readAccounts_15 : decode cX0_readAccounts 15 = .ok (.aload_n 0, 1) := by decide +kernel
theorem dX0_readAccounts_16 : decode cX0_readAccounts 16 = .ok (.getfield 47, 3) := by decide +kernel
theorem dX0_readAccounts_19 : decode cX0_readAccounts 19 = .ok (.invokevirtual 50, 3) := by decide +kernel
theorem dX0_readAccounts_22 : decode cX0_readAccounts 22 = .ok (.return_, 1) := by decide +kernel
theorem dX0_readAccounts_23 : decode cX0_readAccounts 23 = .ok (.aload_n 0, 1) := by decide +kernel
theorem dX0_readAccounts_24 : decode cX0_readAccounts 24 = .ok (.invokevirtual 38, 3) := by decide +kernel
theorem dX0_readAccounts_27 : decode cX0_readAccounts 27 = .ok (.aload_n 0, 1) := by decide +kernel
theorem dX0_readAccounts_28 : decode cX0_readAccounts 28 = .ok (.iconst 1, 1) := by decide +kernel
theorem dX0_readAccounts_29 : decode cX0_readAccounts 29 = .ok (.iconst 5, 1) := by decide +kernel
theorem dX0_readAccounts_30 : decode cX0_readAccounts 30 = .ok (.invokevirtual 97, 3) := by decide +kernel
theorem dX0_readAccounts_33 : decode cX0_readAccounts 33 = .ok (.istore_n 1, 1) := by decide +kernel
theorem dX0_readAccounts_34 : decode cX0_readAccounts 34 = .ok (.aload_n 0, 1) := by decide +kernel
theorem dX0_readAccounts_35 : decode cX0_readAccounts 35 = .ok (.getfield 18, 3) := by decide +kernel
theorem dX0_readAccounts_38 : decode cX0_readAccounts 38 = .ok (.getfield 155, 3) := by decide +kernel
theorem dX0_readAccounts_41 : decode cX0_readAccounts 41 = .ok (.invokevirtual 157, 3) := by decide +kernel
theorem dX0_readAccounts_44 : decode cX0_readAccounts 44 = .ok (.iconst 0, 1) := by decide +kernel
theorem dX0_readAccounts_45 : decode cX0_readAccounts 45 = .ok (.istore_n 2, 1) := by decide +kernel
theorem dX0_readAccounts_46 : decode cX0_readAccounts 46 = .ok (.iload_n 2, 1) := by decide +kernel
theorem dX0_readAccounts_47 : decode cX0_readAccounts 47 = .ok (.iload_n 1, 1) := by decide +kernel
theorem dX0_readAccounts_48 : decode cX0_readAccounts 48 = .ok (.if_icmp .ge 20, 3) := by decide +kernel
theorem dX0_readAccounts_51 : decode cX0_readAccounts 51 = .ok (.aload_n 0, 1) := by decide +kernel
theorem dX0_readAccounts_52 : decode cX0_readAccounts 52 = .ok (.getfield 18, 3) := by decide +kernel
theorem dX0_readAccounts_55 : decode cX0_readAccounts 55 = .ok (.getfield 155, 3) := by decide +kernel
theorem dX0_readAccounts_58 : decode cX0_readAccounts 58 = .ok (.invokevirtual 136, 3) := by decide +kernel
theorem dX0_readAccounts_61 : decode cX0_readAccounts 61 = .ok (.pop, 1) := by decide +kernel
theorem dX0_readAccounts_62 : decode cX0_readAccounts 62 = .ok (.iinc 2 1, 3) := by decide +kernel
theorem dX0_readAccounts_65 : decode cX0_readAccounts 65 = .ok (.goto (-19), 3) := by decide +kernel
theorem dX0_readAccounts_68 : decode cX0_readAccounts 68 = .ok (.return_, 1) := by decide +kernel
theorem dX0_readRight_0 : decode cX0_readRight 0 = .ok (.aload_n 0, 1) := by decide +kernel
theorem dX0_readRight_1 : decode cX0_readRight 1 = .ok (.aload_n 0, 1) := by decide +kernel
theorem dX0_readRight_2 : decode cX0_readRight 2 = .ok (.getfield 18, 3) := by decide +kernel
theorem dX0_readRight_5 : decode cX0_readRight 5 = .ok (.getfield 152, 3) := by decide +kernel
theorem dX0_readRight_8 : decode cX0_readRight 8 = .ok (.bipush 10, 2) := by decide +kernel
theorem dX0_readRight_10 : decode cX0_readRight 10 = .ok (.invokevirtual 132, 3) := by decide +kernel
theorem dX0_readRight_13 : decode cX0_readRight 13 = .ok (.aload_n 0, 1) := by decide +kernel
theorem dX0_readRight_14 : decode cX0_readRight 14 = .ok (.iconst 0, 1) := by decide +kernel
theorem dX0_readRight_15 : decode cX0_readRight 15 = .ok (.aload_n 0, 1) := by decide +kernel
theorem dX0_readRight_16 : decode cX0_readRight 16 = .ok (.getfield 18, 3) := by decide +kernel
theorem dX0_readRight_19 : decode cX0_readRight 19 = .ok (.getfield 155, 3) := by decide +kernel
theorem dX0_readRight_22 : decode cX0_readRight 22 = .ok (.getfield 123, 3) := by decide +kernel
theorem dX0_readRight_25 : decode cX0_readRight 25 = .ok (.iconst 1, 1) := by decide +kernel
theorem dX0_readRight_26 : decode cX0_readRight 26 = .ok (.isub, 1) := by decide +kernel
theorem dX0_readRight_27 : decode cX0_readRight 27 = .ok (.invokevirtual 97, 3) := by decide +kernel
theorem dX0_readRight_30 : decode cX0_readRight 30 = .ok (.istore_n 1, 1) := by decide +kernel
theorem dX0_readRight_31 : decode cX0_readRight 31 = .ok (.aload_n 0, 1) := by decide +kernel
theorem dX0_readRight_32 : decode cX0_readRight 32 = .ok (.iconst 0, 1) := by decide +kernel
theorem dX0_readRight_33 : decode cX0_readRight 33 = .ok (.aload_n 0, 1) := by decide +kernel
theorem dX0_readRight_34 : decode cX0_readRight 34 = .ok (.getfield 18, 3) := by decide +kernel
theorem dX0_readRight_37 : decode cX0_readRight 37 = .ok (.getfield 128, 3) := by decide +kernel
theorem dX0_readRight_40 : decode cX0_readRight 40 = .ok (.getfield 123, 3) := by decide +kernel
theorem dX0_readRight_43 : decode cX0_readRight 43 = .ok (.iconst 1, 1) := by decide +kernel
theorem dX0_readRight_44 : decode cX0_readRight 44 = .ok (.isub, 1) := by decide +kernel
theorem dX0_readRight_45 : decode cX0_readRight 45 = .ok (.invokevirtual 97, 3) := by decide +kernel
theorem dX0_readRight_48 : decode cX0_readRight 48 = .ok (.istore_n 2, 1) := by decide +kernel
theorem dX0_readRight_49 : decode cX0_readRight 49 = .ok (.aload_n 0, 1) := by decide +kernel
theorem dX0_readRight_50 : decode cX0_readRight 50 = .ok (.getfield 47, 3) := by decide +kernel
theorem dX0_readRight_53 : decode cX0_readRight 53 = .ok (.istore_n 3, 1) := by decide +kernel
theorem dX0_readRight_54 : decode cX0_readRight 54 = .ok (.aload_n 0, 1) := by decide +kernel
theorem dX0_readRight_55 : decode cX0_readRight 55 = .ok (.iconst 1, 1) := by decide +kernel
theorem dX0_readRight_56 : decode cX0_readRight 56 = .ok (.bipush 99, 2) := by decide +kernel
theorem dX0_readRight_58 : decode cX0_readRight 58 = .ok (.invokevirtual 97, 3) := by decide +kernel
theorem dX0_readRight_61 : decode cX0_readRight 61 = .ok (.istore 4, 2) := by decide +kernel
theorem dX0_readRight_63 : decode cX0_readRight 63 = .ok (.aload_n 0, 1) := by decide +kernel
theorem dX0_readRight_64 : decode cX0_readRight 64 = .ok (.aload_n 0, 1) := by decide +kernel
theorem dX0_readRight_65 : decode cX0_readRight 65 = .ok (.getfield 18, 3) := by decide +kernel
theorem dX0_readRight_68 : decode cX0_readRight 68 = .ok (.getfield 152, 3) := by decide +kernel
theorem dX0_readRight_71 : decode cX0_readRight 71 = .ok (.iconst 2, 1) := by decide +kernel
theorem dX0_readRight_72 : decode cX0_readRight 72 = .ok (.iload 4, 2) := by decide +kernel
theorem dX0_readRight_74 : decode cX0_readRight 74 = .ok (.iload_n 3, 1) := by decide +kernel
theorem dX0_readRight_75 : decode cX0_readRight 75 = .ok (.invokevirtual 160, 3) := by decide +kernel
theorem dX0_readRight_78 : decode cX0_readRight 78 = .ok (.aload_n 0, 1) := by decide +kernel
theorem dX0_readRight_79 : decode cX0_readRight 79 = .ok (.iconst 1, 1) := by decide +kernel
theorem dX0_readRight_80 : decode cX0_readRight 80 = .ok (.sipush 999, 3) := by decide +kernel
theorem dX0_readRight_83 : decode cX0_readRight 83 = .ok (.invokevirtual 97, 3) := by decide +kernel
theorem dX0_readRight_86 : decode cX0_readRight 86 = .ok (.istore 5, 2) := by decide +kernel
theorem dX0_readRight_88 : decode cX0_readRight 88 = .ok (.iconst 0, 1) := by decide +kernel
theorem dX0_readRight_89 : decode cX0_readRight 89 = .ok (.istore 6, 2) := by decide +kernel
theorem dX0_readRight_91 : decode cX0_readRight 91 = .ok (.iload_n 2, 1) := by decide +kernel
theorem dX0_readRight_92 : decode cX0_readRight 92 = .ok (.istore 7, 2) := by decide +kernel
theorem dX0_readRight_94 : decode cX0_readRight 94 = .ok (.aload_n 0, 1) := by decide +kernel
theorem dX0_readRight_95 : decode cX0_readRight 95 = .ok (.ldc 164, 2) := by decide +kernel
theorem dX0_readRight_97 : decode cX0_readRight 97 = .ok (.invokevirtual 78, 3) := by decide +kernel
theorem dX0_readRight_100 : decode cX0_readRight 100 = .ok (.ifCond .eq 35, 3) := by decide +kernel
theorem dX0_readRight_103 : decode cX0_readRight 103 = .ok (.aload_n 0, 1) := by decide +kernel
theorem dX0_readRight_104 : decode cX0_readRight 104 = .ok (.invokevirtual 38, 3) := by decide +kernel
theorem dX0_readRight_107 : decode cX0_readRight 107 = .ok (.aload_n 0, 1) := by decide +kernel
theorem dX0_readRight_108 : decode cX0_readRight 108 = .ok (.iconst 0, 1) := by decide +kernel
theorem dX0_readRight_109 : decode cX0_readRight 109 = .ok (.bipush 90, 2) := by decide +kernel
theorem dX0_readRight_111 : decode cX0_readRight 111 = .ok (.invokevirtual 97, 3) := by decide +kernel
theorem dX0_readRight_114 : decode cX0_readRight 114 = .ok (.istore 6, 2) := by decide +kernel
theorem dX0_readRight_116 : decode cX0_readRight 116 = .ok (.aload_n 0, 1) := by decide +kernel
theorem dX0_readRight_117 : decode cX0_readRight 117 = .ok (.iload_n 2, 1) := by decide +kernel
theorem dX0_readRight_118 : decode cX0_readRight 118 = .ok (.aload_n 0, 1) := by decide +kernel
theorem dX0_readRight_119 : decode cX0_readRight 119 = .ok (.getfield 18, 3) := by decide +kernel
theorem dX0_readRight_122 : decode cX0_readRight 122 = .ok (.getfield 128, 3) := by decide +kernel
theorem dX0_readRight_125 : decode cX0_readRight 125 = .ok (.getfield 123, 3) := by decide +kernel
theorem dX0_readRight_128 : decode cX0_readRight 128 = .ok (.iconst 1, 1) := by decide +kernel
theorem dX0_readRight_129 : decode cX0_readRight 129 = .ok (.isub, 1) := by decide +kernel
theorem dX0_readRight_130 : decode cX0_readRight 130 = .ok (.invokevirtual 97, 3) := by decide +kernel
theorem dX0_readRight_133 : decode cX0_readRight 133 = .ok (.istore 7, 2) := by decide +kernel
theorem dX0_readRight_135 : decode cX0_readRight 135 = .ok (.iconst 0, 1) := by decide +kernel
theorem dX0_readRight_136 : decode cX0_readRight 136 = .ok (.istore 8, 2) := by decide +kernel
theorem dX0_readRight_138 : decode cX0_readRight 138 = .ok (.aload_n 0, 1) := by decide +kernel
theorem dX0_readRight_139 : decode cX0_readRight 139 = .ok (.ldc 166, 2) := by decide +kernel
theorem dX0_readRight_141 : decode cX0_readRight 141 = .ok (.invokevirtual 78, 3) := by decide +kernel
theorem dX0_readRight_144 : decode cX0_readRight 144 = .ok (.ifCond .eq 16, 3) := by decide +kernel
theorem dX0_readRight_147 : decode cX0_readRight 147 = .ok (.aload_n 0, 1) := by decide +kernel
theorem dX0_readRight_148 : decode cX0_readRight 148 = .ok (.invokevirtual 38, 3) := by decide +kernel
theorem dX0_readRight_151 : decode cX0_readRight 151 = .ok (.aload_n 0, 1) := by decide +kernel
theorem dX0_readRight_152 : decode cX0_readRight 152 = .ok (.iconst 0, 1) := by decide +kernel
theorem dX0_readRight_153 : decode cX0_readRight 153 = .ok (.bipush 100, 2) := by decide +kernel
theorem dX0_readRight_155 : decode cX0_readRight 155 = .ok (.invokevirtual 97, 3) := by decide +kernel
theorem dX0_readRight_158 : decode cX0_readRight 158 = .ok (.istore 8, 2) := by decide +kernel
theorem dX0_readRight_160 : decode cX0_readRight 160 = .ok (.aload_n 0, 1) := by decide +kernel
theorem dX0_readRight_161 : decode cX0_readRight 161 = .ok (.getfield 18, 3) := by decide +kernel
theorem dX0_readRight_164 : decode cX0_readRight 164 = .ok (.getfield 152, 3) := by decide +kernel
theorem dX0_readRight_167 : decode cX0_readRight 167 = .ok (.invokevirtual 136, 3) := by decide +kernel
theorem dX0_readRight_170 : decode cX0_readRight 170 = .ok (.istore 9, 2) := by decide +kernel
theorem dX0_readRight_172 : decode cX0_readRight 172 = .ok (.aload_n 0, 1) := by decide +kernel
theorem dX0_readRight_173 : decode cX0_readRight 173 = .ok (.getfield 18, 3) := by decide +kernel
theorem dX0_readRight_176 : decode cX0_readRight 176 = .ok (.getfield 152, 3) := by decide +kernel
theorem dX0_readRight_179 : decode cX0_readRight 179 = .ok (.iload 9, 2) := by decide +kernel
theorem dX0_readRight_181 : decode cX0_readRight 181 = .ok (.iconst 0, 1) := by decide +kernel
theorem dX0_readRight_182 : decode cX0_readRight 182 = .ok (.iload_n 1, 1) := by decide +kernel
theorem dX0_readRight_183 : decode cX0_readRight 183 = .ok (.invokevirtual 139, 3) := by decide +kernel
theorem dX0_readRight_186 : decode cX0_readRight 186 = .ok (.aload_n 0, 1) := by decide +kernel
theorem dX0_readRight_187 : decode cX0_readRight 187 = .ok (.getfield 18, 3) := by decide +kernel
theorem dX0_readRight_190 : decode cX0_readRight 190 = .ok (.getfield 152, 3) := by decide +kernel
theorem dX0_readRight_193 : decode cX0_readRight 193 = .ok (.iload 9, 2) := by decide +kernel
theorem dX0_readRight_195 : decode cX0_readRight 195 = .ok (.iconst 1, 1) := by decide +kernel
theorem dX0_readRight_196 : decode cX0_readRight 196 = .ok (.iload_n 2, 1) := by decide +kernel
theorem dX0_readRight_197 : decode cX0_readRight 197 = .ok (.invokevirtual 139, 3) := by decide +kernel
theorem dX0_readRight_200 : decode cX0_readRight 200 = .ok (.aload_n 0, 1) := by decide +kernel
theorem dX0_readRight_201 : decode cX0_readRight 201 = .ok (.getfield 18, 3) := by decide +kernel
theorem dX0_readRight_204 : decode cX0_readRight 204 = .ok (.getfield 152, 3) := by decide +kernel
theorem dX0_readRight_207 : decode cX0_readRight 207 = .ok (.iload 9, 2) := by decide +kernel
theorem dX0_readRight_209 : decode cX0_readRight 209 = .ok (.iconst 2, 1) := by decide +kernel
theorem dX0_readRight_210 : decode cX0_readRight 210 = .ok (.iload 4, 2) := by decide +kernel
theorem dX0_readRight_212 : decode cX0_readRight 212 = .ok (.invokevirtual 139, 3) := by decide +kernel
theorem dX0_readRight_215 : decode cX0_readRight 215 = .ok (.aload_n 0, 1) := by decide +kernel
theorem dX0_readRight_216 : decode cX0_readRight 216 = .ok (.getfield 18, 3) := by decide +kernel
theorem dX0_readRight_219 : decode cX0_readRight 219 = .ok (.getfield 152, 3) := by decide +kernel
theorem dX0_readRight_222 : decode cX0_readRight 222 = .ok (.iload 9, 2) := by decide +kernel
theorem dX0_readRight_224 : decode cX0_readRight 224 = .ok (.iconst 3, 1) := by decide +kernel
theorem dX0_readRight_225 : decode cX0_readRight 225 = .ok (.iload 5, 2) := by decide +kernel
theorem dX0_readRight_227 : decode cX0_readRight 227 = .ok (.invokevirtual 139, 3) := by decide +kernel
theorem dX0_readRight_230 : decode cX0_readRight 230 = .ok (.aload_n 0, 1) := by decide +kernel
theorem dX0_readRight_231 : decode cX0_readRight 231 = .ok (.getfield 18, 3) := by decide +kernel
theorem dX0_readRight_234 : decode cX0_readRight 234 = .ok (.getfield 152, 3) := by decide +kernel
theorem dX0_readRight_237 : decode cX0_readRight 237 = .ok (.iload 9, 2) := by decide +kernel
theorem dX0_readRight_239 : decode cX0_readRight 239 = .ok (.iconst 4, 1) := by decide +kernel
theorem dX0_readRight_240 : decode cX0_readRight 240 = .ok (.iload 6, 2) := by decide +kernel
theorem dX0_readRight_242 : decode cX0_readRight 242 = .ok (.invokevirtual 139, 3) := by decide +kernel
theorem dX0_readRight_245 : decode cX0_readRight 245 = .ok (.aload_n 0, 1) := by decide +kernel
theorem dX0_readRight_246 : decode cX0_readRight 246 = .ok (.getfield 18, 3) := by decide +kernel
theorem dX0_readRight_249 : decode cX0_readRight 249 = .ok (.getfield 152, 3) := by decide +kernel
theorem dX0_readRight_252 : decode cX0_readRight 252 = .ok (.iload 9, 2) := by decide +kernel
theorem dX0_readRight_254 : decode cX0_readRight 254 = .ok (.iconst 5, 1) := by decide +kernel
theorem dX0_readRight_255 : decode cX0_readRight 255 = .ok (.iload 7, 2) := by decide +kernel
theorem dX0_readRight_257 : decode cX0_readRight 257 = .ok (.invokevirtual 139, 3) := by decide +kernel
theorem dX0_readRight_260 : decode cX0_readRight 260 = .ok (.aload_n 0, 1) := by decide +kernel
theorem dX0_readRight_261 : decode cX0_readRight 261 = .ok (.getfield 18, 3) := by decide +kernel
theorem dX0_readRight_264 : decode cX0_readRight 264 = .ok (.getfield 152, 3) := by decide +kernel
theorem dX0_readRight_267 : decode cX0_readRight 267 = .ok (.iload 9, 2) := by decide +kernel
theorem dX0_readRight_269 : decode cX0_readRight 269 = .ok (.bipush 6, 2) := by decide +kernel
theorem dX0_readRight_271 : decode cX0_readRight 271 = .ok (.iload 8, 2) := by decide +kernel
theorem dX0_readRight_273 : decode cX0_readRight 273 = .ok (.invokevirtual 139, 3) := by decide +kernel
theorem dX0_readRight_276 : decode cX0_readRight 276 = .ok (.return_, 1) := by decide +kernel
theorem dX0_failIfTaken_0 : decode cX0_failIfTaken 0 = .ok (.iconst 0, 1) := by decide +kernel
theorem dX0_failIfTaken_1 : decode cX0_failIfTaken 1 = .ok (.istore 5, 2) := by decide +kernel
theorem dX0_failIfTaken_3 : decode cX0_failIfTaken 3 = .ok (.iload 5, 2) := by decide +kernel
theorem dX0_failIfTaken_5 : decode cX0_failIfTaken 5 = .ok (.aload_n 1, 1) := by decide +kernel
theorem dX0_failIfTaken_6 : decode cX0_failIfTaken 6 = .ok (.getfield 123, 3) := by decide +kernel
theorem dX0_failIfTaken_9 : decode cX0_failIfTaken 9 = .ok (.if_icmp .ge 27, 3) := by decide +kernel
theorem dX0_failIfTaken_12 : decode cX0_failIfTaken 12 = .ok (.aload_n 1, 1) := by decide +kernel
theorem dX0_failIfTaken_13 : decode cX0_failIfTaken 13 = .ok (.iload 5, 2) := by decide +kernel
theorem dX0_failIfTaken_15 : decode cX0_failIfTaken 15 = .ok (.iload_n 2, 1) := by decide +kernel
theorem dX0_failIfTaken_16 : decode cX0_failIfTaken 16 = .ok (.invokevirtual 168, 3) := by decide +kernel
theorem dX0_failIfTaken_19 : decode cX0_failIfTaken 19 = .ok (.iload_n 3, 1) := by decide +kernel
theorem dX0_failIfTaken_20 : decode cX0_failIfTaken 20 = .ok (.if_icmp .ne 10, 3) := by decide +kernel
theorem dX0_failIfTaken_23 : decode cX0_failIfTaken 23 = .ok (.aload_n 0, 1) := by decide +kernel
theorem dX0_failIfTaken_24 : decode cX0_failIfTaken 24 = .ok (.iconst 3, 1) := by decide +kernel
theorem dX0_failIfTaken_25 : decode cX0_failIfTaken 25 = .ok (.iload 4, 2) := by decide +kernel
theorem dX0_failIfTaken_27 : decode cX0_failIfTaken 27 = .ok (.invokevirtual 50, 3) := by decide +kernel
theorem dX0_failIfTaken_30 : decode cX0_failIfTaken 30 = .ok (.iinc 5 1, 3) := by decide +kernel
theorem dX0_failIfTaken_33 : decode cX0_failIfTaken 33 = .ok (.goto (-30), 3) := by decide +kernel
theorem dX0_failIfTaken_36 : decode cX0_failIfTaken 36 = .ok (.return_, 1) := by decide +kernel
theorem dX0_readLease_0 : decode cX0_readLease 0 = .ok (.aload_n 0, 1) := by decide +kernel
theorem dX0_readLease_1 : decode cX0_readLease 1 = .ok (.aload_n 0, 1) := by decide +kernel
theorem dX0_readLease_2 : decode cX0_readLease 2 = .ok (.getfield 18, 3) := by decide +kernel
theorem dX0_readLease_5 : decode cX0_readLease 5 = .ok (.getfield 171, 3) := by decide +kernel
theorem dX0_readLease_8 : decode cX0_readLease 8 = .ok (.bipush 8, 2) := by decide +kernel
theorem dX0_readLease_10 : decode cX0_readLease 10 = .ok (.invokevirtual 132, 3) := by decide +kernel
theorem dX0_readLease_13 : decode cX0_readLease 13 = .ok (.aload_n 0, 1) := by decide +kernel
theorem dX0_readLease_14 : decode cX0_readLease 14 = .ok (.iconst 0, 1) := by decide +kernel
theorem dX0_readLease_15 : decode cX0_readLease 15 = .ok (.aload_n 0, 1) := by decide +kernel
theorem dX0_readLease_16 : decode cX0_readLease 16 = .ok (.getfield 18, 3) := by decide +kernel
theorem dX0_readLease_19 : decode cX0_readLease 19 = .ok (.getfield 152, 3) := by decide +kernel
theorem dX0_readLease_22 : decode cX0_readLease 22 = .ok (.getfield 123, 3) := by decide +kernel
theorem dX0_readLease_25 : decode cX0_readLease 25 = .ok (.iconst 1, 1) := by decide +kernel
theorem dX0_readLease_26 : decode cX0_readLease 26 = .ok (.isub, 1) := by decide +kernel
theorem dX0_readLease_27 : decode cX0_readLease 27 = .ok (.invokevirtual 97, 3) := by decide +kernel
theorem dX0_readLease_30 : decode cX0_readLease 30 = .ok (.istore_n 1, 1) := by decide +kernel
theorem dX0_readLease_31 : decode cX0_readLease 31 = .ok (.aload_n 0, 1) := by decide +kernel
theorem dX0_readLease_32 : decode cX0_readLease 32 = .ok (.iconst 0, 1) := by decide +kernel
theorem dX0_readLease_33 : decode cX0_readLease 33 = .ok (.aload_n 0, 1) := by decide +kernel
theorem dX0_readLease_34 : decode cX0_readLease 34 = .ok (.getfield 18, 3) := by decide +kernel
theorem dX0_readLease_37 : decode cX0_readLease 37 = .ok (.getfield 155, 3) := by decide +kernel
theorem dX0_readLease_40 : decode cX0_readLease 40 = .ok (.getfield 123, 3) := by decide +kernel
theorem dX0_readLease_43 : decode cX0_readLease 43 = .ok (.iconst 1, 1) := by decide +kernel
theorem dX0_readLease_44 : decode cX0_readLease 44 = .ok (.isub, 1) := by decide +kernel
theorem dX0_readLease_45 : decode cX0_readLease 45 = .ok (.invokevirtual 97, 3) := by decide +kernel
theorem dX0_readLease_48 : decode cX0_readLease 48 = .ok (.istore_n 2, 1) := by decide +kernel
theorem dX0_readLease_49 : decode cX0_readLease 49 = .ok (.aload_n 0, 1) := by decide +kernel
theorem dX0_readLease_50 : decode cX0_readLease 50 = .ok (.iconst 0, 1) := by decide +kernel
theorem dX0_readLease_51 : decode cX0_readLease 51 = .ok (.aload_n 0, 1) := by decide +kernel
theorem dX0_readLease_52 : decode cX0_readLease 52 = .ok (.getfield 18, 3) := by decide +kernel
theorem dX0_readLease_55 : decode cX0_readLease 55 = .ok (.getfield 128, 3) := by decide +kernel
theorem dX0_readLease_58 : decode cX0_readLease 58 = .ok (.getfield 123, 3) := by decide +kernel
theorem dX0_readLease_61 : decode cX0_readLease 61 = .ok (.iconst 1, 1) := by decide +kernel
theorem dX0_readLease_62 : decode cX0_readLease 62 = .ok (.isub, 1) := by decide +kernel
theorem dX0_readLease_63 : decode cX0_readLease 63 = .ok (.invokevirtual 97, 3) := by decide +kernel
theorem dX0_readLease_66 : decode cX0_readLease 66 = .ok (.istore_n 3, 1) := by decide +kernel
theorem dX0_readLease_67 : decode cX0_readLease 67 = .ok (.aload_n 0, 1) := by decide +kernel
theorem dX0_readLease_68 : decode cX0_readLease 68 = .ok (.iconst 1, 1) := by decide +kernel
theorem dX0_readLease_69 : decode cX0_readLease 69 = .ok (.sipush 999, 3) := by decide +kernel
theorem dX0_readLease_72 : decode cX0_readLease 72 = .ok (.invokevirtual 97, 3) := by decide +kernel
theorem dX0_readLease_75 : decode cX0_readLease 75 = .ok (.istore 4, 2) := by decide +kernel
theorem dX0_readLease_77 : decode cX0_readLease 77 = .ok (.aload_n 0, 1) := by decide +kernel
theorem dX0_readLease_78 : decode cX0_readLease 78 = .ok (.iconst 0, 1) := by decide +kernel
theorem dX0_readLease_79 : decode cX0_readLease 79 = .ok (.bipush 99, 2) := by decide +kernel
theorem dX0_readLease_81 : decode cX0_readLease 81 = .ok (.invokevirtual 97, 3) := by decide +kernel
theorem dX0_readLease_84 : decode cX0_readLease 84 = .ok (.istore 5, 2) := by decide +kernel
theorem dX0_readLease_86 : decode cX0_readLease 86 = .ok (.aload_n 0, 1) := by decide +kernel
theorem dX0_readLease_87 : decode cX0_readLease 87 = .ok (.iconst 1, 1) := by decide +kernel
theorem dX0_readLease_88 : decode cX0_readLease 88 = .ok (.bipush 36, 2) := by decide +kernel
theorem dX0_readLease_90 : decode cX0_readLease 90 = .ok (.invokevirtual 97, 3) := by decide +kernel
theorem dX0_readLease_93 : decode cX0_readLease 93 = .ok (.istore 6, 2) := by decide +kernel
theorem dX0_readLease_95 : decode cX0_readLease 95 = .ok (.aload_n 0, 1) := by decide +kernel
theorem dX0_readLease_96 : decode cX0_readLease 96 = .ok (.getfield 18, 3) := by decide +kernel
theorem dX0_readLease_99 : decode cX0_readLease 99 = .ok (.iload_n 1, 1) := by decide +kernel
theorem dX0_readLease_100 : decode cX0_readLease 100 = .ok (.iload_n 2, 1) := by decide +kernel
theorem dX0_readLease_101 : decode cX0_readLease 101 = .ok (.iload_n 3, 1) := by decide +kernel
theorem dX0_readLease_102 : decode cX0_readLease 102 = .ok (.iload 4, 2) := by decide +kernel
theorem dX0_readLease_104 : decode cX0_readLease 104 = .ok (.iload 5, 2) := by decide +kernel
theorem dX0_readLease_106 : decode cX0_readLease 106 = .ok (.iload 6, 2) := by decide +kernel
theorem dX0_readLease_108 : decode cX0_readLease 108 = .ok (.invokevirtual 174, 3) := by decide +kernel
theorem dX0_readLease_111 : decode cX0_readLease 111 = .ok (.pop, 1) := by decide +kernel
theorem dX0_readLease_112 : decode cX0_readLease 112 = .ok (.return_, 1) := by decide +kernel
theorem dX0_readOption_0 : decode cX0_readOption 0 = .ok (.aload_n 0, 1) := by decide +kernel
theorem dX0_readOption_1 : decode cX0_readOption 1 = .ok (.aload_n 0, 1) := by decide +kernel
theorem dX0_readOption_2 : decode cX0_readOption 2 = .ok (.getfield 18, 3) := by decide +kernel
theorem dX0_readOption_5 : decode cX0_readOption 5 = .ok (.getfield 178, 3) := by decide +kernel
theorem dX0_readOption_8 : decode cX0_readOption 8 = .ok (.bipush 6, 2) := by decide +kernel
theorem dX0_readOption_10 : decode cX0_readOption 10 = .ok (.invokevirtual 132, 3) := by decide +kernel
theorem dX0_readOption_13 : decode cX0_readOption 13 = .ok (.aload_n 0, 1) := by decide +kernel
theorem dX0_readOption_14 : decode cX0_readOption 14 = .ok (.getfield 47, 3) := by decide +kernel
theorem dX0_readOption_17 : decode cX0_readOption 17 = .ok (.istore_n 1, 1) := by decide +kernel
theorem dX0_readOption_18 : decode cX0_readOption 18 = .ok (.aload_n 0, 1) := by decide +kernel
theorem dX0_readOption_19 : decode cX0_readOption 19 = .ok (.iconst 0, 1) := by decide +kernel
theorem dX0_readOption_20 : decode cX0_readOption 20 = .ok (.aload_n 0, 1) := by decide +kernel
theorem dX0_readOption_21 : decode cX0_readOption 21 = .ok (.getfield 18, 3) := by decide +kernel
theorem dX0_readOption_24 : decode cX0_readOption 24 = .ok (.getfield 152, 3) := by decide +kernel
theorem dX0_readOption_27 : decode cX0_readOption 27 = .ok (.getfield 123, 3) := by decide +kernel
theorem dX0_readOption_30 : decode cX0_readOption 30 = .ok (.iconst 1, 1) := by decide +kernel
theorem dX0_readOption_31 : decode cX0_readOption 31 = .ok (.isub, 1) := by decide +kernel
theorem dX0_readOption_32 : decode cX0_readOption 32 = .ok (.invokevirtual 97, 3) := by decide +kernel
theorem dX0_readOption_35 : decode cX0_readOption 35 = .ok (.istore_n 2, 1) := by decide +kernel
theorem dX0_readOption_36 : decode cX0_readOption 36 = .ok (.aload_n 0, 1) := by decide +kernel
theorem dX0_readOption_37 : decode cX0_readOption 37 = .ok (.aload_n 0, 1) := by decide +kernel
theorem dX0_readOption_38 : decode cX0_readOption 38 = .ok (.getfield 18, 3) := by decide +kernel
theorem dX0_readOption_41 : decode cX0_readOption 41 = .ok (.getfield 178, 3) := by decide +kernel
theorem dX0_readOption_44 : decode cX0_readOption 44 = .ok (.iconst 0, 1) := by decide +kernel
theorem dX0_readOption_45 : decode cX0_readOption 45 = .ok (.iload_n 2, 1) := by decide +kernel
theorem dX0_readOption_46 : decode cX0_readOption 46 = .ok (.iload_n 1, 1) := by decide +kernel
theorem dX0_readOption_47 : decode cX0_readOption 47 = .ok (.invokevirtual 160, 3) := by decide +kernel
theorem dX0_readOption_50 : decode cX0_readOption 50 = .ok (.aload_n 0, 1) := by decide +kernel
theorem dX0_readOption_51 : decode cX0_readOption 51 = .ok (.iconst 0, 1) := by decide +kernel
theorem dX0_readOption_52 : decode cX0_readOption 52 = .ok (.aload_n 0, 1) := by decide +kernel
theorem dX0_readOption_53 : decode cX0_readOption 53 = .ok (.getfield 18, 3) := by decide +kernel
theorem dX0_readOption_56 : decode cX0_readOption 56 = .ok (.getfield 155, 3) := by decide +kernel
theorem dX0_readOption_59 : decode cX0_readOption 59 = .ok (.getfield 123, 3) := by decide +kernel
theorem dX0_readOption_62 : decode cX0_readOption 62 = .ok (.iconst 1, 1) := by decide +kernel
theorem dX0_readOption_63 : decode cX0_readOption 63 = .ok (.isub, 1) := by decide +kernel
theorem dX0_readOption_64 : decode cX0_readOption 64 = .ok (.invokevirtual 97, 3) := by decide +kernel
theorem dX0_readOption_67 : decode cX0_readOption 67 = .ok (.istore_n 3, 1) := by decide +kernel
theorem dX0_readOption_68 : decode cX0_readOption 68 = .ok (.aload_n 0, 1) := by decide +kernel
theorem dX0_readOption_69 : decode cX0_readOption 69 = .ok (.iconst 0, 1) := by decide +kernel
theorem dX0_readOption_70 : decode cX0_readOption 70 = .ok (.aload_n 0, 1) := by decide +kernel
theorem dX0_readOption_71 : decode cX0_readOption 71 = .ok (.getfield 18, 3) := by decide +kernel
theorem dX0_readOption_74 : decode cX0_readOption 74 = .ok (.getfield 128, 3) := by decide +kernel
theorem dX0_readOption_77 : decode cX0_readOption 77 = .ok (.getfield 123, 3) := by decide +kernel
theorem dX0_readOption_80 : decode cX0_readOption 80 = .ok (.iconst 1, 1) := by decide +kernel
theorem dX0_readOption_81 : decode cX0_readOption 81 = .ok (.isub, 1) := by decide +kernel
theorem dX0_readOption_82 : decode cX0_readOption 82 = .ok (.invokevirtual 97, 3) := by decide +kernel
theorem dX0_readOption_85 : decode cX0_readOption 85 = .ok (.istore 4, 2) := by decide +kernel
theorem dX0_readOption_87 : decode cX0_readOption 87 = .ok (.aload_n 0, 1) := by decide +kernel
theorem dX0_readOption_88 : decode cX0_readOption 88 = .ok (.iconst 1, 1) := by decide +kernel
theorem dX0_readOption_89 : decode cX0_readOption 89 = .ok (.sipush 200, 3) := by decide +kernel
theorem dX0_readOption_92 : decode cX0_readOption 92 = .ok (.invokevirtual 97, 3) := by decide +kernel
theorem dX0_readOption_95 : decode cX0_readOption 95 = .ok (.istore 5, 2) := by decide +kernel
theorem dX0_readOption_97 : decode cX0_readOption 97 = .ok (.aload_n 0, 1) := by decide +kernel
theorem dX0_readOption_98 : decode cX0_readOption 98 = .ok (.iconst 0, 1) := by decide +kernel
theorem dX0_readOption_99 : decode cX0_readOption 99 = .ok (.sipush 999, 3) := by decide +kernel
theorem dX0_readOption_102 : decode cX0_readOption 102 = .ok (.invokevirtual 97, 3) := by decide +kernel
theorem dX0_readOption_105 : decode cX0_readOption 105 = .ok (.istore 6, 2) := by decide +kernel
theorem dX0_readOption_107 : decode cX0_readOption 107 = .ok (.aload_n 0, 1) := by decide +kernel
theorem dX0_readOption_108 : decode cX0_readOption 108 = .ok (.iconst 0, 1) := by decide +kernel
theorem dX0_readOption_109 : decode cX0_readOption 109 = .ok (.bipush 99, 2) := by decide +kernel
theorem dX0_readOption_111 : decode cX0_readOption 111 = .ok (.invokevirtual 97, 3) := by decide +kernel
theorem dX0_readOption_114 : decode cX0_readOption 114 = .ok (.istore 7, 2) := by decide +kernel
theorem dX0_readOption_116 : decode cX0_readOption 116 = .ok (.aload_n 0, 1) := by decide +kernel
theorem dX0_readOption_117 : decode cX0_readOption 117 = .ok (.getfield 18, 3) := by decide +kernel
theorem dX0_readOption_120 : decode cX0_readOption 120 = .ok (.getfield 178, 3) := by decide +kernel
theorem dX0_readOption_123 : decode cX0_readOption 123 = .ok (.invokevirtual 136, 3) := by decide +kernel
theorem dX0_readOption_126 : decode cX0_readOption 126 = .ok (.istore 8, 2) := by decide +kernel
theorem dX0_readOption_128 : decode cX0_readOption 128 = .ok (.aload_n 0, 1) := by decide +kernel
theorem dX0_readOption_129 : decode cX0_readOption 129 = .ok (.getfield 18, 3) := by decide +kernel
theorem dX0_readOption_132 : decode cX0_readOption 132 = .ok (.getfield 178, 3) := by decide +kernel
theorem dX0_readOption_135 : decode cX0_readOption 135 = .ok (.iload 8, 2) := by decide +kernel
theorem dX0_readOption_137 : decode cX0_readOption 137 = .ok (.iconst 0, 1) := by decide +kernel
theorem dX0_readOption_138 : decode cX0_readOption 138 = .ok (.iload_n 2, 1) := by decide +kernel
theorem dX0_readOption_139 : decode cX0_readOption 139 = .ok (.invokevirtual 139, 3) := by decide +kernel
theorem dX0_readOption_142 : decode cX0_readOption 142 = .ok (.aload_n 0, 1) := by decide +kernel
theorem dX0_readOption_143 : decode cX0_readOption 143 = .ok (.getfield 18, 3) := by decide +kernel
theorem dX0_readOption_146 : decode cX0_readOption 146 = .ok (.getfield 178, 3) := by decide +kernel
theorem dX0_readOption_149 : decode cX0_readOption 149 = .ok (.iload 8, 2) := by decide +kernel
theorem dX0_readOption_151 : decode cX0_readOption 151 = .ok (.iconst 1, 1) := by decide +kernel
theorem dX0_readOption_152 : decode cX0_readOption 152 = .ok (.iload_n 3, 1) := by decide +kernel
theorem dX0_readOption_153 : decode cX0_readOption 153 = .ok (.invokevirtual 139, 3) := by decide +kernel
theorem dX0_readOption_156 : decode cX0_readOption 156 = .ok (.aload_n 0, 1) := by decide +kernel
theorem dX0_readOption_157 : decode cX0_readOption 157 = .ok (.getfield 18, 3) := by decide +kernel
theorem dX0_readOption_160 : decode cX0_readOption 160 = .ok (.getfield 178, 3) := by decide +kernel
theorem dX0_readOption_163 : decode cX0_readOption 163 = .ok (.iload 8, 2) := by decide +kernel
theorem dX0_readOption_165 : decode cX0_readOption 165 = .ok (.iconst 2, 1) := by decide +kernel
theorem dX0_readOption_166 : decode cX0_readOption 166 = .ok (.iload 4, 2) := by decide +kernel
theorem dX0_readOption_168 : decode cX0_readOption 168 = .ok (.invokevirtual 139, 3) := by decide +kernel
theorem dX0_readOption_171 : decode cX0_readOption 171 = .ok (.aload_n 0, 1) := by decide +kernel
theorem dX0_readOption_172 : decode cX0_readOption 172 = .ok (.getfield 18, 3) := by decide +kernel
theorem dX0_readOption_175 : decode cX0_readOption 175 = .ok (.getfield 178, 3) := by decide +kernel
theorem dX0_readOption_178 : decode cX0_readOption 178 = .ok (.iload 8, 2) := by decide +kernel
theorem dX0_readOption_180 : decode cX0_readOption 180 = .ok (.iconst 3, 1) := by decide +kernel
theorem dX0_readOption_181 : decode cX0_readOption 181 = .ok (.iload 5, 2) := by decide +kernel
theorem dX0_readOption_183 : decode cX0_readOption 183 = .ok (.invokevirtual 139, 3) := by decide +kernel
theorem dX0_readOption_186 : decode cX0_readOption 186 = .ok (.aload_n 0, 1) := by decide +kernel
theorem dX0_readOption_187 : decode cX0_readOption 187 = .ok (.getfield 18, 3) := by decide +kernel
theorem dX0_readOption_190 : decode cX0_readOption 190 = .ok (.getfield 178, 3) := by decide +kernel
theorem dX0_readOption_193 : decode cX0_readOption 193 = .ok (.iload 8, 2) := by decide +kernel
theorem dX0_readOption_195 : decode cX0_readOption 195 = .ok (.iconst 4, 1) := by decide +kernel
theorem dX0_readOption_196 : decode cX0_readOption 196 = .ok (.iload 6, 2) := by decide +kernel
theorem dX0_readOption_198 : decode cX0_readOption 198 = .ok (.invokevirtual 139, 3) := by decide +kernel
theorem dX0_readOption_201 : decode cX0_readOption 201 = .ok (.aload_n 0, 1) := by decide +kernel
theorem dX0_readOption_202 : decode cX0_readOption 202 = .ok (.getfield 18, 3) := by decide +kernel
theorem dX0_readOption_205 : decode cX0_readOption 205 = .ok (.getfield 178, 3) := by decide +kernel
theorem dX0_readOption_208 : decode cX0_readOption 208 = .ok (.iload 8, 2) := by decide +kernel
theorem dX0_readOption_210 : decode cX0_readOption 210 = .ok (.iconst 5, 1) := by decide +kernel
theorem dX0_readOption_211 : decode cX0_readOption 211 = .ok (.iload 7, 2) := by decide +kernel
theorem dX0_readOption_213 : decode cX0_readOption 213 = .ok (.invokevirtual 139, 3) := by decide +kernel
theorem dX0_readOption_216 : decode cX0_readOption 216 = .ok (.return_, 1) := by decide +kernel
theorem dX1_init_0 : decode cX1_init 0 = .ok (.aload_n 0, 1) := by decide +kernel
theorem dX1_init_1 : decode cX1_init 1 = .ok (.invokespecial 3, 3) := by decide +kernel
theorem dX1_init_4 : decode cX1_init 4 = .ok (.bipush 9, 2) := by decide +kernel
theorem dX1_init_6 : decode cX1_init 6 = .ok (.istore_n 1, 1) := by decide +kernel
theorem dX1_init_7 : decode cX1_init 7 = .ok (.aload_n 0, 1) := by decide +kernel
theorem dX1_init_8 : decode cX1_init 8 = .ok (.new 9, 3) := by decide +kernel
theorem dX1_init_11 : decode cX1_init 11 = .ok (.dup, 1) := by decide +kernel
theorem dX1_init_12 : decode cX1_init 12 = .ok (.bipush 6, 2) := by decide +kernel
theorem dX1_init_14 : decode cX1_init 14 = .ok (.iconst 3, 1) := by decide +kernel
theorem dX1_init_15 : decode cX1_init 15 = .ok (.invokespecial 11, 3) := by decide +kernel
theorem dX1_init_18 : decode cX1_init 18 = .ok (.putfield 14, 3) := by decide +kernel
theorem dX1_init_21 : decode cX1_init 21 = .ok (.aload_n 0, 1) := by decide +kernel
theorem dX1_init_22 : decode cX1_init 22 = .ok (.bipush 12, 2) := by decide +kernel
theorem dX1_init_24 : decode cX1_init 24 = .ok (.newarray .int, 2) := by decide +kernel
theorem dX1_init_26 : decode cX1_init 26 = .ok (.putfield 20, 3) := by decide +kernel
theorem dX1_init_29 : decode cX1_init 29 = .ok (.aload_n 0, 1) := by decide +kernel
theorem dX1_init_30 : decode cX1_init 30 = .ok (.iconst 5, 1) := by decide +kernel
theorem dX1_init_31 : decode cX1_init 31 = .ok (.newarray .int, 2) := by decide +kernel
theorem dX1_init_33 : decode cX1_init 33 = .ok (.putfield 24, 3) := by decide +kernel
theorem dX1_init_36 : decode cX1_init 36 = .ok (.aload_n 0, 1) := by decide +kernel
theorem dX1_init_37 : decode cX1_init 37 = .ok (.new 9, 3) := by decide +kernel
theorem dX1_init_40 : decode cX1_init 40 = .ok (.dup, 1) := by decide +kernel
theorem dX1_init_41 : decode cX1_init 41 = .ok (.iconst 5, 1) := by decide +kernel
theorem dX1_init_42 : decode cX1_init 42 = .ok (.iconst 2, 1) := by decide +kernel
theorem dX1_init_43 : decode cX1_init 43 = .ok (.invokespecial 11, 3) := by decide +kernel
theorem dX1_init_46 : decode cX1_init 46 = .ok (.putfield 27, 3) := by decide +kernel
theorem dX1_init_49 : decode cX1_init 49 = .ok (.aload_n 0, 1) := by decide +kernel
theorem dX1_init_50 : decode cX1_init 50 = .ok (.iconst 5, 1) := by decide +kernel
theorem dX1_init_51 : decode cX1_init 51 = .ok (.newarray .long, 2) := by decide +kernel
theorem dX1_init_53 : decode cX1_init 53 = .ok (.putfield 30, 3) := by decide +kernel
theorem dX1_init_56 : decode cX1_init 56 = .ok (.aload_n 0, 1) := by decide +kernel
theorem dX1_init_57 : decode cX1_init 57 = .ok (.new 9, 3) := by decide +kernel
theorem dX1_init_60 : decode cX1_init 60 = .ok (.dup, 1) := by decide +kernel
theorem dX1_init_61 : decode cX1_init 61 = .ok (.bipush 10, 2) := by decide +kernel
theorem dX1_init_63 : decode cX1_init 63 = .ok (.bipush 10, 2) := by decide +kernel
theorem dX1_init_65 : decode cX1_init 65 = .ok (.invokespecial 11, 3) := by decide +kernel
theorem dX1_init_68 : decode cX1_init 68 = .ok (.putfield 34, 3) := by decide +kernel
theorem dX1_init_71 : decode cX1_init 71 = .ok (.aload_n 0, 1) := by decide +kernel
theorem dX1_init_72 : decode cX1_init 72 = .ok (.bipush 10, 2) := by decide +kernel
theorem dX1_init_74 : decode cX1_init 74 = .ok (.newarray .int, 2) := by decide +kernel
theorem dX1_init_76 : decode cX1_init 76 = .ok (.putfield 37, 3) := by decide +kernel
theorem dX1_init_79 : decode cX1_init 79 = .ok (.aload_n 0, 1) := by decide +kernel
theorem dX1_init_80 : decode cX1_init 80 = .ok (.bipush 10, 2) := by decide +kernel
theorem dX1_init_82 : decode cX1_init 82 = .ok (.newarray .long, 2) := by decide +kernel
theorem dX1_init_84 : decode cX1_init 84 = .ok (.putfield 40, 3) := by decide +kernel
theorem dX1_init_87 : decode cX1_init 87 = .ok (.aload_n 0, 1) := by decide +kernel
theorem dX1_init_88 : decode cX1_init 88 = .ok (.new 9, 3) := by decide +kernel
theorem dX1_init_91 : decode cX1_init 91 = .ok (.dup, 1) := by decide +kernel
theorem dX1_init_92 : decode cX1_init 92 = .ok (.iload_n 1, 1) := by decide +kernel
theorem dX1_init_93 : decode cX1_init 93 = .ok (.bipush 6, 2) := by decide +kernel
theorem dX1_init_95 : decode cX1_init 95 = .ok (.invokespecial 11, 3) := by decide +kernel
theorem dX1_init_98 : decode cX1_init 98 = .ok (.putfield 43, 3) := by decide +kernel
theorem dX1_init_101 : decode cX1_init 101 = .ok (.aload_n 0, 1) := by decide +kernel
theorem dX1_init_102 : decode cX1_init 102 = .ok (.new 9, 3) := by decide +kernel
theorem dX1_init_105 : decode cX1_init 105 = .ok (.dup, 1) := by decide +kernel
theorem dX1_init_106 : decode cX1_init 106 = .ok (.bipush 6, 2) := by decide +kernel
theorem dX1_init_108 : decode cX1_init 108 = .ok (.bipush 6, 2) := by decide +kernel
theorem dX1_init_110 : decode cX1_init 110 = .ok (.invokespecial 11, 3) := by decide +kernel
theorem dX1_init_113 : decode cX1_init 113 = .ok (.putfield 46, 3) := by decide +kernel
theorem dX1_init_116 : decode cX1_init 116 = .ok (.aload_n 0, 1) := by decide +kernel
theorem dX1_init_117 : decode cX1_init 117 = .ok (.new 9, 3) := by decide +kernel
theorem dX1_init_120 : decode cX1_init 120 = .ok (.dup, 1) := by decide +kernel
theorem dX1_init_121 : decode cX1_init 121 = .ok (.bipush 10, 2) := by decide +kernel
theorem dX1_init_123 : decode cX1_init 123 = .ok (.iload_n 1, 1) := by decide +kernel
theorem dX1_init_124 : decode cX1_init 124 = .ok (.iadd, 1) := by decide +kernel
theorem dX1_init_125 : decode cX1_init 125 = .ok (.bipush 8, 2) := by decide +kernel
theorem dX1_init_127 : decode cX1_init 127 = .ok (.invokespecial 11, 3) := by decide +kernel
theorem dX1_init_130 : decode cX1_init 130 = .ok (.putfield 49, 3) := by decide +kernel
theorem dX1_init_133 : decode cX1_init 133 = .ok (.aload_n 0, 1) := by decide +kernel
theorem dX1_init_134 : decode cX1_init 134 = .ok (.new 9, 3) := by decide +kernel
theorem dX1_init_137 : decode cX1_init 137 = .ok (.dup, 1) := by decide +kernel
theorem dX1_init_138 : decode cX1_init 138 = .ok (.bipush 6, 2) := by decide +kernel
theorem dX1_init_140 : decode cX1_init 140 = .ok (.iconst 5, 1) := by decide +kernel
theorem dX1_init_141 : decode cX1_init 141 = .ok (.invokespecial 11, 3) := by decide +kernel
theorem dX1_init_144 : decode cX1_init 144 = .ok (.putfield 52, 3) := by decide +kernel
theorem dX1_init_147 : decode cX1_init 147 = .ok (.aload_n 0, 1) := by decide +kernel
theorem dX1_init_148 : decode cX1_init 148 = .ok (.new 9, 3) := by decide +kernel
theorem dX1_init_151 : decode cX1_init 151 = .ok (.dup, 1) := by decide +kernel
theorem dX1_init_152 : decode cX1_init 152 = .ok (.bipush 24, 2) := by decide +kernel
theorem dX1_init_154 : decode cX1_init 154 = .ok (.iconst 4, 1) := by decide +kernel
theorem dX1_init_155 : decode cX1_init 155 = .ok (.invokespecial 11, 3) := by decide +kernel
theorem dX1_init_158 : decode cX1_init 158 = .ok (.putfield 55, 3) := by decide +kernel
theorem dX1_init_161 : decode cX1_init 161 = .ok (.return_, 1) := by decide +kernel
theorem dX1_copyFrom_0 : decode cX1_copyFrom 0 = .ok (.aload_n 0, 1) := by decide +kernel
theorem dX1_copyFrom_1 : decode cX1_copyFrom 1 = .ok (.getfield 14, 3) := by decide +kernel
theorem dX1_copyFrom_4 : decode cX1_copyFrom 4 = .ok (.aload_n 1, 1) := by decide +kernel
theorem dX1_copyFrom_5 : decode cX1_copyFrom 5 = .ok (.getfield 14, 3) := by decide +kernel
theorem dX1_copyFrom_8 : decode cX1_copyFrom 8 = .ok (.invokevirtual 58, 3) := by decide +kernel
theorem dX1_copyFrom_11 : decode cX1_copyFrom 11 = .ok (.aload_n 1, 1) := by decide +kernel
theorem dX1_copyFrom_12 : decode cX1_copyFrom 12 = .ok (.getfield 20, 3) := by decide +kernel
theorem dX1_copyFrom_15 : decode cX1_copyFrom 15 = .ok (.iconst 0, 1) := by decide +kernel
theorem dX1_copyFrom_16 : decode cX1_copyFrom 16 = .ok (.aload_n 0, 1) := by decide +kernel
theorem dX1_copyFrom_17 : decode cX1_copyFrom 17 = .ok (.getfield 20, 3) := by decide +kernel
theorem dX1_copyFrom_20 : decode cX1_copyFrom 20 = .ok (.iconst 0, 1) := by decide +kernel
theorem dX1_copyFrom_21 : decode cX1_copyFrom 21 = .ok (.bipush 12, 2) := by decide +kernel
theorem dX1_copyFrom_23 : decode cX1_copyFrom 23 = .ok (.invokestatic 62, 3) := by decide +kernel
theorem dX1_copyFrom_26 : decode cX1_copyFrom 26 = .ok (.aload_n 1, 1) := by decide +kernel
theorem dX1_copyFrom_27 : decode cX1_copyFrom 27 = .ok (.getfield 24, 3) := by decide +kernel
theorem dX1_copyFrom_30 : decode cX1_copyFrom 30 = .ok (.iconst 0, 1) := by decide +kernel
theorem dX1_copyFrom_31 : decode cX1_copyFrom 31 = .ok (.aload_n 0, 1) := by decide +kernel
theorem dX1_copyFrom_32 : decode cX1_copyFrom 32 = .ok (.getfield 24, 3) := by decide +kernel
theorem dX1_copyFrom_35 : decode cX1_copyFrom 35 = .ok (.iconst 0, 1) := by decide +kernel
theorem dX1_copyFrom_36 : decode cX1_copyFrom 36 = .ok (.iconst 5, 1) := by decide +kernel
theorem dX1_copyFrom_37 : decode cX1_copyFrom 37 = .ok (.invokestatic 62, 3) := by decide +kernel
theorem dX1_copyFrom_40 : decode cX1_copyFrom 40 = .ok (.aload_n 0, 1) := by decide +kernel
theorem dX1_copyFrom_41 : decode cX1_copyFrom 41 = .ok (.aload_n 1, 1) := by decide +kernel
theorem dX1_copyFrom_42 : decode cX1_copyFrom 42 = .ok (.getfield 68, 3) := by decide +kernel
theorem dX1_copyFrom_45 : decode cX1_copyFrom 45 = .ok (.putfield 68, 3) := by decide +kernel
theorem dX1_copyFrom_48 : decode cX1_copyFrom 48 = .ok (.aload_n 0, 1) := by decide +kernel
theorem dX1_copyFrom_49 : decode cX1_copyFrom 49 = .ok (.getfield 27, 3) := by decide +kernel
theorem dX1_copyFrom_52 : decode cX1_copyFrom 52 = .ok (.aload_n 1, 1) := by decide +kernel
theorem dX1_copyFrom_53 : decode cX1_copyFrom 53 = .ok (.getfield 27, 3) := by decide +kernel
theorem dX1_copyFrom_56 : decode cX1_copyFrom 56 = .ok (.invokevirtual 58, 3) := by decide +kernel
theorem dX1_copyFrom_59 : decode cX1_copyFrom 59 = .ok (.aload_n 1, 1) := by decide +kernel
theorem dX1_copyFrom_60 : decode cX1_copyFrom 60 = .ok (.getfield 30, 3) := by decide +kernel
theorem dX1_copyFrom_63 : decode cX1_copyFrom 63 = .ok (.iconst 0, 1) := by decide +kernel
theorem dX1_copyFrom_64 : decode cX1_copyFrom 64 = .ok (.aload_n 0, 1) := by decide +kernel
theorem dX1_copyFrom_65 : decode cX1_copyFrom 65 = .ok (.getfield 30, 3) := by decide +kernel
theorem dX1_copyFrom_68 : decode cX1_copyFrom 68 = .ok (.iconst 0, 1) := by decide +kernel
theorem dX1_copyFrom_69 : decode cX1_copyFrom 69 = .ok (.iconst 5, 1) := by decide +kernel
theorem dX1_copyFrom_70 : decode cX1_copyFrom 70 = .ok (.invokestatic 62, 3) := by decide +kernel
theorem dX1_copyFrom_73 : decode cX1_copyFrom 73 = .ok (.aload_n 0, 1) := by decide +kernel
theorem dX1_copyFrom_74 : decode cX1_copyFrom 74 = .ok (.getfield 34, 3) := by decide +kernel
theorem dX1_copyFrom_77 : decode cX1_copyFrom 77 = .ok (.aload_n 1, 1) := by decide +kernel
theorem dX1_copyFrom_78 : decode cX1_copyFrom 78 = .ok (.getfield 34, 3) := by decide +kernel
theorem dX1_copyFrom_81 : decode cX1_copyFrom 81 = .ok (.invokevirtual 58, 3) := by decide +kernel
theorem dX1_copyFrom_84 : decode cX1_copyFrom 84 = .ok (.aload_n 1, 1) := by decide +kernel
theorem dX1_copyFrom_85 : decode cX1_copyFrom 85 = .ok (.getfield 37, 3) := by decide +kernel
theorem dX1_copyFrom_88 : decode cX1_copyFrom 88 = .ok (.iconst 0, 1) := by decide +kernel
theorem dX1_copyFrom_89 : decode cX1_copyFrom 89 = .ok (.aload_n 0, 1) := by decide +kernel
theorem dX1_copyFrom_90 : decode cX1_copyFrom 90 = .ok (.getfield 37, 3) := by decide +kernel
theorem dX1_copyFrom_93 : decode cX1_copyFrom 93 = .ok (.iconst 0, 1) := by decide +kernel
theorem dX1_copyFrom_94 : decode cX1_copyFrom 94 = .ok (.bipush 10, 2) := by decide +kernel
theorem dX1_copyFrom_96 : decode cX1_copyFrom 96 = .ok (.invokestatic 62, 3) := by decide +kernel
theorem dX1_copyFrom_99 : decode cX1_copyFrom 99 = .ok (.aload_n 1, 1) := by decide +kernel
theorem dX1_copyFrom_100 : decode cX1_copyFrom 100 = .ok (.getfield 40, 3) := by decide +kernel
theorem dX1_copyFrom_103 : decode cX1_copyFrom 103 = .ok (.iconst 0, 1) := by decide +kernel
theorem dX1_copyFrom_104 : decode cX1_copyFrom 104 = .ok (.aload_n 0, 1) := by decide +kernel
theorem dX1_copyFrom_105 : decode cX1_copyFrom 105 = .ok (.getfield 40, 3) := by decide +kernel
theorem dX1_copyFrom_108 : decode cX1_copyFrom 108 = .ok (.iconst 0, 1) := by decide +kernel
theorem dX1_copyFrom_109 : decode cX1_copyFrom 109 = .ok (.bipush 10, 2) := by decide +kernel
theorem dX1_copyFrom_111 : decode cX1_copyFrom 111 = .ok (.invokestatic 62, 3) := by decide +kernel
theorem dX1_copyFrom_114 : decode cX1_copyFrom 114 = .ok (.aload_n 0, 1) := by decide +kernel
theorem dX1_copyFrom_115 : decode cX1_copyFrom 115 = .ok (.getfield 43, 3) := by decide +kernel
theorem dX1_copyFrom_118 : decode cX1_copyFrom 118 = .ok (.aload_n 1, 1) := by decide +kernel
theorem dX1_copyFrom_119 : decode cX1_copyFrom 119 = .ok (.getfield 43, 3) := by decide +kernel
theorem dX1_copyFrom_122 : decode cX1_copyFrom 122 = .ok (.invokevirtual 58, 3) := by decide +kernel
theorem dX1_copyFrom_125 : decode cX1_copyFrom 125 = .ok (.aload_n 0, 1) := by decide +kernel
theorem dX1_copyFrom_126 : decode cX1_copyFrom 126 = .ok (.getfield 46, 3) := by decide +kernel
theorem dX1_copyFrom_129 : decode cX1_copyFrom 129 = .ok (.aload_n 1, 1) := by decide +kernel
theorem dX1_copyFrom_130 : decode cX1_copyFrom 130 = .ok (.getfield 46, 3) := by decide +kernel
theorem dX1_copyFrom_133 : decode cX1_copyFrom 133 = .ok (.invokevirtual 58, 3) := by decide +kernel
theorem dX1_copyFrom_136 : decode cX1_copyFrom 136 = .ok (.aload_n 0, 1) := by decide +kernel
theorem dX1_copyFrom_137 : decode cX1_copyFrom 137 = .ok (.getfield 49, 3) := by decide +kernel
theorem dX1_copyFrom_140 : decode cX1_copyFrom 140 = .ok (.aload_n 1, 1) := by decide +kernel
theorem dX1_copyFrom_141 : decode cX1_copyFrom 141 = .ok (.getfield 49, 3) := by decide +kernel
theorem dX1_copyFrom_144 : decode cX1_copyFrom 144 = .ok (.invokevirtual 58, 3) := by decide +kernel
theorem dX1_copyFrom_147 : decode cX1_copyFrom 147 = .ok (.aload_n 0, 1) := by decide +kernel
theorem dX1_copyFrom_148 : decode cX1_copyFrom 148 = .ok (.getfield 52, 3) := by decide +kernel
theorem dX1_copyFrom_151 : decode cX1_copyFrom 151 = .ok (.aload_n 1, 1) := by decide +kernel
theorem dX1_copyFrom_152 : decode cX1_copyFrom 152 = .ok (.getfield 52, 3) := by decide +kernel
theorem dX1_copyFrom_155 : decode cX1_copyFrom 155 = .ok (.invokevirtual 58, 3) := by decide +kernel
theorem dX1_copyFrom_158 : decode cX1_copyFrom 158 = .ok (.aload_n 0, 1) := by decide +kernel
theorem dX1_copyFrom_159 : decode cX1_copyFrom 159 = .ok (.getfield 55, 3) := by decide +kernel
theorem dX1_copyFrom_162 : decode cX1_copyFrom 162 = .ok (.aload_n 1, 1) := by decide +kernel
theorem dX1_copyFrom_163 : decode cX1_copyFrom 163 = .ok (.getfield 55, 3) := by decide +kernel
theorem dX1_copyFrom_166 : decode cX1_copyFrom 166 = .ok (.invokevirtual 58, 3) := by decide +kernel
theorem dX1_copyFrom_169 : decode cX1_copyFrom 169 = .ok (.aload_n 0, 1) := by decide +kernel
theorem dX1_copyFrom_170 : decode cX1_copyFrom 170 = .ok (.aload_n 1, 1) := by decide +kernel
theorem dX1_copyFrom_171 : decode cX1_copyFrom 171 = .ok (.getfield 72, 3) := by decide +kernel
theorem dX1_copyFrom_174 : decode cX1_copyFrom 174 = .ok (.putfield 72, 3) := by decide +kernel
theorem dX1_copyFrom_177 : decode cX1_copyFrom 177 = .ok (.aload_n 0, 1) := by decide +kernel
theorem dX1_copyFrom_178 : decode cX1_copyFrom 178 = .ok (.aload_n 1, 1) := by decide +kernel
theorem dX1_copyFrom_179 : decode cX1_copyFrom 179 = .ok (.getfield 75, 3) := by decide +kernel
theorem dX1_copyFrom_182 : decode cX1_copyFrom 182 = .ok (.putfield 75, 3) := by decide +kernel
theorem dX1_copyFrom_185 : decode cX1_copyFrom 185 = .ok (.aload_n 0, 1) := by decide +kernel
theorem dX1_copyFrom_186 : decode cX1_copyFrom 186 = .ok (.aload_n 1, 1) := by decide +kernel
theorem dX1_copyFrom_187 : decode cX1_copyFrom 187 = .ok (.getfield 78, 3) := by decide +kernel
theorem dX1_copyFrom_190 : decode cX1_copyFrom 190 = .ok (.putfield 78, 3) := by decide +kernel
theorem dX1_copyFrom_193 : decode cX1_copyFrom 193 = .ok (.aload_n 0, 1) := by decide +kernel
theorem dX1_copyFrom_194 : decode cX1_copyFrom 194 = .ok (.aload_n 1, 1) := by decide +kernel
theorem dX1_copyFrom_195 : decode cX1_copyFrom 195 = .ok (.getfield 81, 3) := by decide +kernel
theorem dX1_copyFrom_198 : decode cX1_copyFrom 198 = .ok (.putfield 81, 3) := by decide +kernel
theorem dX1_copyFrom_201 : decode cX1_copyFrom 201 = .ok (.aload_n 0, 1) := by decide +kernel
theorem dX1_copyFrom_202 : decode cX1_copyFrom 202 = .ok (.aload_n 1, 1) := by decide +kernel
theorem dX1_copyFrom_203 : decode cX1_copyFrom 203 = .ok (.getfield 84, 3) := by decide +kernel
theorem dX1_copyFrom_206 : decode cX1_copyFrom 206 = .ok (.putfield 84, 3) := by decide +kernel
theorem dX1_copyFrom_209 : decode cX1_copyFrom 209 = .ok (.return_, 1) := by decide +kernel
theorem dX1_makeEmpty_0 : decode cX1_makeEmpty 0 = .ok (.aload_n 0, 1) := by decide +kernel
theorem dX1_makeEmpty_1 : decode cX1_makeEmpty 1 = .ok (.getfield 14, 3) := by decide +kernel
theorem dX1_makeEmpty_4 : decode cX1_makeEmpty 4 = .ok (.invokevirtual 87, 3) := by decide +kernel
theorem dX1_makeEmpty_7 : decode cX1_makeEmpty 7 = .ok (.iconst 0, 1) := by decide +kernel
theorem dX1_makeEmpty_8 : decode cX1_makeEmpty 8 = .ok (.istore_n 1, 1) := by decide +kernel
theorem dX1_makeEmpty_9 : decode cX1_makeEmpty 9 = .ok (.iload_n 1, 1) := by decide +kernel
theorem dX1_makeEmpty_10 : decode cX1_makeEmpty 10 = .ok (.bipush 12, 2) := by decide +kernel
theorem dX1_makeEmpty_12 : decode cX1_makeEmpty 12 = .ok (.if_icmp .ge 17, 3) := by decide +kernel
theorem dX1_makeEmpty_15 : decode cX1_makeEmpty 15 = .ok (.aload_n 0, 1) := by decide +kernel
theorem dX1_makeEmpty_16 : decode cX1_makeEmpty 16 = .ok (.getfield 20, 3) := by decide +kernel
theorem dX1_makeEmpty_19 : decode cX1_makeEmpty 19 = .ok (.iload_n 1, 1) := by decide +kernel
theorem dX1_makeEmpty_20 : decode cX1_makeEmpty 20 = .ok (.bipush 100, 2) := by decide +kernel
theorem dX1_makeEmpty_22 : decode cX1_makeEmpty 22 = .ok (.iastore, 1) := by decide +kernel
theorem dX1_makeEmpty_23 : decode cX1_makeEmpty 23 = .ok (.iinc 1 1, 3) := by decide +kernel
theorem dX1_makeEmpty_26 : decode cX1_makeEmpty 26 = .ok (.goto (-17), 3) := by decide +kernel
theorem dX1_makeEmpty_29 : decode cX1_makeEmpty 29 = .ok (.aload_n 0, 1) := by decide +kernel
theorem dX1_makeEmpty_30 : decode cX1_makeEmpty 30 = .ok (.getfield 24, 3) := by decide +kernel
theorem dX1_makeEmpty_33 : decode cX1_makeEmpty 33 = .ok (.iconst 0, 1) := by decide +kernel
theorem dX1_makeEmpty_34 : decode cX1_makeEmpty 34 = .ok (.bipush 100, 2) := by decide +kernel
theorem dX1_makeEmpty_36 : decode cX1_makeEmpty 36 = .ok (.iastore, 1) := by decide +kernel
theorem dX1_makeEmpty_37 : decode cX1_makeEmpty 37 = .ok (.aload_n 0, 1) := by decide +kernel
theorem dX1_makeEmpty_38 : decode cX1_makeEmpty 38 = .ok (.iconst 1, 1) := by decide +kernel
theorem dX1_makeEmpty_39 : decode cX1_makeEmpty 39 = .ok (.putfield 68, 3) := by decide +kernel
theorem dX1_makeEmpty_42 : decode cX1_makeEmpty 42 = .ok (.aload_n 0, 1) := by decide +kernel
theorem dX1_makeEmpty_43 : decode cX1_makeEmpty 43 = .ok (.getfield 27, 3) := by decide +kernel
theorem dX1_makeEmpty_46 : decode cX1_makeEmpty 46 = .ok (.invokevirtual 87, 3) := by decide +kernel
theorem dX1_makeEmpty_49 : decode cX1_makeEmpty 49 = .ok (.aload_n 0, 1) := by decide +kernel
theorem dX1_makeEmpty_50 : decode cX1_makeEmpty 50 = .ok (.getfield 27, 3) := by decide +kernel
theorem dX1_makeEmpty_53 : decode cX1_makeEmpty 53 = .ok (.invokevirtual 90, 3) := by decide +kernel
theorem dX1_makeEmpty_56 : decode cX1_makeEmpty 56 = .ok (.pop, 1) := by decide +kernel
theorem dX1_makeEmpty_57 : decode cX1_makeEmpty 57 = .ok (.iconst 0, 1) := by decide +kernel
theorem dX1_makeEmpty_58 : decode cX1_makeEmpty 58 = .ok (.istore_n 1, 1) := by decide +kernel
theorem dX1_makeEmpty_59 : decode cX1_makeEmpty 59 = .ok (.iload_n 1, 1) := by decide +kernel
theorem dX1_makeEmpty_60 : decode cX1_makeEmpty 60 = .ok (.iconst 5, 1) := by decide +kernel
theorem dX1_makeEmpty_61 : decode cX1_makeEmpty 61 = .ok (.if_icmp .ge 16, 3) := by decide +kernel
theorem dX1_makeEmpty_64 : decode cX1_makeEmpty 64 = .ok (.aload_n 0, 1) := by decide +kernel
theorem dX1_makeEmpty_65 : decode cX1_makeEmpty 65 = .ok (.getfield 30, 3) := by decide +kernel
theorem dX1_makeEmpty_68 : decode cX1_makeEmpty 68 = .ok (.iload_n 1, 1) := by decide +kernel
theorem dX1_makeEmpty_69 : decode cX1_makeEmpty 69 = .ok (.lconst 0, 1) := by decide +kernel
theorem dX1_makeEmpty_70 : decode cX1_makeEmpty 70 = .ok (.lastore, 1) := by decide +kernel
theorem dX1_makeEmpty_71 : decode cX1_makeEmpty 71 = .ok (.iinc 1 1, 3) := by decide +kernel
theorem dX1_makeEmpty_74 : decode cX1_makeEmpty 74 = .ok (.goto (-15), 3) := by decide +kernel
theorem dX1_makeEmpty_77 : decode cX1_makeEmpty 77 = .ok (.aload_n 0, 1) := by decide +kernel
theorem dX1_makeEmpty_78 : decode cX1_makeEmpty 78 = .ok (.getfield 34, 3) := by decide +kernel
theorem dX1_makeEmpty_81 : decode cX1_makeEmpty 81 = .ok (.invokevirtual 87, 3) := by decide +kernel
theorem dX1_makeEmpty_84 : decode cX1_makeEmpty 84 = .ok (.iconst 0, 1) := by decide +kernel
theorem dX1_makeEmpty_85 : decode cX1_makeEmpty 85 = .ok (.istore_n 1, 1) := by decide +kernel
theorem dX1_makeEmpty_86 : decode cX1_makeEmpty 86 = .ok (.iload_n 1, 1) := by decide +kernel
theorem dX1_makeEmpty_87 : decode cX1_makeEmpty 87 = .ok (.bipush 10, 2) := by decide +kernel
theorem dX1_makeEmpty_89 : decode cX1_makeEmpty 89 = .ok (.if_icmp .ge 23, 3) := by decide +kernel
theorem dX1_makeEmpty_92 : decode cX1_makeEmpty 92 = .ok (.aload_n 0, 1) := by decide +kernel
theorem dX1_makeEmpty_93 : decode cX1_makeEmpty 93 = .ok (.getfield 37, 3) := by decide +kernel
theorem dX1_makeEmpty_96 : decode cX1_makeEmpty 96 = .ok (.iload_n 1, 1) := by decide +kernel
theorem dX1_makeEmpty_97 : decode cX1_makeEmpty 97 = .ok (.iconst 0, 1) := by decide +kernel
theorem dX1_makeEmpty_98 : decode cX1_makeEmpty 98 = .ok (.iastore, 1) := by decide +kernel
theorem dX1_makeEmpty_99 : decode cX1_makeEmpty 99 = .ok (.aload_n 0, 1) := by decide +kernel
theorem dX1_makeEmpty_100 : decode cX1_makeEmpty 100 = .ok (.getfield 40, 3) := by decide +kernel
theorem dX1_makeEmpty_103 : decode cX1_makeEmpty 103 = .ok (.iload_n 1, 1) := by decide +kernel
theorem dX1_makeEmpty_104 : decode cX1_makeEmpty 104 = .ok (.lconst 0, 1) := by decide +kernel
theorem dX1_makeEmpty_105 : decode cX1_makeEmpty 105 = .ok (.lastore, 1) := by decide +kernel
theorem dX1_makeEmpty_106 : decode cX1_makeEmpty 106 = .ok (.iinc 1 1, 3) := by decide +kernel
theorem dX1_makeEmpty_109 : decode cX1_makeEmpty 109 = .ok (.goto (-23), 3) := by decide +kernel
theorem dX1_makeEmpty_112 : decode cX1_makeEmpty 112 = .ok (.aload_n 0, 1) := by decide +kernel
theorem dX1_makeEmpty_113 : decode cX1_makeEmpty 113 = .ok (.getfield 43, 3) := by decide +kernel
theorem dX1_makeEmpty_116 : decode cX1_makeEmpty 116 = .ok (.invokevirtual 87, 3) := by decide +kernel
theorem dX1_makeEmpty_119 : decode cX1_makeEmpty 119 = .ok (.aload_n 0, 1) := by decide +kernel
theorem dX1_makeEmpty_120 : decode cX1_makeEmpty 120 = .ok (.getfield 46, 3) := by decide +kernel
theorem dX1_makeEmpty_123 : decode cX1_makeEmpty 123 = .ok (.invokevirtual 87, 3) := by decide +kernel
theorem dX1_makeEmpty_126 : decode cX1_makeEmpty 126 = .ok (.aload_n 0, 1) := by decide +kernel
theorem dX1_makeEmpty_127 : decode cX1_makeEmpty 127 = .ok (.getfield 49, 3) := by decide +kernel
theorem dX1_makeEmpty_130 : decode cX1_makeEmpty 130 = .ok (.invokevirtual 87, 3) := by decide +kernel
theorem dX1_makeEmpty_133 : decode cX1_makeEmpty 133 = .ok (.aload_n 0, 1) := by decide +kernel
theorem dX1_makeEmpty_134 : decode cX1_makeEmpty 134 = .ok (.getfield 52, 3) := by decide +kernel
theorem dX1_makeEmpty_137 : decode cX1_makeEmpty 137 = .ok (.invokevirtual 87, 3) := by decide +kernel
theorem dX1_makeEmpty_140 : decode cX1_makeEmpty 140 = .ok (.aload_n 0, 1) := by decide +kernel
theorem dX1_makeEmpty_141 : decode cX1_makeEmpty 141 = .ok (.getfield 55, 3) := by decide +kernel
theorem dX1_makeEmpty_144 : decode cX1_makeEmpty 144 = .ok (.invokevirtual 87, 3) := by decide +kernel
theorem dX1_makeEmpty_147 : decode cX1_makeEmpty 147 = .ok (.aload_n 0, 1) := by decide +kernel
theorem dX1_makeEmpty_148 : decode cX1_makeEmpty 148 = .ok (.iconst 0, 1) := by decide +kernel
theorem dX1_makeEmpty_149 : decode cX1_makeEmpty 149 = .ok (.putfield 72, 3) := by decide +kernel
theorem dX1_makeEmpty_152 : decode cX1_makeEmpty 152 = .ok (.aload_n 0, 1) := by decide +kernel
theorem dX1_makeEmpty_153 : decode cX1_makeEmpty 153 = .ok (.iconst 0, 1) := by decide +kernel
theorem dX1_makeEmpty_154 : decode cX1_makeEmpty 154 = .ok (.putfield 75, 3) := by decide +kernel
theorem dX1_makeEmpty_157 : decode cX1_makeEmpty 157 = .ok (.aload_n 0, 1) := by decide +kernel
theorem dX1_makeEmpty_158 : decode cX1_makeEmpty 158 = .ok (.iconst 0, 1) := by decide +kernel
theorem dX1_makeEmpty_159 : decode cX1_makeEmpty 159 = .ok (.putfield 78, 3) := by decide +kernel
theorem dX1_makeEmpty_162 : decode cX1_makeEmpty 162 = .ok (.aload_n 0, 1) := by decide +kernel
theorem dX1_makeEmpty_163 : decode cX1_makeEmpty 163 = .ok (.iconst 0, 1) := by decide +kernel
theorem dX1_makeEmpty_164 : decode cX1_makeEmpty 164 = .ok (.putfield 81, 3) := by decide +kernel
theorem dX1_makeEmpty_167 : decode cX1_makeEmpty 167 = .ok (.aload_n 0, 1) := by decide +kernel
theorem dX1_makeEmpty_168 : decode cX1_makeEmpty 168 = .ok (.iconst 0, 1) := by decide +kernel
theorem dX1_makeEmpty_169 : decode cX1_makeEmpty 169 = .ok (.putfield 84, 3) := by decide +kernel
theorem dX1_makeEmpty_172 : decode cX1_makeEmpty 172 = .ok (.return_, 1) := by decide +kernel
theorem dX1_seasonPercentOf_0 : decode cX1_seasonPercentOf 0 = .ok (.iload_n 1, 1) := by decide +kernel
theorem dX1_seasonPercentOf_1 : decode cX1_seasonPercentOf 1 = .ok (.ifCond .lt 18, 3) := by decide +kernel
theorem dX1_seasonPercentOf_4 : decode cX1_seasonPercentOf 4 = .ok (.iload_n 1, 1) := by decide +kernel
theorem dX1_seasonPercentOf_5 : decode cX1_seasonPercentOf 5 = .ok (.bipush 12, 2) := by decide +kernel
theorem dX1_seasonPercentOf_7 : decode cX1_seasonPercentOf 7 = .ok (.if_icmp .ge 12, 3) := by decide +kernel
theorem dX1_seasonPercentOf_10 : decode cX1_seasonPercentOf 10 = .ok (.aload_n 0, 1) := by decide +kernel
theorem dX1_seasonPercentOf_11 : decode cX1_seasonPercentOf 11 = .ok (.getfield 20, 3) := by decide +kernel
theorem dX1_seasonPercentOf_14 : decode cX1_seasonPercentOf 14 = .ok (.iload_n 1, 1) := by decide +kernel
theorem dX1_seasonPercentOf_15 : decode cX1_seasonPercentOf 15 = .ok (.iaload, 1) := by decide +kernel
theorem dX1_seasonPercentOf_16 : decode cX1_seasonPercentOf 16 = .ok (.goto 4, 3) := by decide +kernel
theorem dX1_seasonPercentOf_19 : decode cX1_seasonPercentOf 19 = .ok (.iconst 0, 1) := by decide +kernel
theorem dX1_seasonPercentOf_20 : decode cX1_seasonPercentOf 20 = .ok (.ireturn, 1) := by decide +kernel
theorem dX1_percentOfYear_0 : decode cX1_percentOfYear 0 = .ok (.iload_n 1, 1) := by decide +kernel
theorem dX1_percentOfYear_1 : decode cX1_percentOfYear 1 = .ok (.ifCond .lt 18, 3) := by decide +kernel
theorem dX1_percentOfYear_4 : decode cX1_percentOfYear 4 = .ok (.aload_n 0, 1) := by decide +kernel
theorem dX1_percentOfYear_5 : decode cX1_percentOfYear 5 = .ok (.getfield 68, 3) := by decide +kernel
theorem dX1_percentOfYear_8 : decode cX1_percentOfYear 8 = .ok (.ifCond .le 11, 3) := by decide +kernel
theorem dX1_percentOfYear_11 : decode cX1_percentOfYear 11 = .ok (.aload_n 0, 1) := by decide +kernel
theorem dX1_percentOfYear_12 : decode cX1_percentOfYear 12 = .ok (.getfield 68, 3) := by decide +kernel
theorem dX1_percentOfYear_15 : decode cX1_percentOfYear 15 = .ok (.iconst 5, 1) := by decide +kernel
theorem dX1_percentOfYear_16 : decode cX1_percentOfYear 16 = .ok (.if_icmp .le 5, 3) := by decide +kernel
theorem dX1_percentOfYear_19 : decode cX1_percentOfYear 19 = .ok (.iconst 0, 1) := by decide +kernel
theorem dX1_percentOfYear_20 : decode cX1_percentOfYear 20 = .ok (.ireturn, 1) := by decide +kernel
theorem dX1_percentOfYear_21 : decode cX1_percentOfYear 21 = .ok (.aload_n 0, 1) := by decide +kernel
theorem dX1_percentOfYear_22 : decode cX1_percentOfYear 22 = .ok (.getfield 24, 3) := by decide +kernel
theorem dX1_percentOfYear_25 : decode cX1_percentOfYear 25 = .ok (.iload_n 1, 1) := by decide +kernel
theorem dX1_percentOfYear_26 : decode cX1_percentOfYear 26 = .ok (.aload_n 0, 1) := by decide +kernel
theorem dX1_percentOfYear_27 : decode cX1_percentOfYear 27 = .ok (.getfield 68, 3) := by decide +kernel
theorem dX1_percentOfYear_30 : decode cX1_percentOfYear 30 = .ok (.irem, 1) := by decide +kernel
theorem dX1_percentOfYear_31 : decode cX1_percentOfYear 31 = .ok (.iaload, 1) := by decide +kernel
theorem dX1_percentOfYear_32 : decode cX1_percentOfYear 32 = .ok (.ireturn, 1) := by decide +kernel
theorem dX1_comingInto_0 : decode cX1_comingInto 0 = .ok (.aload_n 0, 1) := by decide +kernel
theorem dX1_comingInto_1 : decode cX1_comingInto 1 = .ok (.getfield 14, 3) := by decide +kernel
theorem dX1_comingInto_4 : decode cX1_comingInto 4 = .ok (.iload_n 1, 1) := by decide +kernel
theorem dX1_comingInto_5 : decode cX1_comingInto 5 = .ok (.iconst 0, 1) := by decide +kernel
theorem dX1_comingInto_6 : decode cX1_comingInto 6 = .ok (.invokevirtual 94, 3) := by decide +kernel
theorem dX1_comingInto_9 : decode cX1_comingInto 9 = .ok (.istore_n 2, 1) := by decide +kernel
theorem dX1_comingInto_10 : decode cX1_comingInto 10 = .ok (.iload_n 2, 1) := by decide +kernel
theorem dX1_comingInto_11 : decode cX1_comingInto 11 = .ok (.aload_n 0, 1) := by decide +kernel
theorem dX1_comingInto_12 : decode cX1_comingInto 12 = .ok (.aload_n 0, 1) := by decide +kernel
theorem dX1_comingInto_13 : decode cX1_comingInto 13 = .ok (.getfield 72, 3) := by decide +kernel
theorem dX1_comingInto_16 : decode cX1_comingInto 16 = .ok (.bipush 12, 2) := by decide +kernel
theorem dX1_comingInto_18 : decode cX1_comingInto 18 = .ok (.irem, 1) := by decide +kernel
theorem dX1_comingInto_19 : decode cX1_comingInto 19 = .ok (.invokevirtual 98, 3) := by decide +kernel
theorem dX1_comingInto_22 : decode cX1_comingInto 22 = .ok (.imul, 1) := by decide +kernel
theorem dX1_comingInto_23 : decode cX1_comingInto 23 = .ok (.bipush 100, 2) := by decide +kernel
theorem dX1_comingInto_25 : decode cX1_comingInto 25 = .ok (.idiv, 1) := by decide +kernel
theorem dX1_comingInto_26 : decode cX1_comingInto 26 = .ok (.istore_n 3, 1) := by decide +kernel
theorem dX1_comingInto_27 : decode cX1_comingInto 27 = .ok (.iload_n 3, 1) := by decide +kernel
theorem dX1_comingInto_28 : decode cX1_comingInto 28 = .ok (.aload_n 0, 1) := by decide +kernel
theorem dX1_comingInto_29 : decode cX1_comingInto 29 = .ok (.aload_n 0, 1) := by decide +kernel
theorem dX1_comingInto_30 : decode cX1_comingInto 30 = .ok (.getfield 72, 3) := by decide +kernel
theorem dX1_comingInto_33 : decode cX1_comingInto 33 = .ok (.bipush 12, 2) := by decide +kernel
theorem dX1_comingInto_35 : decode cX1_comingInto 35 = .ok (.idiv, 1) := by decide +kernel
theorem dX1_comingInto_36 : decode cX1_comingInto 36 = .ok (.invokevirtual 102, 3) := by decide +kernel
theorem dX1_comingInto_39 : decode cX1_comingInto 39 = .ok (.imul, 1) := by decide +kernel
theorem dX1_comingInto_40 : decode cX1_comingInto 40 = .ok (.bipush 100, 2) := by decide +kernel
theorem dX1_comingInto_42 : decode cX1_comingInto 42 = .ok (.idiv, 1) := by decide +kernel
theorem dX1_comingInto_43 : decode cX1_comingInto 43 = .ok (.istore 4, 2) := by decide +kernel
theorem dX1_comingInto_45 : decode cX1_comingInto 45 = .ok (.iload 4, 2) := by decide +kernel
theorem dX1_comingInto_47 : decode cX1_comingInto 47 = .ok (.aload_n 0, 1) := by decide +kernel
theorem dX1_comingInto_48 : decode cX1_comingInto 48 = .ok (.getfield 14, 3) := by decide +kernel
theorem dX1_comingInto_51 : decode cX1_comingInto 51 = .ok (.iload_n 1, 1) := by decide +kernel
theorem dX1_comingInto_52 : decode cX1_comingInto 52 = .ok (.iconst 2, 1) := by decide +kernel
theorem dX1_comingInto_53 : decode cX1_comingInto 53 = .ok (.invokevirtual 94, 3) := by decide +kernel
theorem dX1_comingInto_56 : decode cX1_comingInto 56 = .ok (.iadd, 1) := by decide +kernel
theorem dX1_comingInto_57 : decode cX1_comingInto 57 = .ok (.ireturn, 1) := by decide +kernel
theorem dX1_isExercised_0 : decode cX1_isExercised 0 = .ok (.aload_n 0, 1) := by decide +kernel
theorem dX1_isExercised_1 : decode cX1_isExercised 1 = .ok (.iload_n 2, 1) := by decide +kernel
theorem dX1_isExercised_2 : decode cX1_isExercised 2 = .ok (.bipush 12, 2) := by decide +kernel
theorem dX1_isExercised_4 : decode cX1_isExercised 4 = .ok (.idiv, 1) := by decide +kernel
theorem dX1_isExercised_5 : decode cX1_isExercised 5 = .ok (.invokevirtual 102, 3) := by decide +kernel
theorem dX1_isExercised_8 : decode cX1_isExercised 8 = .ok (.aload_n 0, 1) := by decide +kernel
theorem dX1_isExercised_9 : decode cX1_isExercised 9 = .ok (.getfield 46, 3) := by decide +kernel
theorem dX1_isExercised_12 : decode cX1_isExercised 12 = .ok (.iload_n 1, 1) := by decide +kernel
theorem dX1_isExercised_13 : decode cX1_isExercised 13 = .ok (.iconst 3, 1) := by decide +kernel
theorem dX1_isExercised_14 : decode cX1_isExercised 14 = .ok (.invokevirtual 94, 3) := by decide +kernel
theorem dX1_isExercised_17 : decode cX1_isExercised 17 = .ok (.if_icmp .ge 7, 3) := by decide +kernel
theorem dX1_isExercised_20 : decode cX1_isExercised 20 = .ok (.iconst 1, 1) := by decide +kernel
theorem dX1_isExercised_21 : decode cX1_isExercised 21 = .ok (.goto 4, 3) := by decide +kernel
theorem dX1_isExercised_24 : decode cX1_isExercised 24 = .ok (.iconst 0, 1) := by decide +kernel
theorem dX1_isExercised_25 : decode cX1_isExercised 25 = .ok (.ireturn, 1) := by decide +kernel
theorem dX1_rightAtRank_0 : decode cX1_rightAtRank 0 = .ok (.aload_n 0, 1) := by decide +kernel
theorem dX1_rightAtRank_1 : decode cX1_rightAtRank 1 = .ok (.getfield 34, 3) := by decide +kernel
theorem dX1_rightAtRank_4 : decode cX1_rightAtRank 4 = .ok (.iload_n 1, 1) := by decide +kernel
theorem dX1_rightAtRank_5 : decode cX1_rightAtRank 5 = .ok (.invokevirtual 105, 3) := by decide +kernel
theorem dX1_rightAtRank_8 : decode cX1_rightAtRank 8 = .ok (.ifCond .eq 18, 3) := by decide +kernel
theorem dX1_rightAtRank_11 : decode cX1_rightAtRank 11 = .ok (.iload_n 1, 1) := by decide +kernel
theorem dX1_rightAtRank_12 : decode cX1_rightAtRank 12 = .ok (.bipush 10, 2) := by decide +kernel
theorem dX1_rightAtRank_14 : decode cX1_rightAtRank 14 = .ok (.if_icmp .ge 12, 3) := by decide +kernel
theorem dX1_rightAtRank_17 : decode cX1_rightAtRank 17 = .ok (.aload_n 0, 1) := by decide +kernel
theorem dX1_rightAtRank_18 : decode cX1_rightAtRank 18 = .ok (.getfield 37, 3) := by decide +kernel
theorem dX1_rightAtRank_21 : decode cX1_rightAtRank 21 = .ok (.iload_n 1, 1) := by decide +kernel
theorem dX1_rightAtRank_22 : decode cX1_rightAtRank 22 = .ok (.iaload, 1) := by decide +kernel
theorem dX1_rightAtRank_23 : decode cX1_rightAtRank 23 = .ok (.goto 4, 3) := by decide +kernel
theorem dX1_rightAtRank_26 : decode cX1_rightAtRank 26 = .ok (.iconst (-1), 1) := by decide +kernel
theorem dX1_rightAtRank_27 : decode cX1_rightAtRank 27 = .ok (.ireturn, 1) := by decide +kernel
theorem dX1_outflowOfMonth_0 : decode cX1_outflowOfMonth 0 = .ok (.aload_n 0, 1) := by decide +kernel
theorem dX1_outflowOfMonth_1 : decode cX1_outflowOfMonth 1 = .ok (.getfield 52, 3) := by decide +kernel
theorem dX1_outflowOfMonth_4 : decode cX1_outflowOfMonth 4 = .ok (.aload_n 0, 1) := by decide +kernel
theorem dX1_outflowOfMonth_5 : decode cX1_outflowOfMonth 5 = .ok (.getfield 52, 3) := by decide +kernel
theorem dX1_outflowOfMonth_8 : decode cX1_outflowOfMonth 8 = .ok (.getfield 109, 3) := by decide +kernel
theorem dX1_outflowOfMonth_11 : decode cX1_outflowOfMonth 11 = .ok (.iconst 1, 1) := by decide +kernel
theorem dX1_outflowOfMonth_12 : decode cX1_outflowOfMonth 12 = .ok (.isub, 1) := by decide +kernel
theorem dX1_outflowOfMonth_13 : decode cX1_outflowOfMonth 13 = .ok (.iconst 2, 1) := by decide +kernel
theorem dX1_outflowOfMonth_14 : decode cX1_outflowOfMonth 14 = .ok (.invokevirtual 94, 3) := by decide +kernel
theorem dX1_outflowOfMonth_17 : decode cX1_outflowOfMonth 17 = .ok (.ireturn, 1) := by decide +kernel
theorem dX1_rankRights_0 : decode cX1_rankRights 0 = .ok (.iconst 0, 1) := by decide +kernel
theorem dX1_rankRights_1 : decode cX1_rankRights 1 = .ok (.istore_n 1, 1) := by decide +kernel
theorem dX1_rankRights_2 : decode cX1_rankRights 2 = .ok (.iload_n 1, 1) := by decide +kernel
theorem dX1_rankRights_3 : decode cX1_rankRights 3 = .ok (.aload_n 0, 1) := by decide +kernel
theorem dX1_rankRights_4 : decode cX1_rankRights 4 = .ok (.getfield 34, 3) := by decide +kernel
theorem dX1_rankRights_7 : decode cX1_rankRights 7 = .ok (.getfield 109, 3) := by decide +kernel
theorem dX1_rankRights_10 : decode cX1_rankRights 10 = .ok (.if_icmp .ge 72, 3) := by decide +kernel
theorem dX1_rankRights_13 : decode cX1_rankRights 13 = .ok (.aload_n 0, 1) := by decide +kernel
theorem dX1_rankRights_14 : decode cX1_rankRights 14 = .ok (.getfield 34, 3) := by decide +kernel
theorem dX1_rankRights_17 : decode cX1_rankRights 17 = .ok (.iload_n 1, 1) := by decide +kernel
theorem dX1_rankRights_18 : decode cX1_rankRights 18 = .ok (.iconst 2, 1) := by decide +kernel
theorem dX1_rankRights_19 : decode cX1_rankRights 19 = .ok (.invokevirtual 94, 3) := by decide +kernel
theorem dX1_rankRights_22 : decode cX1_rankRights 22 = .ok (.istore_n 2, 1) := by decide +kernel
theorem dX1_rankRights_23 : decode cX1_rankRights 23 = .ok (.iconst 0, 1) := by decide +kernel
theorem dX1_rankRights_24 : decode cX1_rankRights 24 = .ok (.istore_n 3, 1) := by decide +kernel
theorem dX1_rankRights_25 : decode cX1_rankRights 25 = .ok (.iconst 0, 1) := by decide +kernel
theorem dX1_rankRights_26 : decode cX1_rankRights 26 = .ok (.istore 4, 2) := by decide +kernel
theorem dX1_rankRights_28 : decode cX1_rankRights 28 = .ok (.iload 4, 2) := by decide +kernel
theorem dX1_rankRights_30 : decode cX1_rankRights 30 = .ok (.aload_n 0, 1) := by decide +kernel
theorem dX1_rankRights_31 : decode cX1_rankRights 31 = .ok (.getfield 34, 3) := by decide +kernel
theorem dX1_rankRights_34 : decode cX1_rankRights 34 = .ok (.getfield 109, 3) := by decide +kernel
theorem dX1_rankRights_37 : decode cX1_rankRights 37 = .ok (.if_icmp .ge 26, 3) := by decide +kernel
theorem dX1_rankRights_40 : decode cX1_rankRights 40 = .ok (.aload_n 0, 1) := by decide +kernel
theorem dX1_rankRights_41 : decode cX1_rankRights 41 = .ok (.getfield 34, 3) := by decide +kernel
theorem dX1_rankRights_44 : decode cX1_rankRights 44 = .ok (.iload 4, 2) := by decide +kernel
theorem dX1_rankRights_46 : decode cX1_rankRights 46 = .ok (.iconst 2, 1) := by decide +kernel
theorem dX1_rankRights_47 : decode cX1_rankRights 47 = .ok (.invokevirtual 94, 3) := by decide +kernel
theorem dX1_rankRights_50 : decode cX1_rankRights 50 = .ok (.iload_n 2, 1) := by decide +kernel
theorem dX1_rankRights_51 : decode cX1_rankRights 51 = .ok (.if_icmp .ge 6, 3) := by decide +kernel
theorem dX1_rankRights_54 : decode cX1_rankRights 54 = .ok (.iinc 3 1, 3) := by decide +kernel
theorem dX1_rankRights_57 : decode cX1_rankRights 57 = .ok (.iinc 4 1, 3) := by decide +kernel
theorem dX1_rankRights_60 : decode cX1_rankRights 60 = .ok (.goto (-32), 3) := by decide +kernel
theorem dX1_rankRights_63 : decode cX1_rankRights 63 = .ok (.iload_n 3, 1) := by decide +kernel
theorem dX1_rankRights_64 : decode cX1_rankRights 64 = .ok (.bipush 10, 2) := by decide +kernel
theorem dX1_rankRights_66 : decode cX1_rankRights 66 = .ok (.if_icmp .ge 10, 3) := by decide +kernel
theorem dX1_rankRights_69 : decode cX1_rankRights 69 = .ok (.aload_n 0, 1) := by decide +kernel
theorem dX1_rankRights_70 : decode cX1_rankRights 70 = .ok (.getfield 37, 3) := by decide +kernel
theorem dX1_rankRights_73 : decode cX1_rankRights 73 = .ok (.iload_n 3, 1) := by decide +kernel
theorem dX1_rankRights_74 : decode cX1_rankRights 74 = .ok (.iload_n 1, 1) := by decide +kernel
theorem dX1_rankRights_75 : decode cX1_rankRights 75 = .ok (.iastore, 1) := by decide +kernel
theorem dX1_rankRights_76 : decode cX1_rankRights 76 = .ok (.iinc 1 1, 3) := by decide +kernel
theorem dX1_rankRights_79 : decode cX1_rankRights 79 = .ok (.goto (-77), 3) := by decide +kernel
theorem dX1_rankRights_82 : decode cX1_rankRights 82 = .ok (.return_, 1) := by decide +kernel
theorem dX1_addLease_0 : decode cX1_addLease 0 = .ok (.aload_n 0, 1) := by decide +kernel
theorem dX1_addLease_1 : decode cX1_addLease 1 = .ok (.getfield 43, 3) := by decide +kernel
theorem dX1_addLease_4 : decode cX1_addLease 4 = .ok (.invokevirtual 90, 3) := by decide +kernel
theorem dX1_addLease_7 : decode cX1_addLease 7 = .ok (.istore 7, 2) := by decide +kernel
theorem dX1_addLease_9 : decode cX1_addLease 9 = .ok (.aload_n 0, 1) := by decide +kernel
theorem dX1_addLease_10 : decode cX1_addLease 10 = .ok (.getfield 43, 3) := by decide +kernel
theorem dX1_addLease_13 : decode cX1_addLease 13 = .ok (.iload 7, 2) := by decide +kernel
theorem dX1_addLease_15 : decode cX1_addLease 15 = .ok (.iconst 0, 1) := by decide +kernel
theorem dX1_addLease_16 : decode cX1_addLease 16 = .ok (.iload_n 1, 1) := by decide +kernel
theorem dX1_addLease_17 : decode cX1_addLease 17 = .ok (.invokevirtual 112, 3) := by decide +kernel
theorem dX1_addLease_20 : decode cX1_addLease 20 = .ok (.aload_n 0, 1) := by decide +kernel
theorem dX1_addLease_21 : decode cX1_addLease 21 = .ok (.getfield 43, 3) := by decide +kernel
theorem dX1_addLease_24 : decode cX1_addLease 24 = .ok (.iload 7, 2) := by decide +kernel
theorem dX1_addLease_26 : decode cX1_addLease 26 = .ok (.iconst 1, 1) := by decide +kernel
theorem dX1_addLease_27 : decode cX1_addLease 27 = .ok (.iload_n 2, 1) := by decide +kernel
theorem dX1_addLease_28 : decode cX1_addLease 28 = .ok (.invokevirtual 112, 3) := by decide +kernel
theorem dX1_addLease_31 : decode cX1_addLease 31 = .ok (.aload_n 0, 1) := by decide +kernel
theorem dX1_addLease_32 : decode cX1_addLease 32 = .ok (.getfield 43, 3) := by decide +kernel
theorem dX1_addLease_35 : decode cX1_addLease 35 = .ok (.iload 7, 2) := by decide +kernel
theorem dX1_addLease_37 : decode cX1_addLease 37 = .ok (.iconst 2, 1) := by decide +kernel
theorem dX1_addLease_38 : decode cX1_addLease 38 = .ok (.iload_n 3, 1) := by decide +kernel
theorem dX1_addLease_39 : decode cX1_addLease 39 = .ok (.invokevirtual 112, 3) := by decide +kernel
theorem dX1_addLease_42 : decode cX1_addLease 42 = .ok (.aload_n 0, 1) := by decide +kernel
theorem dX1_addLease_43 : decode cX1_addLease 43 = .ok (.getfield 43, 3) := by decide +kernel
theorem dX1_addLease_46 : decode cX1_addLease 46 = .ok (.iload 7, 2) := by decide +kernel
theorem dX1_addLease_48 : decode cX1_addLease 48 = .ok (.iconst 3, 1) := by decide +kernel
theorem dX1_addLease_49 : decode cX1_addLease 49 = .ok (.iload 4, 2) := by decide +kernel
theorem dX1_addLease_51 : decode cX1_addLease 51 = .ok (.invokevirtual 112, 3) := by decide +kernel
theorem dX1_addLease_54 : decode cX1_addLease 54 = .ok (.aload_n 0, 1) := by decide +kernel
theorem dX1_addLease_55 : decode cX1_addLease 55 = .ok (.getfield 43, 3) := by decide +kernel
theorem dX1_addLease_58 : decode cX1_addLease 58 = .ok (.iload 7, 2) := by decide +kernel
theorem dX1_addLease_60 : decode cX1_addLease 60 = .ok (.iconst 4, 1) := by decide +kernel
theorem dX1_addLease_61 : decode cX1_addLease 61 = .ok (.iload 5, 2) := by decide +kernel
theorem dX1_addLease_63 : decode cX1_addLease 63 = .ok (.invokevirtual 112, 3) := by decide +kernel
theorem dX1_addLease_66 : decode cX1_addLease 66 = .ok (.aload_n 0, 1) := by decide +kernel
theorem dX1_addLease_67 : decode cX1_addLease 67 = .ok (.getfield 43, 3) := by decide +kernel
theorem dX1_addLease_70 : decode cX1_addLease 70 = .ok (.iload 7, 2) := by decide +kernel
theorem dX1_addLease_72 : decode cX1_addLease 72 = .ok (.iconst 5, 1) := by decide +kernel
theorem dX1_addLease_73 : decode cX1_addLease 73 = .ok (.iload 6, 2) := by decide +kernel
theorem dX1_addLease_75 : decode cX1_addLease 75 = .ok (.invokevirtual 112, 3) := by decide +kernel
theorem dX1_addLease_78 : decode cX1_addLease 78 = .ok (.iload 7, 2) := by decide +kernel
theorem dX1_addLease_80 : decode cX1_addLease 80 = .ok (.ireturn, 1) := by decide +kernel
theorem dX1_pay_0 : decode cX1_pay 0 = .ok (.iload_n 1, 1) := by decide +kernel
theorem dX1_pay_1 : decode cX1_pay 1 = .ok (.ifCond .lt 39, 3) := by decide +kernel
theorem dX1_pay_4 : decode cX1_pay 4 = .ok (.iload_n 1, 1) := by decide +kernel
theorem dX1_pay_5 : decode cX1_pay 5 = .ok (.iconst 5, 1) := by decide +kernel
theorem dX1_pay_6 : decode cX1_pay 6 = .ok (.if_icmp .ge 34, 3) := by decide +kernel
theorem dX1_pay_9 : decode cX1_pay 9 = .ok (.iload_n 2, 1) := by decide +kernel
theorem dX1_pay_10 : decode cX1_pay 10 = .ok (.ifCond .lt 30, 3) := by decide +kernel
theorem dX1_pay_13 : decode cX1_pay 13 = .ok (.iload_n 2, 1) := by decide +kernel
theorem dX1_pay_14 : decode cX1_pay 14 = .ok (.iconst 5, 1) := by decide +kernel
theorem dX1_pay_15 : decode cX1_pay 15 = .ok (.if_icmp .ge 25, 3) := by decide +kernel
theorem dX1_pay_18 : decode cX1_pay 18 = .ok (.aload_n 0, 1) := by decide +kernel
theorem dX1_pay_19 : decode cX1_pay 19 = .ok (.getfield 30, 3) := by decide +kernel
theorem dX1_pay_22 : decode cX1_pay 22 = .ok (.iload_n 1, 1) := by decide +kernel
theorem dX1_pay_23 : decode cX1_pay 23 = .ok (.dup2, 1) := by decide +kernel
theorem dX1_pay_24 : decode cX1_pay 24 = .ok (.laload, 1) := by decide +kernel
theorem dX1_pay_25 : decode cX1_pay 25 = .ok (.iload_n 3, 1) := by decide +kernel
theorem dX1_pay_26 : decode cX1_pay 26 = .ok (.i2l, 1) := by decide +kernel
theorem dX1_pay_27 : decode cX1_pay 27 = .ok (.lsub, 1) := by decide +kernel
theorem dX1_pay_28 : decode cX1_pay 28 = .ok (.lastore, 1) := by decide +kernel
theorem dX1_pay_29 : decode cX1_pay 29 = .ok (.aload_n 0, 1) := by decide +kernel
theorem dX1_pay_30 : decode cX1_pay 30 = .ok (.getfield 30, 3) := by decide +kernel
theorem dX1_pay_33 : decode cX1_pay 33 = .ok (.iload_n 2, 1) := by decide +kernel
theorem dX1_pay_34 : decode cX1_pay 34 = .ok (.dup2, 1) := by decide +kernel
theorem dX1_pay_35 : decode cX1_pay 35 = .ok (.laload, 1) := by decide +kernel
theorem dX1_pay_36 : decode cX1_pay 36 = .ok (.iload_n 3, 1) := by decide +kernel
