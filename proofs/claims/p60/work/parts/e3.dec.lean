/-! ===== instructions of the law, of Random ===== -/
theorem dX5_init_0 : decode cX5_init 0 = .ok (.aload_n 0, 1) := by decide +kernel
theorem dX5_init_1 : decode cX5_init 1 = .ok (.invokespecial 1, 3) := by decide +kernel
theorem dX5_init_4 : decode cX5_init 4 = .ok (.aload_n 0, 1) := by decide +kernel
theorem dX5_init_5 : decode cX5_init 5 = .ok (.iload_n 1, 1) := by decide +kernel
theorem dX5_init_6 : decode cX5_init 6 = .ok (.putfield 7, 3) := by decide +kernel
theorem dX5_init_9 : decode cX5_init 9 = .ok (.return_, 1) := by decide +kernel
theorem dX5_next_0 : decode cX5_next 0 = .ok (.aload_n 0, 1) := by decide +kernel
theorem dX5_next_1 : decode cX5_next 1 = .ok (.ldc 13, 2) := by decide +kernel
theorem dX5_next_3 : decode cX5_next 3 = .ok (.aload_n 0, 1) := by decide +kernel
theorem dX5_next_4 : decode cX5_next 4 = .ok (.getfield 7, 3) := by decide +kernel
theorem dX5_next_7 : decode cX5_next 7 = .ok (.imul, 1) := by decide +kernel
theorem dX5_next_8 : decode cX5_next 8 = .ok (.sipush 12345, 3) := by decide +kernel
theorem dX5_next_11 : decode cX5_next 11 = .ok (.iadd, 1) := by decide +kernel
theorem dX5_next_12 : decode cX5_next 12 = .ok (.putfield 7, 3) := by decide +kernel
theorem dX5_next_15 : decode cX5_next 15 = .ok (.aload_n 0, 1) := by decide +kernel
theorem dX5_next_16 : decode cX5_next 16 = .ok (.getfield 7, 3) := by decide +kernel
theorem dX5_next_19 : decode cX5_next 19 = .ok (.bipush 16, 2) := by decide +kernel
theorem dX5_next_21 : decode cX5_next 21 = .ok (.iushr, 1) := by decide +kernel
theorem dX5_next_22 : decode cX5_next 22 = .ok (.sipush 32767, 3) := by decide +kernel
theorem dX5_next_25 : decode cX5_next 25 = .ok (.iand, 1) := by decide +kernel
theorem dX5_next_26 : decode cX5_next 26 = .ok (.iload_n 1, 1) := by decide +kernel
theorem dX5_next_27 : decode cX5_next 27 = .ok (.irem, 1) := by decide +kernel
theorem dX5_next_28 : decode cX5_next 28 = .ok (.ireturn, 1) := by decide +kernel
theorem dL_draw_0 : decode cL_draw 0 = .ok (.iload_n 1, 1) := by decide +kernel
theorem dL_draw_1 : decode cL_draw 1 = .ok (.aload_n 0, 1) := by decide +kernel
theorem dL_draw_2 : decode cL_draw 2 = .ok (.arraylength, 1) := by decide +kernel
theorem dL_draw_3 : decode cL_draw 3 = .ok (.if_icmp .ge 12, 3) := by decide +kernel
theorem dL_draw_6 : decode cL_draw 6 = .ok (.aload_n 0, 1) := by decide +kernel
theorem dL_draw_7 : decode cL_draw 7 = .ok (.iload_n 1, 1) := by decide +kernel
theorem dL_draw_8 : decode cL_draw 8 = .ok (.iaload, 1) := by decide +kernel
theorem dL_draw_9 : decode cL_draw 9 = .ok (.ldc 7, 2) := by decide +kernel
theorem dL_draw_11 : decode cL_draw 11 = .ok (.iand, 1) := by decide +kernel
theorem dL_draw_12 : decode cL_draw 12 = .ok (.goto 4, 3) := by decide +kernel
theorem dL_draw_15 : decode cL_draw 15 = .ok (.iconst 0, 1) := by decide +kernel
theorem dL_draw_16 : decode cL_draw 16 = .ok (.ireturn, 1) := by decide +kernel
theorem dL_fits_0 : decode cL_fits 0 = .ok (.aload_n 0, 1) := by decide +kernel
theorem dL_fits_1 : decode cL_fits 1 = .ok (.iload_n 2, 1) := by decide +kernel
theorem dL_fits_2 : decode cL_fits 2 = .ok (.iconst 1, 1) := by decide +kernel
theorem dL_fits_3 : decode cL_fits 3 = .ok (.invokevirtual 53, 3) := by decide +kernel
theorem dL_fits_6 : decode cL_fits 6 = .ok (.istore 6, 2) := by decide +kernel
theorem dL_fits_8 : decode cL_fits 8 = .ok (.aload_n 0, 1) := by decide +kernel
theorem dL_fits_9 : decode cL_fits 9 = .ok (.iload_n 2, 1) := by decide +kernel
theorem dL_fits_10 : decode cL_fits 10 = .ok (.iconst 0, 1) := by decide +kernel
theorem dL_fits_11 : decode cL_fits 11 = .ok (.invokevirtual 53, 3) := by decide +kernel
theorem dL_fits_14 : decode cL_fits 14 = .ok (.ifCond .ne 7, 3) := by decide +kernel
theorem dL_fits_17 : decode cL_fits 17 = .ok (.iconst 1, 1) := by decide +kernel
theorem dL_fits_18 : decode cL_fits 18 = .ok (.goto 4, 3) := by decide +kernel
theorem dL_fits_21 : decode cL_fits 21 = .ok (.iconst 0, 1) := by decide +kernel
theorem dL_fits_22 : decode cL_fits 22 = .ok (.istore 7, 2) := by decide +kernel
theorem dL_fits_24 : decode cL_fits 24 = .ok (.iload 7, 2) := by decide +kernel
theorem dL_fits_26 : decode cL_fits 26 = .ok (.ifCond .eq 19, 3) := by decide +kernel
theorem dL_fits_29 : decode cL_fits 29 = .ok (.iload_n 3, 1) := by decide +kernel
theorem dL_fits_30 : decode cL_fits 30 = .ok (.aload_n 0, 1) := by decide +kernel
theorem dL_fits_31 : decode cL_fits 31 = .ok (.iload 6, 2) := by decide +kernel
theorem dL_fits_33 : decode cL_fits 33 = .ok (.bipush 6, 2) := by decide +kernel
theorem dL_fits_35 : decode cL_fits 35 = .ok (.invokevirtual 56, 3) := by decide +kernel
theorem dL_fits_38 : decode cL_fits 38 = .ok (.imul, 1) := by decide +kernel
theorem dL_fits_39 : decode cL_fits 39 = .ok (.bipush 100, 2) := by decide +kernel
theorem dL_fits_41 : decode cL_fits 41 = .ok (.idiv, 1) := by decide +kernel
theorem dL_fits_42 : decode cL_fits 42 = .ok (.goto 4, 3) := by decide +kernel
theorem dL_fits_45 : decode cL_fits 45 = .ok (.iconst 0, 1) := by decide +kernel
theorem dL_fits_46 : decode cL_fits 46 = .ok (.istore 8, 2) := by decide +kernel
theorem dL_fits_48 : decode cL_fits 48 = .ok (.iload 7, 2) := by decide +kernel
theorem dL_fits_50 : decode cL_fits 50 = .ok (.ifCond .eq 21, 3) := by decide +kernel
theorem dL_fits_53 : decode cL_fits 53 = .ok (.iload_n 3, 1) := by decide +kernel
theorem dL_fits_54 : decode cL_fits 54 = .ok (.iload 8, 2) := by decide +kernel
theorem dL_fits_56 : decode cL_fits 56 = .ok (.isub, 1) := by decide +kernel
theorem dL_fits_57 : decode cL_fits 57 = .ok (.aload_n 0, 1) := by decide +kernel
theorem dL_fits_58 : decode cL_fits 58 = .ok (.iload 6, 2) := by decide +kernel
theorem dL_fits_60 : decode cL_fits 60 = .ok (.iconst 4, 1) := by decide +kernel
theorem dL_fits_61 : decode cL_fits 61 = .ok (.invokevirtual 56, 3) := by decide +kernel
theorem dL_fits_64 : decode cL_fits 64 = .ok (.imul, 1) := by decide +kernel
theorem dL_fits_65 : decode cL_fits 65 = .ok (.bipush 100, 2) := by decide +kernel
theorem dL_fits_67 : decode cL_fits 67 = .ok (.idiv, 1) := by decide +kernel
theorem dL_fits_68 : decode cL_fits 68 = .ok (.goto 4, 3) := by decide +kernel
theorem dL_fits_71 : decode cL_fits 71 = .ok (.iconst 0, 1) := by decide +kernel
theorem dL_fits_72 : decode cL_fits 72 = .ok (.istore 9, 2) := by decide +kernel
theorem dL_fits_74 : decode cL_fits 74 = .ok (.iload 5, 2) := by decide +kernel
theorem dL_fits_76 : decode cL_fits 76 = .ok (.ifCond .eq 29, 3) := by decide +kernel
theorem dL_fits_79 : decode cL_fits 79 = .ok (.aload_n 0, 1) := by decide +kernel
theorem dL_fits_80 : decode cL_fits 80 = .ok (.iload_n 2, 1) := by decide +kernel
theorem dL_fits_81 : decode cL_fits 81 = .ok (.bipush 6, 2) := by decide +kernel
theorem dL_fits_83 : decode cL_fits 83 = .ok (.invokevirtual 53, 3) := by decide +kernel
theorem dL_fits_86 : decode cL_fits 86 = .ok (.iload 8, 2) := by decide +kernel
theorem dL_fits_88 : decode cL_fits 88 = .ok (.if_icmp .ne 15, 3) := by decide +kernel
theorem dL_fits_91 : decode cL_fits 91 = .ok (.aload_n 0, 1) := by decide +kernel
theorem dL_fits_92 : decode cL_fits 92 = .ok (.iload_n 2, 1) := by decide +kernel
theorem dL_fits_93 : decode cL_fits 93 = .ok (.bipush 7, 2) := by decide +kernel
theorem dL_fits_95 : decode cL_fits 95 = .ok (.invokevirtual 53, 3) := by decide +kernel
theorem dL_fits_98 : decode cL_fits 98 = .ok (.iload 9, 2) := by decide +kernel
theorem dL_fits_100 : decode cL_fits 100 = .ok (.if_icmp .eq 5, 3) := by decide +kernel
theorem dL_fits_103 : decode cL_fits 103 = .ok (.iconst 0, 1) := by decide +kernel
theorem dL_fits_104 : decode cL_fits 104 = .ok (.ireturn, 1) := by decide +kernel
theorem dL_fits_105 : decode cL_fits 105 = .ok (.aload_n 0, 1) := by decide +kernel
theorem dL_fits_106 : decode cL_fits 106 = .ok (.iload_n 2, 1) := by decide +kernel
theorem dL_fits_107 : decode cL_fits 107 = .ok (.iconst 3, 1) := by decide +kernel
theorem dL_fits_108 : decode cL_fits 108 = .ok (.invokevirtual 53, 3) := by decide +kernel
theorem dL_fits_111 : decode cL_fits 111 = .ok (.istore 10, 2) := by decide +kernel
theorem dL_fits_113 : decode cL_fits 113 = .ok (.iload 10, 2) := by decide +kernel
theorem dL_fits_115 : decode cL_fits 115 = .ok (.aload_n 1, 1) := by decide +kernel
theorem dL_fits_116 : decode cL_fits 116 = .ok (.getfield 32, 3) := by decide +kernel
theorem dL_fits_119 : decode cL_fits 119 = .ok (.if_icmp .ge 61, 3) := by decide +kernel
theorem dL_fits_122 : decode cL_fits 122 = .ok (.iload_n 3, 1) := by decide +kernel
theorem dL_fits_123 : decode cL_fits 123 = .ok (.iload 7, 2) := by decide +kernel
theorem dL_fits_125 : decode cL_fits 125 = .ok (.ifCond .eq 20, 3) := by decide +kernel
theorem dL_fits_128 : decode cL_fits 128 = .ok (.iload 10, 2) := by decide +kernel
theorem dL_fits_130 : decode cL_fits 130 = .ok (.aload_n 0, 1) := by decide +kernel
theorem dL_fits_131 : decode cL_fits 131 = .ok (.iload 6, 2) := by decide +kernel
theorem dL_fits_133 : decode cL_fits 133 = .ok (.iconst 5, 1) := by decide +kernel
theorem dL_fits_134 : decode cL_fits 134 = .ok (.invokevirtual 56, 3) := by decide +kernel
theorem dL_fits_137 : decode cL_fits 137 = .ok (.if_icmp .lt 8, 3) := by decide +kernel
theorem dL_fits_140 : decode cL_fits 140 = .ok (.iload 9, 2) := by decide +kernel
theorem dL_fits_142 : decode cL_fits 142 = .ok (.goto 4, 3) := by decide +kernel
theorem dL_fits_145 : decode cL_fits 145 = .ok (.iconst 0, 1) := by decide +kernel
theorem dL_fits_146 : decode cL_fits 146 = .ok (.isub, 1) := by decide +kernel
theorem dL_fits_147 : decode cL_fits 147 = .ok (.istore 11, 2) := by decide +kernel
theorem dL_fits_149 : decode cL_fits 149 = .ok (.iload 11, 2) := by decide +kernel
theorem dL_fits_151 : decode cL_fits 151 = .ok (.ifCond .le 23, 3) := by decide +kernel
theorem dL_fits_154 : decode cL_fits 154 = .ok (.aload 4, 2) := by decide +kernel
theorem dL_fits_156 : decode cL_fits 156 = .ok (.iload 10, 2) := by decide +kernel
theorem dL_fits_158 : decode cL_fits 158 = .ok (.iaload, 1) := by decide +kernel
theorem dL_fits_159 : decode cL_fits 159 = .ok (.iload 11, 2) := by decide +kernel
theorem dL_fits_161 : decode cL_fits 161 = .ok (.isub, 1) := by decide +kernel
theorem dL_fits_162 : decode cL_fits 162 = .ok (.aload_n 0, 1) := by decide +kernel
theorem dL_fits_163 : decode cL_fits 163 = .ok (.iload 10, 2) := by decide +kernel
theorem dL_fits_165 : decode cL_fits 165 = .ok (.iconst 1, 1) := by decide +kernel
theorem dL_fits_166 : decode cL_fits 166 = .ok (.invokevirtual 69, 3) := by decide +kernel
theorem dL_fits_169 : decode cL_fits 169 = .ok (.if_icmp .ge 5, 3) := by decide +kernel
theorem dL_fits_172 : decode cL_fits 172 = .ok (.iconst 0, 1) := by decide +kernel
theorem dL_fits_173 : decode cL_fits 173 = .ok (.ireturn, 1) := by decide +kernel
theorem dL_fits_174 : decode cL_fits 174 = .ok (.iinc 10 1, 3) := by decide +kernel
theorem dL_fits_177 : decode cL_fits 177 = .ok (.goto (-64), 3) := by decide +kernel
theorem dL_fits_180 : decode cL_fits 180 = .ok (.aload_n 0, 1) := by decide +kernel
theorem dL_fits_181 : decode cL_fits 181 = .ok (.iload_n 2, 1) := by decide +kernel
theorem dL_fits_182 : decode cL_fits 182 = .ok (.iconst 3, 1) := by decide +kernel
theorem dL_fits_183 : decode cL_fits 183 = .ok (.invokevirtual 53, 3) := by decide +kernel
theorem dL_fits_186 : decode cL_fits 186 = .ok (.istore 10, 2) := by decide +kernel
theorem dL_fits_188 : decode cL_fits 188 = .ok (.iload 10, 2) := by decide +kernel
theorem dL_fits_190 : decode cL_fits 190 = .ok (.aload_n 1, 1) := by decide +kernel
theorem dL_fits_191 : decode cL_fits 191 = .ok (.getfield 32, 3) := by decide +kernel
theorem dL_fits_194 : decode cL_fits 194 = .ok (.if_icmp .ge 47, 3) := by decide +kernel
theorem dL_fits_197 : decode cL_fits 197 = .ok (.iload 5, 2) := by decide +kernel
theorem dL_fits_199 : decode cL_fits 199 = .ok (.ifCond .eq 42, 3) := by decide +kernel
theorem dL_fits_202 : decode cL_fits 202 = .ok (.aload 4, 2) := by decide +kernel
theorem dL_fits_204 : decode cL_fits 204 = .ok (.iload 10, 2) := by decide +kernel
theorem dL_fits_206 : decode cL_fits 206 = .ok (.dup2, 1) := by decide +kernel
theorem dL_fits_207 : decode cL_fits 207 = .ok (.iaload, 1) := by decide +kernel
theorem dL_fits_208 : decode cL_fits 208 = .ok (.iload_n 3, 1) := by decide +kernel
theorem dL_fits_209 : decode cL_fits 209 = .ok (.iload 7, 2) := by decide +kernel
theorem dL_fits_211 : decode cL_fits 211 = .ok (.ifCond .eq 20, 3) := by decide +kernel
theorem dL_fits_214 : decode cL_fits 214 = .ok (.iload 10, 2) := by decide +kernel
theorem dL_fits_216 : decode cL_fits 216 = .ok (.aload_n 0, 1) := by decide +kernel
theorem dL_fits_217 : decode cL_fits 217 = .ok (.iload 6, 2) := by decide +kernel
theorem dL_fits_219 : decode cL_fits 219 = .ok (.iconst 5, 1) := by decide +kernel
theorem dL_fits_220 : decode cL_fits 220 = .ok (.invokevirtual 56, 3) := by decide +kernel
theorem dL_fits_223 : decode cL_fits 223 = .ok (.if_icmp .lt 8, 3) := by decide +kernel
theorem dL_fits_226 : decode cL_fits 226 = .ok (.iload 9, 2) := by decide +kernel
theorem dL_fits_228 : decode cL_fits 228 = .ok (.goto 4, 3) := by decide +kernel
theorem dL_fits_231 : decode cL_fits 231 = .ok (.iconst 0, 1) := by decide +kernel
theorem dL_fits_232 : decode cL_fits 232 = .ok (.isub, 1) := by decide +kernel
theorem dL_fits_233 : decode cL_fits 233 = .ok (.isub, 1) := by decide +kernel
theorem dL_fits_234 : decode cL_fits 234 = .ok (.iastore, 1) := by decide +kernel
theorem dL_fits_235 : decode cL_fits 235 = .ok (.iinc 10 1, 3) := by decide +kernel
theorem dL_fits_238 : decode cL_fits 238 = .ok (.goto (-50), 3) := by decide +kernel
theorem dL_fits_241 : decode cL_fits 241 = .ok (.iconst 1, 1) := by decide +kernel
theorem dL_fits_242 : decode cL_fits 242 = .ok (.ireturn, 1) := by decide +kernel
theorem dL_law_0 : decode cL_law 0 = .ok (.iconst 0, 1) := by decide +kernel
theorem dL_law_1 : decode cL_law 1 = .ok (.istore_n 1, 1) := by decide +kernel
theorem dL_law_2 : decode cL_law 2 = .ok (.iload_n 1, 1) := by decide +kernel
theorem dL_law_3 : decode cL_law 3 = .ok (.aload_n 0, 1) := by decide +kernel
theorem dL_law_4 : decode cL_law 4 = .ok (.arraylength, 1) := by decide +kernel
theorem dL_law_5 : decode cL_law 5 = .ok (.if_icmp .ge 377, 3) := by decide +kernel
theorem dL_law_8 : decode cL_law 8 = .ok (.iload_n 1, 1) := by decide +kernel
theorem dL_law_9 : decode cL_law 9 = .ok (.bipush 6, 2) := by decide +kernel
theorem dL_law_11 : decode cL_law 11 = .ok (.if_icmp .ge 371, 3) := by decide +kernel
theorem dL_law_14 : decode cL_law 14 = .ok (.new 8, 3) := by decide +kernel
theorem dL_law_17 : decode cL_law 17 = .ok (.dup, 1) := by decide +kernel
theorem dL_law_18 : decode cL_law 18 = .ok (.aload_n 0, 1) := by decide +kernel
theorem dL_law_19 : decode cL_law 19 = .ok (.iload_n 1, 1) := by decide +kernel
theorem dL_law_20 : decode cL_law 20 = .ok (.invokestatic 10, 3) := by decide +kernel
theorem dL_law_23 : decode cL_law 23 = .ok (.invokespecial 16, 3) := by decide +kernel
theorem dL_law_26 : decode cL_law 26 = .ok (.astore_n 2, 1) := by decide +kernel
theorem dL_law_27 : decode cL_law 27 = .ok (.new 19, 3) := by decide +kernel
theorem dL_law_30 : decode cL_law 30 = .ok (.dup, 1) := by decide +kernel
theorem dL_law_31 : decode cL_law 31 = .ok (.aload_n 2, 1) := by decide +kernel
theorem dL_law_32 : decode cL_law 32 = .ok (.invokespecial 21, 3) := by decide +kernel
theorem dL_law_35 : decode cL_law 35 = .ok (.astore_n 3, 1) := by decide +kernel
theorem dL_law_36 : decode cL_law 36 = .ok (.aload_n 3, 1) := by decide +kernel
theorem dL_law_37 : decode cL_law 37 = .ok (.getfield 24, 3) := by decide +kernel
theorem dL_law_40 : decode cL_law 40 = .ok (.ifCond .ne 5, 3) := by decide +kernel
theorem dL_law_43 : decode cL_law 43 = .ok (.iconst 0, 1) := by decide +kernel
theorem dL_law_44 : decode cL_law 44 = .ok (.ireturn, 1) := by decide +kernel
theorem dL_law_45 : decode cL_law 45 = .ok (.aload_n 3, 1) := by decide +kernel
theorem dL_law_46 : decode cL_law 46 = .ok (.getfield 28, 3) := by decide +kernel
theorem dL_law_49 : decode cL_law 49 = .ok (.astore 4, 2) := by decide +kernel
theorem dL_law_51 : decode cL_law 51 = .ok (.iconst 0, 1) := by decide +kernel
theorem dL_law_52 : decode cL_law 52 = .ok (.istore 5, 2) := by decide +kernel
theorem dL_law_54 : decode cL_law 54 = .ok (.iload 5, 2) := by decide +kernel
theorem dL_law_56 : decode cL_law 56 = .ok (.bipush 14, 2) := by decide +kernel
theorem dL_law_58 : decode cL_law 58 = .ok (.if_icmp .ge 318, 3) := by decide +kernel
theorem dL_law_61 : decode cL_law 61 = .ok (.bipush 6, 2) := by decide +kernel
theorem dL_law_63 : decode cL_law 63 = .ok (.newarray .int, 2) := by decide +kernel
theorem dL_law_65 : decode cL_law 65 = .ok (.astore 6, 2) := by decide +kernel
theorem dL_law_67 : decode cL_law 67 = .ok (.iconst 0, 1) := by decide +kernel
theorem dL_law_68 : decode cL_law 68 = .ok (.istore 7, 2) := by decide +kernel
theorem dL_law_70 : decode cL_law 70 = .ok (.iconst 0, 1) := by decide +kernel
theorem dL_law_71 : decode cL_law 71 = .ok (.istore 8, 2) := by decide +kernel
theorem dL_law_73 : decode cL_law 73 = .ok (.iload 8, 2) := by decide +kernel
theorem dL_law_75 : decode cL_law 75 = .ok (.aload_n 3, 1) := by decide +kernel
theorem dL_law_76 : decode cL_law 76 = .ok (.getfield 32, 3) := by decide +kernel
theorem dL_law_79 : decode cL_law 79 = .ok (.if_icmp .ge 28, 3) := by decide +kernel
theorem dL_law_82 : decode cL_law 82 = .ok (.iload 7, 2) := by decide +kernel
theorem dL_law_84 : decode cL_law 84 = .ok (.aload 4, 2) := by decide +kernel
theorem dL_law_86 : decode cL_law 86 = .ok (.iload 8, 2) := by decide +kernel
theorem dL_law_88 : decode cL_law 88 = .ok (.invokevirtual 36, 3) := by decide +kernel
theorem dL_law_91 : decode cL_law 91 = .ok (.iadd, 1) := by decide +kernel
theorem dL_law_92 : decode cL_law 92 = .ok (.istore 7, 2) := by decide +kernel
theorem dL_law_94 : decode cL_law 94 = .ok (.aload 6, 2) := by decide +kernel
theorem dL_law_96 : decode cL_law 96 = .ok (.iload 8, 2) := by decide +kernel
theorem dL_law_98 : decode cL_law 98 = .ok (.iload 7, 2) := by decide +kernel
theorem dL_law_100 : decode cL_law 100 = .ok (.iastore, 1) := by decide +kernel
theorem dL_law_101 : decode cL_law 101 = .ok (.iinc 8 1, 3) := by decide +kernel
theorem dL_law_104 : decode cL_law 104 = .ok (.goto (-31), 3) := by decide +kernel
theorem dL_law_107 : decode cL_law 107 = .ok (.aload 4, 2) := by decide +kernel
theorem dL_law_109 : decode cL_law 109 = .ok (.iconst 1, 1) := by decide +kernel
theorem dL_law_110 : decode cL_law 110 = .ok (.invokevirtual 42, 3) := by decide +kernel
theorem dL_law_113 : decode cL_law 113 = .ok (.istore 8, 2) := by decide +kernel
theorem dL_law_115 : decode cL_law 115 = .ok (.iconst 0, 1) := by decide +kernel
theorem dL_law_116 : decode cL_law 116 = .ok (.istore 9, 2) := by decide +kernel
theorem dL_law_118 : decode cL_law 118 = .ok (.iconst 0, 1) := by decide +kernel
theorem dL_law_119 : decode cL_law 119 = .ok (.istore 10, 2) := by decide +kernel
theorem dL_law_121 : decode cL_law 121 = .ok (.iconst 0, 1) := by decide +kernel
theorem dL_law_122 : decode cL_law 122 = .ok (.istore 11, 2) := by decide +kernel
theorem dL_law_124 : decode cL_law 124 = .ok (.iload 11, 2) := by decide +kernel
theorem dL_law_126 : decode cL_law 126 = .ok (.aload_n 3, 1) := by decide +kernel
theorem dL_law_127 : decode cL_law 127 = .ok (.getfield 32, 3) := by decide +kernel
theorem dL_law_130 : decode cL_law 130 = .ok (.if_icmp .ge 27, 3) := by decide +kernel
theorem dL_law_133 : decode cL_law 133 = .ok (.aload 4, 2) := by decide +kernel
theorem dL_law_135 : decode cL_law 135 = .ok (.iload 11, 2) := by decide +kernel
theorem dL_law_137 : decode cL_law 137 = .ok (.iconst 1, 1) := by decide +kernel
theorem dL_law_138 : decode cL_law 138 = .ok (.invokevirtual 45, 3) := by decide +kernel
theorem dL_law_141 : decode cL_law 141 = .ok (.aload 6, 2) := by decide +kernel
theorem dL_law_143 : decode cL_law 143 = .ok (.iload 11, 2) := by decide +kernel
theorem dL_law_145 : decode cL_law 145 = .ok (.iaload, 1) := by decide +kernel
theorem dL_law_146 : decode cL_law 146 = .ok (.if_icmp .eq 5, 3) := by decide +kernel
theorem dL_law_149 : decode cL_law 149 = .ok (.iconst 0, 1) := by decide +kernel
theorem dL_law_150 : decode cL_law 150 = .ok (.ireturn, 1) := by decide +kernel
theorem dL_law_151 : decode cL_law 151 = .ok (.iinc 11 1, 3) := by decide +kernel
theorem dL_law_154 : decode cL_law 154 = .ok (.goto (-30), 3) := by decide +kernel
theorem dL_law_157 : decode cL_law 157 = .ok (.iconst 0, 1) := by decide +kernel
theorem dL_law_158 : decode cL_law 158 = .ok (.istore 11, 2) := by decide +kernel
theorem dL_law_160 : decode cL_law 160 = .ok (.iload 11, 2) := by decide +kernel
theorem dL_law_162 : decode cL_law 162 = .ok (.aload 4, 2) := by decide +kernel
theorem dL_law_164 : decode cL_law 164 = .ok (.invokevirtual 49, 3) := by decide +kernel
theorem dL_law_167 : decode cL_law 167 = .ok (.if_icmp .ge 126, 3) := by decide +kernel
theorem dL_law_170 : decode cL_law 170 = .ok (.aload 4, 2) := by decide +kernel
theorem dL_law_172 : decode cL_law 172 = .ok (.iload 11, 2) := by decide +kernel
theorem dL_law_174 : decode cL_law 174 = .ok (.iconst 1, 1) := by decide +kernel
theorem dL_law_175 : decode cL_law 175 = .ok (.invokevirtual 53, 3) := by decide +kernel
theorem dL_law_178 : decode cL_law 178 = .ok (.istore 12, 2) := by decide +kernel
theorem dL_law_180 : decode cL_law 180 = .ok (.aload 4, 2) := by decide +kernel
theorem dL_law_182 : decode cL_law 182 = .ok (.iload 12, 2) := by decide +kernel
theorem dL_law_184 : decode cL_law 184 = .ok (.iconst 2, 1) := by decide +kernel
theorem dL_law_185 : decode cL_law 185 = .ok (.invokevirtual 56, 3) := by decide +kernel
theorem dL_law_188 : decode cL_law 188 = .ok (.iload 10, 2) := by decide +kernel
theorem dL_law_190 : decode cL_law 190 = .ok (.if_icmp .ge 5, 3) := by decide +kernel
theorem dL_law_193 : decode cL_law 193 = .ok (.iconst 0, 1) := by decide +kernel
theorem dL_law_194 : decode cL_law 194 = .ok (.ireturn, 1) := by decide +kernel
theorem dL_law_195 : decode cL_law 195 = .ok (.aload 4, 2) := by decide +kernel
theorem dL_law_197 : decode cL_law 197 = .ok (.iload 12, 2) := by decide +kernel
theorem dL_law_199 : decode cL_law 199 = .ok (.iconst 2, 1) := by decide +kernel
theorem dL_law_200 : decode cL_law 200 = .ok (.invokevirtual 56, 3) := by decide +kernel
theorem dL_law_203 : decode cL_law 203 = .ok (.istore 10, 2) := by decide +kernel
theorem dL_law_205 : decode cL_law 205 = .ok (.aload 4, 2) := by decide +kernel
theorem dL_law_207 : decode cL_law 207 = .ok (.iload 11, 2) := by decide +kernel
theorem dL_law_209 : decode cL_law 209 = .ok (.iconst 4, 1) := by decide +kernel
theorem dL_law_210 : decode cL_law 210 = .ok (.invokevirtual 53, 3) := by decide +kernel
theorem dL_law_213 : decode cL_law 213 = .ok (.istore 13, 2) := by decide +kernel
theorem dL_law_215 : decode cL_law 215 = .ok (.aload 4, 2) := by decide +kernel
theorem dL_law_217 : decode cL_law 217 = .ok (.iload 11, 2) := by decide +kernel
theorem dL_law_219 : decode cL_law 219 = .ok (.iconst 5, 1) := by decide +kernel
theorem dL_law_220 : decode cL_law 220 = .ok (.invokevirtual 53, 3) := by decide +kernel
theorem dL_law_223 : decode cL_law 223 = .ok (.istore 14, 2) := by decide +kernel
theorem dL_law_225 : decode cL_law 225 = .ok (.iload 14, 2) := by decide +kernel
theorem dL_law_227 : decode cL_law 227 = .ok (.ifCond .lt 51, 3) := by decide +kernel
theorem dL_law_230 : decode cL_law 230 = .ok (.iload 14, 2) := by decide +kernel
theorem dL_law_232 : decode cL_law 232 = .ok (.iload 13, 2) := by decide +kernel
theorem dL_law_234 : decode cL_law 234 = .ok (.if_icmp .gt 44, 3) := by decide +kernel
theorem dL_law_237 : decode cL_law 237 = .ok (.iload 14, 2) := by decide +kernel
theorem dL_law_239 : decode cL_law 239 = .ok (.iload 13, 2) := by decide +kernel
theorem dL_law_241 : decode cL_law 241 = .ok (.if_icmp .ge 21, 3) := by decide +kernel
theorem dL_law_244 : decode cL_law 244 = .ok (.aload 4, 2) := by decide +kernel
theorem dL_law_246 : decode cL_law 246 = .ok (.aload_n 3, 1) := by decide +kernel
theorem dL_law_247 : decode cL_law 247 = .ok (.iload 11, 2) := by decide +kernel
theorem dL_law_249 : decode cL_law 249 = .ok (.iload 14, 2) := by decide +kernel
theorem dL_law_251 : decode cL_law 251 = .ok (.iconst 1, 1) := by decide +kernel
theorem dL_law_252 : decode cL_law 252 = .ok (.iadd, 1) := by decide +kernel
theorem dL_law_253 : decode cL_law 253 = .ok (.aload 6, 2) := by decide +kernel
theorem dL_law_255 : decode cL_law 255 = .ok (.iconst 0, 1) := by decide +kernel
theorem dL_law_256 : decode cL_law 256 = .ok (.invokestatic 59, 3) := by decide +kernel
theorem dL_law_259 : decode cL_law 259 = .ok (.ifCond .ne 19, 3) := by decide +kernel
theorem dL_law_262 : decode cL_law 262 = .ok (.aload 4, 2) := by decide +kernel
theorem dL_law_264 : decode cL_law 264 = .ok (.aload_n 3, 1) := by decide +kernel
theorem dL_law_265 : decode cL_law 265 = .ok (.iload 11, 2) := by decide +kernel
theorem dL_law_267 : decode cL_law 267 = .ok (.iload 14, 2) := by decide +kernel
theorem dL_law_269 : decode cL_law 269 = .ok (.aload 6, 2) := by decide +kernel
theorem dL_law_271 : decode cL_law 271 = .ok (.iconst 1, 1) := by decide +kernel
theorem dL_law_272 : decode cL_law 272 = .ok (.invokestatic 59, 3) := by decide +kernel
theorem dL_law_275 : decode cL_law 275 = .ok (.ifCond .ne 5, 3) := by decide +kernel
theorem dL_law_278 : decode cL_law 278 = .ok (.iconst 0, 1) := by decide +kernel
theorem dL_law_279 : decode cL_law 279 = .ok (.ireturn, 1) := by decide +kernel
theorem dL_law_280 : decode cL_law 280 = .ok (.iload 9, 2) := by decide +kernel
theorem dL_law_282 : decode cL_law 282 = .ok (.iload 14, 2) := by decide +kernel
theorem dL_law_284 : decode cL_law 284 = .ok (.iadd, 1) := by decide +kernel
theorem dL_law_285 : decode cL_law 285 = .ok (.istore 9, 2) := by decide +kernel
theorem dL_law_287 : decode cL_law 287 = .ok (.iinc 11 1, 3) := by decide +kernel
theorem dL_law_290 : decode cL_law 290 = .ok (.goto (-130), 3) := by decide +kernel
theorem dL_law_293 : decode cL_law 293 = .ok (.iload 8, 2) := by decide +kernel
theorem dL_law_295 : decode cL_law 295 = .ok (.iload 9, 2) := by decide +kernel
theorem dL_law_297 : decode cL_law 297 = .ok (.if_icmp .eq 5, 3) := by decide +kernel
theorem dL_law_300 : decode cL_law 300 = .ok (.iconst 0, 1) := by decide +kernel
theorem dL_law_301 : decode cL_law 301 = .ok (.ireturn, 1) := by decide +kernel
theorem dL_law_302 : decode cL_law 302 = .ok (.iconst 0, 1) := by decide +kernel
theorem dL_law_303 : decode cL_law 303 = .ok (.istore 11, 2) := by decide +kernel
theorem dL_law_305 : decode cL_law 305 = .ok (.iload 11, 2) := by decide +kernel
theorem dL_law_307 : decode cL_law 307 = .ok (.aload_n 3, 1) := by decide +kernel
theorem dL_law_308 : decode cL_law 308 = .ok (.getfield 32, 3) := by decide +kernel
theorem dL_law_311 : decode cL_law 311 = .ok (.if_icmp .ge 27, 3) := by decide +kernel
theorem dL_law_314 : decode cL_law 314 = .ok (.aload 4, 2) := by decide +kernel
theorem dL_law_316 : decode cL_law 316 = .ok (.iload 11, 2) := by decide +kernel
theorem dL_law_318 : decode cL_law 318 = .ok (.iconst 2, 1) := by decide +kernel
theorem dL_law_319 : decode cL_law 319 = .ok (.invokevirtual 45, 3) := by decide +kernel
theorem dL_law_322 : decode cL_law 322 = .ok (.aload 6, 2) := by decide +kernel
theorem dL_law_324 : decode cL_law 324 = .ok (.iload 11, 2) := by decide +kernel
theorem dL_law_326 : decode cL_law 326 = .ok (.iaload, 1) := by decide +kernel
theorem dL_law_327 : decode cL_law 327 = .ok (.if_icmp .eq 5, 3) := by decide +kernel
theorem dL_law_330 : decode cL_law 330 = .ok (.iconst 0, 1) := by decide +kernel
theorem dL_law_331 : decode cL_law 331 = .ok (.ireturn, 1) := by decide +kernel
theorem dL_law_332 : decode cL_law 332 = .ok (.iinc 11 1, 3) := by decide +kernel
theorem dL_law_335 : decode cL_law 335 = .ok (.goto (-30), 3) := by decide +kernel
theorem dL_law_338 : decode cL_law 338 = .ok (.aload 4, 2) := by decide +kernel
theorem dL_law_340 : decode cL_law 340 = .ok (.invokevirtual 63, 3) := by decide +kernel
theorem dL_law_343 : decode cL_law 343 = .ok (.aload 6, 2) := by decide +kernel
theorem dL_law_345 : decode cL_law 345 = .ok (.aload_n 3, 1) := by decide +kernel
theorem dL_law_346 : decode cL_law 346 = .ok (.getfield 32, 3) := by decide +kernel
theorem dL_law_349 : decode cL_law 349 = .ok (.iconst 1, 1) := by decide +kernel
theorem dL_law_350 : decode cL_law 350 = .ok (.isub, 1) := by decide +kernel
theorem dL_law_351 : decode cL_law 351 = .ok (.iaload, 1) := by decide +kernel
theorem dL_law_352 : decode cL_law 352 = .ok (.if_icmp .ne 16, 3) := by decide +kernel
theorem dL_law_355 : decode cL_law 355 = .ok (.aload 4, 2) := by decide +kernel
theorem dL_law_357 : decode cL_law 357 = .ok (.iconst 5, 1) := by decide +kernel
theorem dL_law_358 : decode cL_law 358 = .ok (.invokevirtual 66, 3) := by decide +kernel
theorem dL_law_361 : decode cL_law 361 = .ok (.iload 5, 2) := by decide +kernel
theorem dL_law_363 : decode cL_law 363 = .ok (.iconst 1, 1) := by decide +kernel
theorem dL_law_364 : decode cL_law 364 = .ok (.iadd, 1) := by decide +kernel
theorem dL_law_365 : decode cL_law 365 = .ok (.if_icmp .eq 5, 3) := by decide +kernel
theorem dL_law_368 : decode cL_law 368 = .ok (.iconst 0, 1) := by decide +kernel
theorem dL_law_369 : decode cL_law 369 = .ok (.ireturn, 1) := by decide +kernel
theorem dL_law_370 : decode cL_law 370 = .ok (.iinc 5 1, 3) := by decide +kernel
theorem dL_law_373 : decode cL_law 373 = .ok (.goto (-319), 3) := by decide +kernel
theorem dL_law_376 : decode cL_law 376 = .ok (.iinc 1 1, 3) := by decide +kernel
theorem dL_law_379 : decode cL_law 379 = .ok (.goto (-377), 3) := by decide +kernel
theorem dL_law_382 : decode cL_law 382 = .ok (.iconst 1, 1) := by decide +kernel
theorem dL_law_383 : decode cL_law 383 = .ok (.ireturn, 1) := by decide +kernel
