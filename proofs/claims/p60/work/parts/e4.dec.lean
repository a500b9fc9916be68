/-! ===== instructions of Made ===== -/
theorem dX4_init_0 : decode cX4_init 0 = .ok (.aload_n 0, 1) := by decide +kernel
theorem dX4_init_1 : decode cX4_init 1 = .ok (.invokespecial 1, 3) := by decide +kernel
theorem dX4_init_4 : decode cX4_init 4 = .ok (.aload_n 0, 1) := by decide +kernel
theorem dX4_init_5 : decode cX4_init 5 = .ok (.new 7, 3) := by decide +kernel
theorem dX4_init_8 : decode cX4_init 8 = .ok (.dup, 1) := by decide +kernel
theorem dX4_init_9 : decode cX4_init 9 = .ok (.invokespecial 9, 3) := by decide +kernel
theorem dX4_init_12 : decode cX4_init 12 = .ok (.putfield 10, 3) := by decide +kernel
theorem dX4_init_15 : decode cX4_init 15 = .ok (.aload_n 0, 1) := by decide +kernel
theorem dX4_init_16 : decode cX4_init 16 = .ok (.iconst 1, 1) := by decide +kernel
theorem dX4_init_17 : decode cX4_init 17 = .ok (.aload_n 1, 1) := by decide +kernel
theorem dX4_init_18 : decode cX4_init 18 = .ok (.bipush 6, 2) := by decide +kernel
theorem dX4_init_20 : decode cX4_init 20 = .ok (.invokevirtual 16, 3) := by decide +kernel
theorem dX4_init_23 : decode cX4_init 23 = .ok (.iadd, 1) := by decide +kernel
theorem dX4_init_24 : decode cX4_init 24 = .ok (.putfield 22, 3) := by decide +kernel
theorem dX4_init_27 : decode cX4_init 27 = .ok (.aload_n 0, 1) := by decide +kernel
theorem dX4_init_28 : decode cX4_init 28 = .ok (.iconst 1, 1) := by decide +kernel
theorem dX4_init_29 : decode cX4_init 29 = .ok (.aload_n 1, 1) := by decide +kernel
theorem dX4_init_30 : decode cX4_init 30 = .ok (.iconst 5, 1) := by decide +kernel
theorem dX4_init_31 : decode cX4_init 31 = .ok (.invokevirtual 16, 3) := by decide +kernel
theorem dX4_init_34 : decode cX4_init 34 = .ok (.iadd, 1) := by decide +kernel
theorem dX4_init_35 : decode cX4_init 35 = .ok (.putfield 26, 3) := by decide +kernel
theorem dX4_init_38 : decode cX4_init 38 = .ok (.aload_n 0, 1) := by decide +kernel
theorem dX4_init_39 : decode cX4_init 39 = .ok (.iconst 1, 1) := by decide +kernel
theorem dX4_init_40 : decode cX4_init 40 = .ok (.aload_n 1, 1) := by decide +kernel
theorem dX4_init_41 : decode cX4_init 41 = .ok (.bipush 8, 2) := by decide +kernel
theorem dX4_init_43 : decode cX4_init 43 = .ok (.invokevirtual 16, 3) := by decide +kernel
theorem dX4_init_46 : decode cX4_init 46 = .ok (.iadd, 1) := by decide +kernel
theorem dX4_init_47 : decode cX4_init 47 = .ok (.putfield 29, 3) := by decide +kernel
theorem dX4_init_50 : decode cX4_init 50 = .ok (.aload_n 0, 1) := by decide +kernel
theorem dX4_init_51 : decode cX4_init 51 = .ok (.aload_n 1, 1) := by decide +kernel
theorem dX4_init_52 : decode cX4_init 52 = .ok (.iconst 5, 1) := by decide +kernel
theorem dX4_init_53 : decode cX4_init 53 = .ok (.invokevirtual 16, 3) := by decide +kernel
theorem dX4_init_56 : decode cX4_init 56 = .ok (.putfield 32, 3) := by decide +kernel
theorem dX4_init_59 : decode cX4_init 59 = .ok (.new 35, 3) := by decide +kernel
theorem dX4_init_62 : decode cX4_init 62 = .ok (.dup, 1) := by decide +kernel
theorem dX4_init_63 : decode cX4_init 63 = .ok (.ldc 37, 2) := by decide +kernel
theorem dX4_init_65 : decode cX4_init 65 = .ok (.invokespecial 39, 3) := by decide +kernel
theorem dX4_init_68 : decode cX4_init 68 = .ok (.astore_n 2, 1) := by decide +kernel
theorem dX4_init_69 : decode cX4_init 69 = .ok (.aload_n 2, 1) := by decide +kernel
theorem dX4_init_70 : decode cX4_init 70 = .ok (.aload_n 0, 1) := by decide +kernel
theorem dX4_init_71 : decode cX4_init 71 = .ok (.getfield 26, 3) := by decide +kernel
theorem dX4_init_74 : decode cX4_init 74 = .ok (.invokevirtual 42, 3) := by decide +kernel
theorem dX4_init_77 : decode cX4_init 77 = .ok (.ldc 46, 2) := by decide +kernel
theorem dX4_init_79 : decode cX4_init 79 = .ok (.invokevirtual 48, 3) := by decide +kernel
theorem dX4_init_82 : decode cX4_init 82 = .ok (.aload_n 1, 1) := by decide +kernel
theorem dX4_init_83 : decode cX4_init 83 = .ok (.bipush 51, 2) := by decide +kernel
theorem dX4_init_85 : decode cX4_init 85 = .ok (.invokevirtual 16, 3) := by decide +kernel
theorem dX4_init_88 : decode cX4_init 88 = .ok (.invokevirtual 42, 3) := by decide +kernel
theorem dX4_init_91 : decode cX4_init 91 = .ok (.ldc 51, 2) := by decide +kernel
theorem dX4_init_93 : decode cX4_init 93 = .ok (.invokevirtual 48, 3) := by decide +kernel
theorem dX4_init_96 : decode cX4_init 96 = .ok (.pop, 1) := by decide +kernel
theorem dX4_init_97 : decode cX4_init 97 = .ok (.iconst 1, 1) := by decide +kernel
theorem dX4_init_98 : decode cX4_init 98 = .ok (.aload_n 1, 1) := by decide +kernel
theorem dX4_init_99 : decode cX4_init 99 = .ok (.iconst 4, 1) := by decide +kernel
theorem dX4_init_100 : decode cX4_init 100 = .ok (.invokevirtual 16, 3) := by decide +kernel
theorem dX4_init_103 : decode cX4_init 103 = .ok (.iadd, 1) := by decide +kernel
theorem dX4_init_104 : decode cX4_init 104 = .ok (.istore_n 3, 1) := by decide +kernel
theorem dX4_init_105 : decode cX4_init 105 = .ok (.iload_n 3, 1) := by decide +kernel
theorem dX4_init_106 : decode cX4_init 106 = .ok (.ifCond .le 26, 3) := by decide +kernel
theorem dX4_init_109 : decode cX4_init 109 = .ok (.aload_n 2, 1) := by decide +kernel
theorem dX4_init_110 : decode cX4_init 110 = .ok (.ldc 53, 2) := by decide +kernel
theorem dX4_init_112 : decode cX4_init 112 = .ok (.invokevirtual 48, 3) := by decide +kernel
theorem dX4_init_115 : decode cX4_init 115 = .ok (.aload_n 1, 1) := by decide +kernel
theorem dX4_init_116 : decode cX4_init 116 = .ok (.sipush 160, 3) := by decide +kernel
theorem dX4_init_119 : decode cX4_init 119 = .ok (.invokevirtual 16, 3) := by decide +kernel
theorem dX4_init_122 : decode cX4_init 122 = .ok (.invokevirtual 42, 3) := by decide +kernel
theorem dX4_init_125 : decode cX4_init 125 = .ok (.pop, 1) := by decide +kernel
theorem dX4_init_126 : decode cX4_init 126 = .ok (.iinc 3 (-1), 3) := by decide +kernel
theorem dX4_init_129 : decode cX4_init 129 = .ok (.goto (-24), 3) := by decide +kernel
theorem dX4_init_132 : decode cX4_init 132 = .ok (.aload_n 2, 1) := by decide +kernel
theorem dX4_init_133 : decode cX4_init 133 = .ok (.ldc 55, 2) := by decide +kernel
theorem dX4_init_135 : decode cX4_init 135 = .ok (.invokevirtual 48, 3) := by decide +kernel
theorem dX4_init_138 : decode cX4_init 138 = .ok (.pop, 1) := by decide +kernel
theorem dX4_init_139 : decode cX4_init 139 = .ok (.aload_n 1, 1) := by decide +kernel
theorem dX4_init_140 : decode cX4_init 140 = .ok (.bipush 8, 2) := by decide +kernel
theorem dX4_init_142 : decode cX4_init 142 = .ok (.invokevirtual 16, 3) := by decide +kernel
theorem dX4_init_145 : decode cX4_init 145 = .ok (.istore_n 3, 1) := by decide +kernel
theorem dX4_init_146 : decode cX4_init 146 = .ok (.iload_n 3, 1) := by decide +kernel
theorem dX4_init_147 : decode cX4_init 147 = .ok (.ifCond .lt 26, 3) := by decide +kernel
theorem dX4_init_150 : decode cX4_init 150 = .ok (.aload_n 2, 1) := by decide +kernel
theorem dX4_init_151 : decode cX4_init 151 = .ok (.ldc 53, 2) := by decide +kernel
theorem dX4_init_153 : decode cX4_init 153 = .ok (.invokevirtual 48, 3) := by decide +kernel
theorem dX4_init_156 : decode cX4_init 156 = .ok (.aload_n 1, 1) := by decide +kernel
theorem dX4_init_157 : decode cX4_init 157 = .ok (.sipush 201, 3) := by decide +kernel
theorem dX4_init_160 : decode cX4_init 160 = .ok (.invokevirtual 16, 3) := by decide +kernel
theorem dX4_init_163 : decode cX4_init 163 = .ok (.invokevirtual 42, 3) := by decide +kernel
theorem dX4_init_166 : decode cX4_init 166 = .ok (.pop, 1) := by decide +kernel
theorem dX4_init_167 : decode cX4_init 167 = .ok (.iinc 3 (-1), 3) := by decide +kernel
theorem dX4_init_170 : decode cX4_init 170 = .ok (.goto (-24), 3) := by decide +kernel
theorem dX4_init_173 : decode cX4_init 173 = .ok (.aload_n 2, 1) := by decide +kernel
theorem dX4_init_174 : decode cX4_init 174 = .ok (.ldc 57, 2) := by decide +kernel
theorem dX4_init_176 : decode cX4_init 176 = .ok (.invokevirtual 48, 3) := by decide +kernel
theorem dX4_init_179 : decode cX4_init 179 = .ok (.pop, 1) := by decide +kernel
theorem dX4_init_180 : decode cX4_init 180 = .ok (.iconst 0, 1) := by decide +kernel
theorem dX4_init_181 : decode cX4_init 181 = .ok (.istore_n 3, 1) := by decide +kernel
theorem dX4_init_182 : decode cX4_init 182 = .ok (.iload_n 3, 1) := by decide +kernel
theorem dX4_init_183 : decode cX4_init 183 = .ok (.aload_n 0, 1) := by decide +kernel
theorem dX4_init_184 : decode cX4_init 184 = .ok (.getfield 22, 3) := by decide +kernel
theorem dX4_init_187 : decode cX4_init 187 = .ok (.if_icmp .ge 46, 3) := by decide +kernel
theorem dX4_init_190 : decode cX4_init 190 = .ok (.aload_n 2, 1) := by decide +kernel
theorem dX4_init_191 : decode cX4_init 191 = .ok (.ldc 59, 2) := by decide +kernel
theorem dX4_init_193 : decode cX4_init 193 = .ok (.invokevirtual 48, 3) := by decide +kernel
theorem dX4_init_196 : decode cX4_init 196 = .ok (.aload_n 1, 1) := by decide +kernel
theorem dX4_init_197 : decode cX4_init 197 = .ok (.sipush 400, 3) := by decide +kernel
theorem dX4_init_200 : decode cX4_init 200 = .ok (.invokevirtual 16, 3) := by decide +kernel
theorem dX4_init_203 : decode cX4_init 203 = .ok (.invokevirtual 42, 3) := by decide +kernel
theorem dX4_init_206 : decode cX4_init 206 = .ok (.ldc 53, 2) := by decide +kernel
theorem dX4_init_208 : decode cX4_init 208 = .ok (.invokevirtual 48, 3) := by decide +kernel
theorem dX4_init_211 : decode cX4_init 211 = .ok (.aload_n 1, 1) := by decide +kernel
theorem dX4_init_212 : decode cX4_init 212 = .ok (.sipush 200, 3) := by decide +kernel
theorem dX4_init_215 : decode cX4_init 215 = .ok (.invokevirtual 16, 3) := by decide +kernel
theorem dX4_init_218 : decode cX4_init 218 = .ok (.invokevirtual 42, 3) := by decide +kernel
theorem dX4_init_221 : decode cX4_init 221 = .ok (.ldc 57, 2) := by decide +kernel
theorem dX4_init_223 : decode cX4_init 223 = .ok (.invokevirtual 48, 3) := by decide +kernel
theorem dX4_init_226 : decode cX4_init 226 = .ok (.pop, 1) := by decide +kernel
theorem dX4_init_227 : decode cX4_init 227 = .ok (.iinc 3 1, 3) := by decide +kernel
theorem dX4_init_230 : decode cX4_init 230 = .ok (.goto (-48), 3) := by decide +kernel
theorem dX4_init_233 : decode cX4_init 233 = .ok (.iconst 1, 1) := by decide +kernel
theorem dX4_init_234 : decode cX4_init 234 = .ok (.aload_n 1, 1) := by decide +kernel
theorem dX4_init_235 : decode cX4_init 235 = .ok (.bipush 9, 2) := by decide +kernel
theorem dX4_init_237 : decode cX4_init 237 = .ok (.invokevirtual 16, 3) := by decide +kernel
theorem dX4_init_240 : decode cX4_init 240 = .ok (.iadd, 1) := by decide +kernel
theorem dX4_init_241 : decode cX4_init 241 = .ok (.istore_n 3, 1) := by decide +kernel
theorem dX4_init_242 : decode cX4_init 242 = .ok (.iconst 0, 1) := by decide +kernel
theorem dX4_init_243 : decode cX4_init 243 = .ok (.istore 4, 2) := by decide +kernel
theorem dX4_init_245 : decode cX4_init 245 = .ok (.iload 4, 2) := by decide +kernel
theorem dX4_init_247 : decode cX4_init 247 = .ok (.aload_n 0, 1) := by decide +kernel
theorem dX4_init_248 : decode cX4_init 248 = .ok (.getfield 29, 3) := by decide +kernel
theorem dX4_init_251 : decode cX4_init 251 = .ok (.if_icmp .ge 161, 3) := by decide +kernel
theorem dX4_init_254 : decode cX4_init 254 = .ok (.aload_n 1, 1) := by decide +kernel
theorem dX4_init_255 : decode cX4_init 255 = .ok (.aload_n 0, 1) := by decide +kernel
theorem dX4_init_256 : decode cX4_init 256 = .ok (.getfield 22, 3) := by decide +kernel
theorem dX4_init_259 : decode cX4_init 259 = .ok (.invokevirtual 16, 3) := by decide +kernel
theorem dX4_init_262 : decode cX4_init 262 = .ok (.istore 5, 2) := by decide +kernel
theorem dX4_init_264 : decode cX4_init 264 = .ok (.aload_n 2, 1) := by decide +kernel
theorem dX4_init_265 : decode cX4_init 265 = .ok (.ldc 61, 2) := by decide +kernel
theorem dX4_init_267 : decode cX4_init 267 = .ok (.invokevirtual 48, 3) := by decide +kernel
theorem dX4_init_270 : decode cX4_init 270 = .ok (.aload_n 1, 1) := by decide +kernel
theorem dX4_init_271 : decode cX4_init 271 = .ok (.aload_n 0, 1) := by decide +kernel
theorem dX4_init_272 : decode cX4_init 272 = .ok (.getfield 26, 3) := by decide +kernel
theorem dX4_init_275 : decode cX4_init 275 = .ok (.invokevirtual 16, 3) := by decide +kernel
theorem dX4_init_278 : decode cX4_init 278 = .ok (.invokevirtual 42, 3) := by decide +kernel
theorem dX4_init_281 : decode cX4_init 281 = .ok (.ldc 53, 2) := by decide +kernel
theorem dX4_init_283 : decode cX4_init 283 = .ok (.invokevirtual 48, 3) := by decide +kernel
theorem dX4_init_286 : decode cX4_init 286 = .ok (.iload 5, 2) := by decide +kernel
theorem dX4_init_288 : decode cX4_init 288 = .ok (.invokevirtual 42, 3) := by decide +kernel
theorem dX4_init_291 : decode cX4_init 291 = .ok (.ldc 53, 2) := by decide +kernel
theorem dX4_init_293 : decode cX4_init 293 = .ok (.invokevirtual 48, 3) := by decide +kernel
theorem dX4_init_296 : decode cX4_init 296 = .ok (.iconst 1, 1) := by decide +kernel
theorem dX4_init_297 : decode cX4_init 297 = .ok (.iload 4, 2) := by decide +kernel
theorem dX4_init_299 : decode cX4_init 299 = .ok (.bipush 11, 2) := by decide +kernel
theorem dX4_init_301 : decode cX4_init 301 = .ok (.imul, 1) := by decide +kernel
theorem dX4_init_302 : decode cX4_init 302 = .ok (.iload_n 3, 1) := by decide +kernel
theorem dX4_init_303 : decode cX4_init 303 = .ok (.iadd, 1) := by decide +kernel
theorem dX4_init_304 : decode cX4_init 304 = .ok (.bipush 97, 2) := by decide +kernel
theorem dX4_init_306 : decode cX4_init 306 = .ok (.irem, 1) := by decide +kernel
theorem dX4_init_307 : decode cX4_init 307 = .ok (.iadd, 1) := by decide +kernel
theorem dX4_init_308 : decode cX4_init 308 = .ok (.invokevirtual 42, 3) := by decide +kernel
theorem dX4_init_311 : decode cX4_init 311 = .ok (.ldc 53, 2) := by decide +kernel
theorem dX4_init_313 : decode cX4_init 313 = .ok (.invokevirtual 48, 3) := by decide +kernel
theorem dX4_init_316 : decode cX4_init 316 = .ok (.iconst 1, 1) := by decide +kernel
theorem dX4_init_317 : decode cX4_init 317 = .ok (.aload_n 1, 1) := by decide +kernel
theorem dX4_init_318 : decode cX4_init 318 = .ok (.sipush 300, 3) := by decide +kernel
theorem dX4_init_321 : decode cX4_init 321 = .ok (.invokevirtual 16, 3) := by decide +kernel
theorem dX4_init_324 : decode cX4_init 324 = .ok (.iadd, 1) := by decide +kernel
theorem dX4_init_325 : decode cX4_init 325 = .ok (.invokevirtual 42, 3) := by decide +kernel
theorem dX4_init_328 : decode cX4_init 328 = .ok (.pop, 1) := by decide +kernel
theorem dX4_init_329 : decode cX4_init 329 = .ok (.aload_n 1, 1) := by decide +kernel
theorem dX4_init_330 : decode cX4_init 330 = .ok (.iconst 2, 1) := by decide +kernel
theorem dX4_init_331 : decode cX4_init 331 = .ok (.invokevirtual 16, 3) := by decide +kernel
theorem dX4_init_334 : decode cX4_init 334 = .ok (.ifCond .ne 41, 3) := by decide +kernel
theorem dX4_init_337 : decode cX4_init 337 = .ok (.aload_n 2, 1) := by decide +kernel
theorem dX4_init_338 : decode cX4_init 338 = .ok (.ldc 63, 2) := by decide +kernel
theorem dX4_init_340 : decode cX4_init 340 = .ok (.invokevirtual 48, 3) := by decide +kernel
theorem dX4_init_343 : decode cX4_init 343 = .ok (.aload_n 1, 1) := by decide +kernel
theorem dX4_init_344 : decode cX4_init 344 = .ok (.bipush 91, 2) := by decide +kernel
theorem dX4_init_346 : decode cX4_init 346 = .ok (.invokevirtual 16, 3) := by decide +kernel
theorem dX4_init_349 : decode cX4_init 349 = .ok (.invokevirtual 42, 3) := by decide +kernel
theorem dX4_init_352 : decode cX4_init 352 = .ok (.ldc 53, 2) := by decide +kernel
theorem dX4_init_354 : decode cX4_init 354 = .ok (.invokevirtual 48, 3) := by decide +kernel
theorem dX4_init_357 : decode cX4_init 357 = .ok (.iload 5, 2) := by decide +kernel
theorem dX4_init_359 : decode cX4_init 359 = .ok (.aload_n 1, 1) := by decide +kernel
theorem dX4_init_360 : decode cX4_init 360 = .ok (.aload_n 0, 1) := by decide +kernel
theorem dX4_init_361 : decode cX4_init 361 = .ok (.getfield 22, 3) := by decide +kernel
theorem dX4_init_364 : decode cX4_init 364 = .ok (.iload 5, 2) := by decide +kernel
theorem dX4_init_366 : decode cX4_init 366 = .ok (.isub, 1) := by decide +kernel
theorem dX4_init_367 : decode cX4_init 367 = .ok (.invokevirtual 16, 3) := by decide +kernel
theorem dX4_init_370 : decode cX4_init 370 = .ok (.iadd, 1) := by decide +kernel
theorem dX4_init_371 : decode cX4_init 371 = .ok (.invokevirtual 42, 3) := by decide +kernel
theorem dX4_init_374 : decode cX4_init 374 = .ok (.pop, 1) := by decide +kernel
theorem dX4_init_375 : decode cX4_init 375 = .ok (.aload_n 1, 1) := by decide +kernel
theorem dX4_init_376 : decode cX4_init 376 = .ok (.iconst 2, 1) := by decide +kernel
theorem dX4_init_377 : decode cX4_init 377 = .ok (.invokevirtual 16, 3) := by decide +kernel
theorem dX4_init_380 : decode cX4_init 380 = .ok (.ifCond .ne 19, 3) := by decide +kernel
theorem dX4_init_383 : decode cX4_init 383 = .ok (.aload_n 2, 1) := by decide +kernel
theorem dX4_init_384 : decode cX4_init 384 = .ok (.ldc 65, 2) := by decide +kernel
theorem dX4_init_386 : decode cX4_init 386 = .ok (.invokevirtual 48, 3) := by decide +kernel
theorem dX4_init_389 : decode cX4_init 389 = .ok (.aload_n 1, 1) := by decide +kernel
theorem dX4_init_390 : decode cX4_init 390 = .ok (.bipush 101, 2) := by decide +kernel
theorem dX4_init_392 : decode cX4_init 392 = .ok (.invokevirtual 16, 3) := by decide +kernel
theorem dX4_init_395 : decode cX4_init 395 = .ok (.invokevirtual 42, 3) := by decide +kernel
theorem dX4_init_398 : decode cX4_init 398 = .ok (.pop, 1) := by decide +kernel
theorem dX4_init_399 : decode cX4_init 399 = .ok (.aload_n 2, 1) := by decide +kernel
theorem dX4_init_400 : decode cX4_init 400 = .ok (.ldc 57, 2) := by decide +kernel
theorem dX4_init_402 : decode cX4_init 402 = .ok (.invokevirtual 48, 3) := by decide +kernel
theorem dX4_init_405 : decode cX4_init 405 = .ok (.pop, 1) := by decide +kernel
theorem dX4_init_406 : decode cX4_init 406 = .ok (.iinc 4 1, 3) := by decide +kernel
theorem dX4_init_409 : decode cX4_init 409 = .ok (.goto (-164), 3) := by decide +kernel
theorem dX4_init_412 : decode cX4_init 412 = .ok (.iconst 0, 1) := by decide +kernel
theorem dX4_init_413 : decode cX4_init 413 = .ok (.istore 4, 2) := by decide +kernel
theorem dX4_init_415 : decode cX4_init 415 = .ok (.iload 4, 2) := by decide +kernel
theorem dX4_init_417 : decode cX4_init 417 = .ok (.aload_n 0, 1) := by decide +kernel
theorem dX4_init_418 : decode cX4_init 418 = .ok (.getfield 32, 3) := by decide +kernel
theorem dX4_init_421 : decode cX4_init 421 = .ok (.if_icmp .ge 111, 3) := by decide +kernel
theorem dX4_init_424 : decode cX4_init 424 = .ok (.aload_n 2, 1) := by decide +kernel
theorem dX4_init_425 : decode cX4_init 425 = .ok (.ldc 67, 2) := by decide +kernel
theorem dX4_init_427 : decode cX4_init 427 = .ok (.invokevirtual 48, 3) := by decide +kernel
theorem dX4_init_430 : decode cX4_init 430 = .ok (.aload_n 1, 1) := by decide +kernel
theorem dX4_init_431 : decode cX4_init 431 = .ok (.aload_n 0, 1) := by decide +kernel
theorem dX4_init_432 : decode cX4_init 432 = .ok (.getfield 29, 3) := by decide +kernel
theorem dX4_init_435 : decode cX4_init 435 = .ok (.invokevirtual 16, 3) := by decide +kernel
theorem dX4_init_438 : decode cX4_init 438 = .ok (.invokevirtual 42, 3) := by decide +kernel
theorem dX4_init_441 : decode cX4_init 441 = .ok (.ldc 53, 2) := by decide +kernel
theorem dX4_init_443 : decode cX4_init 443 = .ok (.invokevirtual 48, 3) := by decide +kernel
theorem dX4_init_446 : decode cX4_init 446 = .ok (.aload_n 1, 1) := by decide +kernel
theorem dX4_init_447 : decode cX4_init 447 = .ok (.aload_n 0, 1) := by decide +kernel
theorem dX4_init_448 : decode cX4_init 448 = .ok (.getfield 26, 3) := by decide +kernel
theorem dX4_init_451 : decode cX4_init 451 = .ok (.invokevirtual 16, 3) := by decide +kernel
theorem dX4_init_454 : decode cX4_init 454 = .ok (.invokevirtual 42, 3) := by decide +kernel
theorem dX4_init_457 : decode cX4_init 457 = .ok (.ldc 53, 2) := by decide +kernel
theorem dX4_init_459 : decode cX4_init 459 = .ok (.invokevirtual 48, 3) := by decide +kernel
theorem dX4_init_462 : decode cX4_init 462 = .ok (.aload_n 1, 1) := by decide +kernel
theorem dX4_init_463 : decode cX4_init 463 = .ok (.aload_n 0, 1) := by decide +kernel
theorem dX4_init_464 : decode cX4_init 464 = .ok (.getfield 22, 3) := by decide +kernel
theorem dX4_init_467 : decode cX4_init 467 = .ok (.invokevirtual 16, 3) := by decide +kernel
theorem dX4_init_470 : decode cX4_init 470 = .ok (.invokevirtual 42, 3) := by decide +kernel
theorem dX4_init_473 : decode cX4_init 473 = .ok (.ldc 53, 2) := by decide +kernel
theorem dX4_init_475 : decode cX4_init 475 = .ok (.invokevirtual 48, 3) := by decide +kernel
theorem dX4_init_478 : decode cX4_init 478 = .ok (.iconst 1, 1) := by decide +kernel
theorem dX4_init_479 : decode cX4_init 479 = .ok (.aload_n 1, 1) := by decide +kernel
theorem dX4_init_480 : decode cX4_init 480 = .ok (.sipush 200, 3) := by decide +kernel
theorem dX4_init_483 : decode cX4_init 483 = .ok (.invokevirtual 16, 3) := by decide +kernel
theorem dX4_init_486 : decode cX4_init 486 = .ok (.iadd, 1) := by decide +kernel
theorem dX4_init_487 : decode cX4_init 487 = .ok (.invokevirtual 42, 3) := by decide +kernel
theorem dX4_init_490 : decode cX4_init 490 = .ok (.ldc 53, 2) := by decide +kernel
theorem dX4_init_492 : decode cX4_init 492 = .ok (.invokevirtual 48, 3) := by decide +kernel
theorem dX4_init_495 : decode cX4_init 495 = .ok (.aload_n 1, 1) := by decide +kernel
theorem dX4_init_496 : decode cX4_init 496 = .ok (.bipush 30, 2) := by decide +kernel
theorem dX4_init_498 : decode cX4_init 498 = .ok (.invokevirtual 16, 3) := by decide +kernel
theorem dX4_init_501 : decode cX4_init 501 = .ok (.invokevirtual 42, 3) := by decide +kernel
theorem dX4_init_504 : decode cX4_init 504 = .ok (.ldc 53, 2) := by decide +kernel
theorem dX4_init_506 : decode cX4_init 506 = .ok (.invokevirtual 48, 3) := by decide +kernel
theorem dX4_init_509 : decode cX4_init 509 = .ok (.iconst 1, 1) := by decide +kernel
theorem dX4_init_510 : decode cX4_init 510 = .ok (.aload_n 1, 1) := by decide +kernel
theorem dX4_init_511 : decode cX4_init 511 = .ok (.bipush 20, 2) := by decide +kernel
theorem dX4_init_513 : decode cX4_init 513 = .ok (.invokevirtual 16, 3) := by decide +kernel
theorem dX4_init_516 : decode cX4_init 516 = .ok (.iadd, 1) := by decide +kernel
theorem dX4_init_517 : decode cX4_init 517 = .ok (.invokevirtual 42, 3) := by decide +kernel
theorem dX4_init_520 : decode cX4_init 520 = .ok (.ldc 57, 2) := by decide +kernel
theorem dX4_init_522 : decode cX4_init 522 = .ok (.invokevirtual 48, 3) := by decide +kernel
theorem dX4_init_525 : decode cX4_init 525 = .ok (.pop, 1) := by decide +kernel
theorem dX4_init_526 : decode cX4_init 526 = .ok (.iinc 4 1, 3) := by decide +kernel
theorem dX4_init_529 : decode cX4_init 529 = .ok (.goto (-114), 3) := by decide +kernel
theorem dX4_init_532 : decode cX4_init 532 = .ok (.iconst 0, 1) := by decide +kernel
theorem dX4_init_533 : decode cX4_init 533 = .ok (.istore 4, 2) := by decide +kernel
theorem dX4_init_535 : decode cX4_init 535 = .ok (.iload 4, 2) := by decide +kernel
theorem dX4_init_537 : decode cX4_init 537 = .ok (.aload_n 0, 1) := by decide +kernel
theorem dX4_init_538 : decode cX4_init 538 = .ok (.getfield 29, 3) := by decide +kernel
theorem dX4_init_541 : decode cX4_init 541 = .ok (.if_icmp .ge 131, 3) := by decide +kernel
theorem dX4_init_544 : decode cX4_init 544 = .ok (.iload 4, 2) := by decide +kernel
theorem dX4_init_546 : decode cX4_init 546 = .ok (.bipush 6, 2) := by decide +kernel
theorem dX4_init_548 : decode cX4_init 548 = .ok (.if_icmp .ge 124, 3) := by decide +kernel
theorem dX4_init_551 : decode cX4_init 551 = .ok (.aload_n 1, 1) := by decide +kernel
theorem dX4_init_552 : decode cX4_init 552 = .ok (.iconst 3, 1) := by decide +kernel
theorem dX4_init_553 : decode cX4_init 553 = .ok (.invokevirtual 16, 3) := by decide +kernel
theorem dX4_init_556 : decode cX4_init 556 = .ok (.ifCond .le 6, 3) := by decide +kernel
theorem dX4_init_559 : decode cX4_init 559 = .ok (.goto 107, 3) := by decide +kernel
theorem dX4_init_562 : decode cX4_init 562 = .ok (.aload_n 0, 1) := by decide +kernel
theorem dX4_init_563 : decode cX4_init 563 = .ok (.dup, 1) := by decide +kernel
theorem dX4_init_564 : decode cX4_init 564 = .ok (.getfield 69, 3) := by decide +kernel
theorem dX4_init_567 : decode cX4_init 567 = .ok (.iconst 1, 1) := by decide +kernel
theorem dX4_init_568 : decode cX4_init 568 = .ok (.iadd, 1) := by decide +kernel
theorem dX4_init_569 : decode cX4_init 569 = .ok (.putfield 69, 3) := by decide +kernel
theorem dX4_init_572 : decode cX4_init 572 = .ok (.aload_n 2, 1) := by decide +kernel
theorem dX4_init_573 : decode cX4_init 573 = .ok (.ldc 72, 2) := by decide +kernel
theorem dX4_init_575 : decode cX4_init 575 = .ok (.invokevirtual 48, 3) := by decide +kernel
theorem dX4_init_578 : decode cX4_init 578 = .ok (.iload 4, 2) := by decide +kernel
theorem dX4_init_580 : decode cX4_init 580 = .ok (.invokevirtual 42, 3) := by decide +kernel
theorem dX4_init_583 : decode cX4_init 583 = .ok (.ldc 53, 2) := by decide +kernel
theorem dX4_init_585 : decode cX4_init 585 = .ok (.invokevirtual 48, 3) := by decide +kernel
theorem dX4_init_588 : decode cX4_init 588 = .ok (.aload_n 1, 1) := by decide +kernel
theorem dX4_init_589 : decode cX4_init 589 = .ok (.aload_n 0, 1) := by decide +kernel
theorem dX4_init_590 : decode cX4_init 590 = .ok (.getfield 26, 3) := by decide +kernel
theorem dX4_init_593 : decode cX4_init 593 = .ok (.invokevirtual 16, 3) := by decide +kernel
theorem dX4_init_596 : decode cX4_init 596 = .ok (.invokevirtual 42, 3) := by decide +kernel
theorem dX4_init_599 : decode cX4_init 599 = .ok (.ldc 53, 2) := by decide +kernel
theorem dX4_init_601 : decode cX4_init 601 = .ok (.invokevirtual 48, 3) := by decide +kernel
theorem dX4_init_604 : decode cX4_init 604 = .ok (.aload_n 1, 1) := by decide +kernel
theorem dX4_init_605 : decode cX4_init 605 = .ok (.aload_n 0, 1) := by decide +kernel
theorem dX4_init_606 : decode cX4_init 606 = .ok (.getfield 22, 3) := by decide +kernel
theorem dX4_init_609 : decode cX4_init 609 = .ok (.invokevirtual 16, 3) := by decide +kernel
theorem dX4_init_612 : decode cX4_init 612 = .ok (.invokevirtual 42, 3) := by decide +kernel
theorem dX4_init_615 : decode cX4_init 615 = .ok (.ldc 53, 2) := by decide +kernel
theorem dX4_init_617 : decode cX4_init 617 = .ok (.invokevirtual 48, 3) := by decide +kernel
theorem dX4_init_620 : decode cX4_init 620 = .ok (.iconst 1, 1) := by decide +kernel
theorem dX4_init_621 : decode cX4_init 621 = .ok (.aload_n 1, 1) := by decide +kernel
theorem dX4_init_622 : decode cX4_init 622 = .ok (.sipush 150, 3) := by decide +kernel
theorem dX4_init_625 : decode cX4_init 625 = .ok (.invokevirtual 16, 3) := by decide +kernel
theorem dX4_init_628 : decode cX4_init 628 = .ok (.iadd, 1) := by decide +kernel
theorem dX4_init_629 : decode cX4_init 629 = .ok (.invokevirtual 42, 3) := by decide +kernel
theorem dX4_init_632 : decode cX4_init 632 = .ok (.ldc 53, 2) := by decide +kernel
theorem dX4_init_634 : decode cX4_init 634 = .ok (.invokevirtual 48, 3) := by decide +kernel
theorem dX4_init_637 : decode cX4_init 637 = .ok (.aload_n 1, 1) := by decide +kernel
theorem dX4_init_638 : decode cX4_init 638 = .ok (.bipush 99, 2) := by decide +kernel
theorem dX4_init_640 : decode cX4_init 640 = .ok (.invokevirtual 16, 3) := by decide +kernel
theorem dX4_init_643 : decode cX4_init 643 = .ok (.invokevirtual 42, 3) := by decide +kernel
theorem dX4_init_646 : decode cX4_init 646 = .ok (.ldc 53, 2) := by decide +kernel
theorem dX4_init_648 : decode cX4_init 648 = .ok (.invokevirtual 48, 3) := by decide +kernel
theorem dX4_init_651 : decode cX4_init 651 = .ok (.aload_n 1, 1) := by decide +kernel
theorem dX4_init_652 : decode cX4_init 652 = .ok (.bipush 40, 2) := by decide +kernel
theorem dX4_init_654 : decode cX4_init 654 = .ok (.invokevirtual 16, 3) := by decide +kernel
theorem dX4_init_657 : decode cX4_init 657 = .ok (.invokevirtual 42, 3) := by decide +kernel
theorem dX4_init_660 : decode cX4_init 660 = .ok (.ldc 57, 2) := by decide +kernel
theorem dX4_init_662 : decode cX4_init 662 = .ok (.invokevirtual 48, 3) := by decide +kernel
theorem dX4_init_665 : decode cX4_init 665 = .ok (.pop, 1) := by decide +kernel
theorem dX4_init_666 : decode cX4_init 666 = .ok (.iinc 4 1, 3) := by decide +kernel
theorem dX4_init_669 : decode cX4_init 669 = .ok (.goto (-134), 3) := by decide +kernel
theorem dX4_init_672 : decode cX4_init 672 = .ok (.aload_n 2, 1) := by decide +kernel
theorem dX4_init_673 : decode cX4_init 673 = .ok (.invokevirtual 74, 3) := by decide +kernel
theorem dX4_init_676 : decode cX4_init 676 = .ok (.astore 4, 2) := by decide +kernel
theorem dX4_init_678 : decode cX4_init 678 = .ok (.iconst 0, 1) := by decide +kernel
theorem dX4_init_679 : decode cX4_init 679 = .ok (.istore 5, 2) := by decide +kernel
theorem dX4_init_681 : decode cX4_init 681 = .ok (.iload 5, 2) := by decide +kernel
theorem dX4_init_683 : decode cX4_init 683 = .ok (.aload 4, 2) := by decide +kernel
theorem dX4_init_685 : decode cX4_init 685 = .ok (.invokevirtual 78, 3) := by decide +kernel
theorem dX4_init_688 : decode cX4_init 688 = .ok (.if_icmp .ge 103, 3) := by decide +kernel
theorem dX4_init_691 : decode cX4_init 691 = .ok (.iconst 5, 1) := by decide +kernel
theorem dX4_init_692 : decode cX4_init 692 = .ok (.newarray .int, 2) := by decide +kernel
theorem dX4_init_694 : decode cX4_init 694 = .ok (.astore 6, 2) := by decide +kernel
theorem dX4_init_696 : decode cX4_init 696 = .ok (.iconst 0, 1) := by decide +kernel
theorem dX4_init_697 : decode cX4_init 697 = .ok (.istore 7, 2) := by decide +kernel
theorem dX4_init_699 : decode cX4_init 699 = .ok (.iload 7, 2) := by decide +kernel
theorem dX4_init_701 : decode cX4_init 701 = .ok (.bipush 20, 2) := by decide +kernel
theorem dX4_init_703 : decode cX4_init 703 = .ok (.if_icmp .ge 53, 3) := by decide +kernel
theorem dX4_init_706 : decode cX4_init 706 = .ok (.iload 5, 2) := by decide +kernel
theorem dX4_init_708 : decode cX4_init 708 = .ok (.iload 7, 2) := by decide +kernel
theorem dX4_init_710 : decode cX4_init 710 = .ok (.iadd, 1) := by decide +kernel
theorem dX4_init_711 : decode cX4_init 711 = .ok (.aload 4, 2) := by decide +kernel
theorem dX4_init_713 : decode cX4_init 713 = .ok (.invokevirtual 78, 3) := by decide +kernel
theorem dX4_init_716 : decode cX4_init 716 = .ok (.if_icmp .ge 40, 3) := by decide +kernel
theorem dX4_init_719 : decode cX4_init 719 = .ok (.aload 6, 2) := by decide +kernel
theorem dX4_init_721 : decode cX4_init 721 = .ok (.iload 7, 2) := by decide +kernel
theorem dX4_init_723 : decode cX4_init 723 = .ok (.iconst 4, 1) := by decide +kernel
theorem dX4_init_724 : decode cX4_init 724 = .ok (.idiv, 1) := by decide +kernel
theorem dX4_init_725 : decode cX4_init 725 = .ok (.dup2, 1) := by decide +kernel
theorem dX4_init_726 : decode cX4_init 726 = .ok (.iaload, 1) := by decide +kernel
theorem dX4_init_727 : decode cX4_init 727 = .ok (.aload 4, 2) := by decide +kernel
theorem dX4_init_729 : decode cX4_init 729 = .ok (.iload 5, 2) := by decide +kernel
theorem dX4_init_731 : decode cX4_init 731 = .ok (.iload 7, 2) := by decide +kernel
theorem dX4_init_733 : decode cX4_init 733 = .ok (.iadd, 1) := by decide +kernel
theorem dX4_init_734 : decode cX4_init 734 = .ok (.invokevirtual 84, 3) := by decide +kernel
theorem dX4_init_737 : decode cX4_init 737 = .ok (.bipush 24, 2) := by decide +kernel
theorem dX4_init_739 : decode cX4_init 739 = .ok (.bipush 8, 2) := by decide +kernel
theorem dX4_init_741 : decode cX4_init 741 = .ok (.iload 7, 2) := by decide +kernel
theorem dX4_init_743 : decode cX4_init 743 = .ok (.iconst 4, 1) := by decide +kernel
theorem dX4_init_744 : decode cX4_init 744 = .ok (.irem, 1) := by decide +kernel
theorem dX4_init_745 : decode cX4_init 745 = .ok (.imul, 1) := by decide +kernel
theorem dX4_init_746 : decode cX4_init 746 = .ok (.isub, 1) := by decide +kernel
theorem dX4_init_747 : decode cX4_init 747 = .ok (.ishl, 1) := by decide +kernel
theorem dX4_init_748 : decode cX4_init 748 = .ok (.ior, 1) := by decide +kernel
theorem dX4_init_749 : decode cX4_init 749 = .ok (.iastore, 1) := by decide +kernel
theorem dX4_init_750 : decode cX4_init 750 = .ok (.iinc 7 1, 3) := by decide +kernel
theorem dX4_init_753 : decode cX4_init 753 = .ok (.goto (-54), 3) := by decide +kernel
theorem dX4_init_756 : decode cX4_init 756 = .ok (.aload_n 0, 1) := by decide +kernel
theorem dX4_init_757 : decode cX4_init 757 = .ok (.getfield 10, 3) := by decide +kernel
theorem dX4_init_760 : decode cX4_init 760 = .ok (.aload 6, 2) := by decide +kernel
theorem dX4_init_762 : decode cX4_init 762 = .ok (.iconst 0, 1) := by decide +kernel
theorem dX4_init_763 : decode cX4_init 763 = .ok (.iaload, 1) := by decide +kernel
theorem dX4_init_764 : decode cX4_init 764 = .ok (.aload 6, 2) := by decide +kernel
theorem dX4_init_766 : decode cX4_init 766 = .ok (.iconst 1, 1) := by decide +kernel
theorem dX4_init_767 : decode cX4_init 767 = .ok (.iaload, 1) := by decide +kernel
theorem dX4_init_768 : decode cX4_init 768 = .ok (.aload 6, 2) := by decide +kernel
theorem dX4_init_770 : decode cX4_init 770 = .ok (.iconst 2, 1) := by decide +kernel
theorem dX4_init_771 : decode cX4_init 771 = .ok (.iaload, 1) := by decide +kernel
theorem dX4_init_772 : decode cX4_init 772 = .ok (.aload 6, 2) := by decide +kernel
theorem dX4_init_774 : decode cX4_init 774 = .ok (.iconst 3, 1) := by decide +kernel
theorem dX4_init_775 : decode cX4_init 775 = .ok (.iaload, 1) := by decide +kernel
theorem dX4_init_776 : decode cX4_init 776 = .ok (.aload 6, 2) := by decide +kernel
theorem dX4_init_778 : decode cX4_init 778 = .ok (.iconst 4, 1) := by decide +kernel
theorem dX4_init_779 : decode cX4_init 779 = .ok (.iaload, 1) := by decide +kernel
theorem dX4_init_780 : decode cX4_init 780 = .ok (.invokevirtual 88, 3) := by decide +kernel
theorem dX4_init_783 : decode cX4_init 783 = .ok (.istore 7, 2) := by decide +kernel
theorem dX4_init_785 : decode cX4_init 785 = .ok (.iinc 5 20, 3) := by decide +kernel
theorem dX4_init_788 : decode cX4_init 788 = .ok (.goto (-107), 3) := by decide +kernel
theorem dX4_init_791 : decode cX4_init 791 = .ok (.aload_n 0, 1) := by decide +kernel
theorem dX4_init_792 : decode cX4_init 792 = .ok (.aload_n 0, 1) := by decide +kernel
theorem dX4_init_793 : decode cX4_init 793 = .ok (.getfield 10, 3) := by decide +kernel
theorem dX4_init_796 : decode cX4_init 796 = .ok (.aload 4, 2) := by decide +kernel
theorem dX4_init_798 : decode cX4_init 798 = .ok (.invokevirtual 78, 3) := by decide +kernel
theorem dX4_init_801 : decode cX4_init 801 = .ok (.invokevirtual 91, 3) := by decide +kernel
theorem dX4_init_804 : decode cX4_init 804 = .ok (.ifCond .eq 61, 3) := by decide +kernel
theorem dX4_init_807 : decode cX4_init 807 = .ok (.aload_n 0, 1) := by decide +kernel
theorem dX4_init_808 : decode cX4_init 808 = .ok (.getfield 10, 3) := by decide +kernel
theorem dX4_init_811 : decode cX4_init 811 = .ok (.invokevirtual 95, 3) := by decide +kernel
theorem dX4_init_814 : decode cX4_init 814 = .ok (.aload_n 0, 1) := by decide +kernel
theorem dX4_init_815 : decode cX4_init 815 = .ok (.getfield 29, 3) := by decide +kernel
theorem dX4_init_818 : decode cX4_init 818 = .ok (.if_icmp .ne 47, 3) := by decide +kernel
theorem dX4_init_821 : decode cX4_init 821 = .ok (.aload_n 0, 1) := by decide +kernel
theorem dX4_init_822 : decode cX4_init 822 = .ok (.getfield 10, 3) := by decide +kernel
theorem dX4_init_825 : decode cX4_init 825 = .ok (.invokevirtual 98, 3) := by decide +kernel
theorem dX4_init_828 : decode cX4_init 828 = .ok (.ifCond .ne 37, 3) := by decide +kernel
theorem dX4_init_831 : decode cX4_init 831 = .ok (.aload_n 0, 1) := by decide +kernel
theorem dX4_init_832 : decode cX4_init 832 = .ok (.getfield 10, 3) := by decide +kernel
theorem dX4_init_835 : decode cX4_init 835 = .ok (.iconst 0, 1) := by decide +kernel
theorem dX4_init_836 : decode cX4_init 836 = .ok (.invokevirtual 101, 3) := by decide +kernel
theorem dX4_init_839 : decode cX4_init 839 = .ok (.aload_n 0, 1) := by decide +kernel
theorem dX4_init_840 : decode cX4_init 840 = .ok (.getfield 22, 3) := by decide +kernel
theorem dX4_init_843 : decode cX4_init 843 = .ok (.if_icmp .ne 22, 3) := by decide +kernel
theorem dX4_init_846 : decode cX4_init 846 = .ok (.aload_n 0, 1) := by decide +kernel
theorem dX4_init_847 : decode cX4_init 847 = .ok (.getfield 10, 3) := by decide +kernel
theorem dX4_init_850 : decode cX4_init 850 = .ok (.iconst 4, 1) := by decide +kernel
theorem dX4_init_851 : decode cX4_init 851 = .ok (.invokevirtual 101, 3) := by decide +kernel
theorem dX4_init_854 : decode cX4_init 854 = .ok (.aload_n 0, 1) := by decide +kernel
theorem dX4_init_855 : decode cX4_init 855 = .ok (.getfield 69, 3) := by decide +kernel
theorem dX4_init_858 : decode cX4_init 858 = .ok (.if_icmp .ne 7, 3) := by decide +kernel
theorem dX4_init_861 : decode cX4_init 861 = .ok (.iconst 1, 1) := by decide +kernel
theorem dX4_init_862 : decode cX4_init 862 = .ok (.goto 4, 3) := by decide +kernel
theorem dX4_init_865 : decode cX4_init 865 = .ok (.iconst 0, 1) := by decide +kernel
theorem dX4_init_866 : decode cX4_init 866 = .ok (.putfield 104, 3) := by decide +kernel
theorem dX4_init_869 : decode cX4_init 869 = .ok (.return_, 1) := by decide +kernel
