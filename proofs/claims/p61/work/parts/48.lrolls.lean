theorem dL_rolls_0 : decode cL_rolls 0 = .ok (.iload_n 2, 1) := by decide +kernel
theorem dL_rolls_1 : decode cL_rolls 1 = .ok (.iconst 5, 1) := by decide +kernel
theorem dL_rolls_2 : decode cL_rolls 2 = .ok (.if_icmp .ge 100, 3) := by decide +kernel
theorem dL_rolls_5 : decode cL_rolls 5 = .ok (.iload 4, 2) := by decide +kernel
theorem dL_rolls_7 : decode cL_rolls 7 = .ok (.aload_n 1, 1) := by decide +kernel
theorem dL_rolls_8 : decode cL_rolls 8 = .ok (.getfield 44, 3) := by decide +kernel
theorem dL_rolls_11 : decode cL_rolls 11 = .ok (.irem, 1) := by decide +kernel
theorem dL_rolls_12 : decode cL_rolls 12 = .ok (.istore 5, 2) := by decide +kernel
theorem dL_rolls_14 : decode cL_rolls 14 = .ok (.iload 4, 2) := by decide +kernel
theorem dL_rolls_16 : decode cL_rolls 16 = .ok (.bipush 12, 2) := by decide +kernel
theorem dL_rolls_18 : decode cL_rolls 18 = .ok (.idiv, 1) := by decide +kernel
theorem dL_rolls_19 : decode cL_rolls 19 = .ok (.aload_n 1, 1) := by decide +kernel
theorem dL_rolls_20 : decode cL_rolls 20 = .ok (.getfield 51, 3) := by decide +kernel
theorem dL_rolls_23 : decode cL_rolls 23 = .ok (.irem, 1) := by decide +kernel
theorem dL_rolls_24 : decode cL_rolls 24 = .ok (.istore 6, 2) := by decide +kernel
theorem dL_rolls_26 : decode cL_rolls 26 = .ok (.iload_n 3, 1) := by decide +kernel
theorem dL_rolls_27 : decode cL_rolls 27 = .ok (.iload 5, 2) := by decide +kernel
theorem dL_rolls_29 : decode cL_rolls 29 = .ok (.iload 6, 2) := by decide +kernel
theorem dL_rolls_31 : decode cL_rolls 31 = .ok (.invokestatic 270, 3) := by decide +kernel
theorem dL_rolls_34 : decode cL_rolls 34 = .ok (.istore 7, 2) := by decide +kernel
theorem dL_rolls_36 : decode cL_rolls 36 = .ok (.aload_n 1, 1) := by decide +kernel
theorem dL_rolls_37 : decode cL_rolls 37 = .ok (.getfield 273, 3) := by decide +kernel
theorem dL_rolls_40 : decode cL_rolls 40 = .ok (.iload 7, 2) := by decide +kernel
theorem dL_rolls_42 : decode cL_rolls 42 = .ok (.baload, 1) := by decide +kernel
theorem dL_rolls_43 : decode cL_rolls 43 = .ok (.istore 8, 2) := by decide +kernel
theorem dL_rolls_45 : decode cL_rolls 45 = .ok (.aload_n 1, 1) := by decide +kernel
theorem dL_rolls_46 : decode cL_rolls 46 = .ok (.getfield 273, 3) := by decide +kernel
theorem dL_rolls_49 : decode cL_rolls 49 = .ok (.iload 7, 2) := by decide +kernel
theorem dL_rolls_51 : decode cL_rolls 51 = .ok (.iload 8, 2) := by decide +kernel
theorem dL_rolls_53 : decode cL_rolls 53 = .ok (.ifCond .ne 7, 3) := by decide +kernel
theorem dL_rolls_56 : decode cL_rolls 56 = .ok (.iconst 1, 1) := by decide +kernel
theorem dL_rolls_57 : decode cL_rolls 57 = .ok (.goto 4, 3) := by decide +kernel
theorem dL_rolls_60 : decode cL_rolls 60 = .ok (.iconst 0, 1) := by decide +kernel
theorem dL_rolls_61 : decode cL_rolls 61 = .ok (.bastore, 1) := by decide +kernel
theorem dL_rolls_62 : decode cL_rolls 62 = .ok (.iload 8, 2) := by decide +kernel
theorem dL_rolls_64 : decode cL_rolls 64 = .ok (.ifCond .eq 15, 3) := by decide +kernel
theorem dL_rolls_67 : decode cL_rolls 67 = .ok (.aload_n 0, 1) := by decide +kernel
theorem dL_rolls_68 : decode cL_rolls 68 = .ok (.iload_n 3, 1) := by decide +kernel
theorem dL_rolls_69 : decode cL_rolls 69 = .ok (.iload 5, 2) := by decide +kernel
theorem dL_rolls_71 : decode cL_rolls 71 = .ok (.iload 6, 2) := by decide +kernel
theorem dL_rolls_73 : decode cL_rolls 73 = .ok (.invokevirtual 277, 3) := by decide +kernel
theorem dL_rolls_76 : decode cL_rolls 76 = .ok (.goto 12, 3) := by decide +kernel
theorem dL_rolls_79 : decode cL_rolls 79 = .ok (.aload_n 0, 1) := by decide +kernel
theorem dL_rolls_80 : decode cL_rolls 80 = .ok (.iload_n 3, 1) := by decide +kernel
theorem dL_rolls_81 : decode cL_rolls 81 = .ok (.iload 5, 2) := by decide +kernel
theorem dL_rolls_83 : decode cL_rolls 83 = .ok (.iload 6, 2) := by decide +kernel
theorem dL_rolls_85 : decode cL_rolls 85 = .ok (.invokevirtual 280, 3) := by decide +kernel
theorem dL_rolls_88 : decode cL_rolls 88 = .ok (.aload_n 1, 1) := by decide +kernel
theorem dL_rolls_89 : decode cL_rolls 89 = .ok (.iload_n 3, 1) := by decide +kernel
theorem dL_rolls_90 : decode cL_rolls 90 = .ok (.invokevirtual 39, 3) := by decide +kernel
theorem dL_rolls_93 : decode cL_rolls 93 = .ok (.if_icmp .ne 7, 3) := by decide +kernel
theorem dL_rolls_96 : decode cL_rolls 96 = .ok (.iconst 1, 1) := by decide +kernel
theorem dL_rolls_97 : decode cL_rolls 97 = .ok (.goto 4, 3) := by decide +kernel
theorem dL_rolls_100 : decode cL_rolls 100 = .ok (.iconst 0, 1) := by decide +kernel
theorem dL_rolls_101 : decode cL_rolls 101 = .ok (.ireturn, 1) := by decide +kernel
theorem dL_rolls_102 : decode cL_rolls 102 = .ok (.aload_n 1, 1) := by decide +kernel
theorem dL_rolls_103 : decode cL_rolls 103 = .ok (.invokevirtual 250, 3) := by decide +kernel
theorem dL_rolls_106 : decode cL_rolls 106 = .ok (.astore 5, 2) := by decide +kernel
theorem dL_rolls_108 : decode cL_rolls 108 = .ok (.iload_n 2, 1) := by decide +kernel
theorem dL_rolls_109 : decode cL_rolls 109 = .ok (.iconst 5, 1) := by decide +kernel
theorem dL_rolls_110 : decode cL_rolls 110 = .ok (.if_icmp .ne 98, 3) := by decide +kernel
theorem dL_rolls_113 : decode cL_rolls 113 = .ok (.iload 4, 2) := by decide +kernel
theorem dL_rolls_115 : decode cL_rolls 115 = .ok (.bipush 64, 2) := by decide +kernel
theorem dL_rolls_117 : decode cL_rolls 117 = .ok (.irem, 1) := by decide +kernel
theorem dL_rolls_118 : decode cL_rolls 118 = .ok (.istore 6, 2) := by decide +kernel
theorem dL_rolls_120 : decode cL_rolls 120 = .ok (.iconst 0, 1) := by decide +kernel
theorem dL_rolls_121 : decode cL_rolls 121 = .ok (.istore 7, 2) := by decide +kernel
theorem dL_rolls_123 : decode cL_rolls 123 = .ok (.iload 7, 2) := by decide +kernel
theorem dL_rolls_125 : decode cL_rolls 125 = .ok (.aload_n 1, 1) := by decide +kernel
theorem dL_rolls_126 : decode cL_rolls 126 = .ok (.getfield 44, 3) := by decide +kernel
theorem dL_rolls_129 : decode cL_rolls 129 = .ok (.if_icmp .ge 58, 3) := by decide +kernel
theorem dL_rolls_132 : decode cL_rolls 132 = .ok (.iconst 0, 1) := by decide +kernel
theorem dL_rolls_133 : decode cL_rolls 133 = .ok (.istore 8, 2) := by decide +kernel
theorem dL_rolls_135 : decode cL_rolls 135 = .ok (.iload 8, 2) := by decide +kernel
theorem dL_rolls_137 : decode cL_rolls 137 = .ok (.aload_n 1, 1) := by decide +kernel
theorem dL_rolls_138 : decode cL_rolls 138 = .ok (.getfield 51, 3) := by decide +kernel
theorem dL_rolls_141 : decode cL_rolls 141 = .ok (.if_icmp .ge 40, 3) := by decide +kernel
theorem dL_rolls_144 : decode cL_rolls 144 = .ok (.aload_n 1, 1) := by decide +kernel
theorem dL_rolls_145 : decode cL_rolls 145 = .ok (.getfield 273, 3) := by decide +kernel
theorem dL_rolls_148 : decode cL_rolls 148 = .ok (.iload_n 3, 1) := by decide +kernel
theorem dL_rolls_149 : decode cL_rolls 149 = .ok (.iload 7, 2) := by decide +kernel
theorem dL_rolls_151 : decode cL_rolls 151 = .ok (.iload 8, 2) := by decide +kernel
theorem dL_rolls_153 : decode cL_rolls 153 = .ok (.iload 6, 2) := by decide +kernel
theorem dL_rolls_155 : decode cL_rolls 155 = .ok (.iadd, 1) := by decide +kernel
theorem dL_rolls_156 : decode cL_rolls 156 = .ok (.aload_n 1, 1) := by decide +kernel
theorem dL_rolls_157 : decode cL_rolls 157 = .ok (.getfield 51, 3) := by decide +kernel
theorem dL_rolls_160 : decode cL_rolls 160 = .ok (.irem, 1) := by decide +kernel
theorem dL_rolls_161 : decode cL_rolls 161 = .ok (.invokestatic 270, 3) := by decide +kernel
theorem dL_rolls_164 : decode cL_rolls 164 = .ok (.aload 5, 2) := by decide +kernel
theorem dL_rolls_166 : decode cL_rolls 166 = .ok (.iload_n 3, 1) := by decide +kernel
theorem dL_rolls_167 : decode cL_rolls 167 = .ok (.iload 7, 2) := by decide +kernel
theorem dL_rolls_169 : decode cL_rolls 169 = .ok (.iload 8, 2) := by decide +kernel
theorem dL_rolls_171 : decode cL_rolls 171 = .ok (.invokevirtual 54, 3) := by decide +kernel
theorem dL_rolls_174 : decode cL_rolls 174 = .ok (.bastore, 1) := by decide +kernel
theorem dL_rolls_175 : decode cL_rolls 175 = .ok (.iinc 8 1, 3) := by decide +kernel
theorem dL_rolls_178 : decode cL_rolls 178 = .ok (.goto (-43), 3) := by decide +kernel
theorem dL_rolls_181 : decode cL_rolls 181 = .ok (.iinc 7 1, 3) := by decide +kernel
theorem dL_rolls_184 : decode cL_rolls 184 = .ok (.goto (-61), 3) := by decide +kernel
theorem dL_rolls_187 : decode cL_rolls 187 = .ok (.aload_n 0, 1) := by decide +kernel
theorem dL_rolls_188 : decode cL_rolls 188 = .ok (.iload_n 3, 1) := by decide +kernel
theorem dL_rolls_189 : decode cL_rolls 189 = .ok (.iload 6, 2) := by decide +kernel
theorem dL_rolls_191 : decode cL_rolls 191 = .ok (.invokevirtual 283, 3) := by decide +kernel
theorem dL_rolls_194 : decode cL_rolls 194 = .ok (.aload_n 1, 1) := by decide +kernel
theorem dL_rolls_195 : decode cL_rolls 195 = .ok (.iload_n 3, 1) := by decide +kernel
theorem dL_rolls_196 : decode cL_rolls 196 = .ok (.invokevirtual 39, 3) := by decide +kernel
theorem dL_rolls_199 : decode cL_rolls 199 = .ok (.if_icmp .ne 7, 3) := by decide +kernel
theorem dL_rolls_202 : decode cL_rolls 202 = .ok (.iconst 1, 1) := by decide +kernel
theorem dL_rolls_203 : decode cL_rolls 203 = .ok (.goto 4, 3) := by decide +kernel
theorem dL_rolls_206 : decode cL_rolls 206 = .ok (.iconst 0, 1) := by decide +kernel
theorem dL_rolls_207 : decode cL_rolls 207 = .ok (.ireturn, 1) := by decide +kernel
theorem dL_rolls_208 : decode cL_rolls 208 = .ok (.iload_n 2, 1) := by decide +kernel
theorem dL_rolls_209 : decode cL_rolls 209 = .ok (.bipush 6, 2) := by decide +kernel
theorem dL_rolls_211 : decode cL_rolls 211 = .ok (.if_icmp .ne 194, 3) := by decide +kernel
theorem dL_rolls_214 : decode cL_rolls 214 = .ok (.iload 4, 2) := by decide +kernel
theorem dL_rolls_216 : decode cL_rolls 216 = .ok (.bipush 7, 2) := by decide +kernel
theorem dL_rolls_218 : decode cL_rolls 218 = .ok (.irem, 1) := by decide +kernel
theorem dL_rolls_219 : decode cL_rolls 219 = .ok (.iconst 3, 1) := by decide +kernel
theorem dL_rolls_220 : decode cL_rolls 220 = .ok (.isub, 1) := by decide +kernel
theorem dL_rolls_221 : decode cL_rolls 221 = .ok (.istore 6, 2) := by decide +kernel
theorem dL_rolls_223 : decode cL_rolls 223 = .ok (.iconst 0, 1) := by decide +kernel
theorem dL_rolls_224 : decode cL_rolls 224 = .ok (.istore 7, 2) := by decide +kernel
theorem dL_rolls_226 : decode cL_rolls 226 = .ok (.iload 7, 2) := by decide +kernel
theorem dL_rolls_228 : decode cL_rolls 228 = .ok (.aload_n 1, 1) := by decide +kernel
theorem dL_rolls_229 : decode cL_rolls 229 = .ok (.getfield 44, 3) := by decide +kernel
theorem dL_rolls_232 : decode cL_rolls 232 = .ok (.if_icmp .ge 62, 3) := by decide +kernel
theorem dL_rolls_235 : decode cL_rolls 235 = .ok (.iconst 0, 1) := by decide +kernel
theorem dL_rolls_236 : decode cL_rolls 236 = .ok (.istore 8, 2) := by decide +kernel
theorem dL_rolls_238 : decode cL_rolls 238 = .ok (.iload 8, 2) := by decide +kernel
theorem dL_rolls_240 : decode cL_rolls 240 = .ok (.aload_n 1, 1) := by decide +kernel
theorem dL_rolls_241 : decode cL_rolls 241 = .ok (.getfield 51, 3) := by decide +kernel
theorem dL_rolls_244 : decode cL_rolls 244 = .ok (.if_icmp .ge 44, 3) := by decide +kernel
theorem dL_rolls_247 : decode cL_rolls 247 = .ok (.aload 5, 2) := by decide +kernel
theorem dL_rolls_249 : decode cL_rolls 249 = .ok (.iload_n 3, 1) := by decide +kernel
theorem dL_rolls_250 : decode cL_rolls 250 = .ok (.iload 7, 2) := by decide +kernel
theorem dL_rolls_252 : decode cL_rolls 252 = .ok (.iload 8, 2) := by decide +kernel
theorem dL_rolls_254 : decode cL_rolls 254 = .ok (.invokevirtual 54, 3) := by decide +kernel
theorem dL_rolls_257 : decode cL_rolls 257 = .ok (.ifCond .eq 25, 3) := by decide +kernel
theorem dL_rolls_260 : decode cL_rolls 260 = .ok (.iload 7, 2) := by decide +kernel
theorem dL_rolls_262 : decode cL_rolls 262 = .ok (.iload 6, 2) := by decide +kernel
theorem dL_rolls_264 : decode cL_rolls 264 = .ok (.iadd, 1) := by decide +kernel
theorem dL_rolls_265 : decode cL_rolls 265 = .ok (.ifCond .lt 15, 3) := by decide +kernel
theorem dL_rolls_268 : decode cL_rolls 268 = .ok (.iload 7, 2) := by decide +kernel
theorem dL_rolls_270 : decode cL_rolls 270 = .ok (.iload 6, 2) := by decide +kernel
theorem dL_rolls_272 : decode cL_rolls 272 = .ok (.iadd, 1) := by decide +kernel
theorem dL_rolls_273 : decode cL_rolls 273 = .ok (.aload_n 1, 1) := by decide +kernel
theorem dL_rolls_274 : decode cL_rolls 274 = .ok (.getfield 44, 3) := by decide +kernel
theorem dL_rolls_277 : decode cL_rolls 277 = .ok (.if_icmp .lt 5, 3) := by decide +kernel
theorem dL_rolls_280 : decode cL_rolls 280 = .ok (.iconst (-1), 1) := by decide +kernel
theorem dL_rolls_281 : decode cL_rolls 281 = .ok (.ireturn, 1) := by decide +kernel
theorem dL_rolls_282 : decode cL_rolls 282 = .ok (.iinc 8 1, 3) := by decide +kernel
theorem dL_rolls_285 : decode cL_rolls 285 = .ok (.goto (-47), 3) := by decide +kernel
theorem dL_rolls_288 : decode cL_rolls 288 = .ok (.iinc 7 1, 3) := by decide +kernel
theorem dL_rolls_291 : decode cL_rolls 291 = .ok (.goto (-65), 3) := by decide +kernel
theorem dL_rolls_294 : decode cL_rolls 294 = .ok (.iconst 0, 1) := by decide +kernel
theorem dL_rolls_295 : decode cL_rolls 295 = .ok (.istore 7, 2) := by decide +kernel
theorem dL_rolls_297 : decode cL_rolls 297 = .ok (.iload 7, 2) := by decide +kernel
theorem dL_rolls_299 : decode cL_rolls 299 = .ok (.aload_n 1, 1) := by decide +kernel
theorem dL_rolls_300 : decode cL_rolls 300 = .ok (.getfield 44, 3) := by decide +kernel
theorem dL_rolls_303 : decode cL_rolls 303 = .ok (.if_icmp .ge 81, 3) := by decide +kernel
theorem dL_rolls_306 : decode cL_rolls 306 = .ok (.iconst 0, 1) := by decide +kernel
theorem dL_rolls_307 : decode cL_rolls 307 = .ok (.istore 8, 2) := by decide +kernel
theorem dL_rolls_309 : decode cL_rolls 309 = .ok (.iload 8, 2) := by decide +kernel
theorem dL_rolls_311 : decode cL_rolls 311 = .ok (.aload_n 1, 1) := by decide +kernel
theorem dL_rolls_312 : decode cL_rolls 312 = .ok (.getfield 51, 3) := by decide +kernel
theorem dL_rolls_315 : decode cL_rolls 315 = .ok (.if_icmp .ge 63, 3) := by decide +kernel
theorem dL_rolls_318 : decode cL_rolls 318 = .ok (.aload_n 1, 1) := by decide +kernel
theorem dL_rolls_319 : decode cL_rolls 319 = .ok (.getfield 273, 3) := by decide +kernel
theorem dL_rolls_322 : decode cL_rolls 322 = .ok (.iload_n 3, 1) := by decide +kernel
theorem dL_rolls_323 : decode cL_rolls 323 = .ok (.iload 7, 2) := by decide +kernel
theorem dL_rolls_325 : decode cL_rolls 325 = .ok (.iload 8, 2) := by decide +kernel
theorem dL_rolls_327 : decode cL_rolls 327 = .ok (.invokestatic 270, 3) := by decide +kernel
theorem dL_rolls_330 : decode cL_rolls 330 = .ok (.iload 7, 2) := by decide +kernel
theorem dL_rolls_332 : decode cL_rolls 332 = .ok (.iload 6, 2) := by decide +kernel
theorem dL_rolls_334 : decode cL_rolls 334 = .ok (.isub, 1) := by decide +kernel
theorem dL_rolls_335 : decode cL_rolls 335 = .ok (.ifCond .lt 35, 3) := by decide +kernel
theorem dL_rolls_338 : decode cL_rolls 338 = .ok (.iload 7, 2) := by decide +kernel
theorem dL_rolls_340 : decode cL_rolls 340 = .ok (.iload 6, 2) := by decide +kernel
theorem dL_rolls_342 : decode cL_rolls 342 = .ok (.isub, 1) := by decide +kernel
theorem dL_rolls_343 : decode cL_rolls 343 = .ok (.aload_n 1, 1) := by decide +kernel
theorem dL_rolls_344 : decode cL_rolls 344 = .ok (.getfield 44, 3) := by decide +kernel
theorem dL_rolls_347 : decode cL_rolls 347 = .ok (.if_icmp .ge 23, 3) := by decide +kernel
theorem dL_rolls_350 : decode cL_rolls 350 = .ok (.aload 5, 2) := by decide +kernel
theorem dL_rolls_352 : decode cL_rolls 352 = .ok (.iload_n 3, 1) := by decide +kernel
theorem dL_rolls_353 : decode cL_rolls 353 = .ok (.iload 7, 2) := by decide +kernel
theorem dL_rolls_355 : decode cL_rolls 355 = .ok (.iload 6, 2) := by decide +kernel
theorem dL_rolls_357 : decode cL_rolls 357 = .ok (.isub, 1) := by decide +kernel
theorem dL_rolls_358 : decode cL_rolls 358 = .ok (.iload 8, 2) := by decide +kernel
theorem dL_rolls_360 : decode cL_rolls 360 = .ok (.invokevirtual 54, 3) := by decide +kernel
theorem dL_rolls_363 : decode cL_rolls 363 = .ok (.ifCond .eq 7, 3) := by decide +kernel
theorem dL_rolls_366 : decode cL_rolls 366 = .ok (.iconst 1, 1) := by decide +kernel
theorem dL_rolls_367 : decode cL_rolls 367 = .ok (.goto 4, 3) := by decide +kernel
theorem dL_rolls_370 : decode cL_rolls 370 = .ok (.iconst 0, 1) := by decide +kernel
theorem dL_rolls_371 : decode cL_rolls 371 = .ok (.bastore, 1) := by decide +kernel
theorem dL_rolls_372 : decode cL_rolls 372 = .ok (.iinc 8 1, 3) := by decide +kernel
theorem dL_rolls_375 : decode cL_rolls 375 = .ok (.goto (-66), 3) := by decide +kernel
theorem dL_rolls_378 : decode cL_rolls 378 = .ok (.iinc 7 1, 3) := by decide +kernel
theorem dL_rolls_381 : decode cL_rolls 381 = .ok (.goto (-84), 3) := by decide +kernel
theorem dL_rolls_384 : decode cL_rolls 384 = .ok (.aload_n 0, 1) := by decide +kernel
theorem dL_rolls_385 : decode cL_rolls 385 = .ok (.iload_n 3, 1) := by decide +kernel
theorem dL_rolls_386 : decode cL_rolls 386 = .ok (.iload 6, 2) := by decide +kernel
theorem dL_rolls_388 : decode cL_rolls 388 = .ok (.invokevirtual 286, 3) := by decide +kernel
theorem dL_rolls_391 : decode cL_rolls 391 = .ok (.aload_n 1, 1) := by decide +kernel
theorem dL_rolls_392 : decode cL_rolls 392 = .ok (.iload_n 3, 1) := by decide +kernel
theorem dL_rolls_393 : decode cL_rolls 393 = .ok (.invokevirtual 39, 3) := by decide +kernel
theorem dL_rolls_396 : decode cL_rolls 396 = .ok (.if_icmp .ne 7, 3) := by decide +kernel
theorem dL_rolls_399 : decode cL_rolls 399 = .ok (.iconst 1, 1) := by decide +kernel
theorem dL_rolls_400 : decode cL_rolls 400 = .ok (.goto 4, 3) := by decide +kernel
theorem dL_rolls_403 : decode cL_rolls 403 = .ok (.iconst 0, 1) := by decide +kernel
theorem dL_rolls_404 : decode cL_rolls 404 = .ok (.ireturn, 1) := by decide +kernel
theorem dL_rolls_405 : decode cL_rolls 405 = .ok (.iload_n 2, 1) := by decide +kernel
theorem dL_rolls_406 : decode cL_rolls 406 = .ok (.bipush 7, 2) := by decide +kernel
theorem dL_rolls_408 : decode cL_rolls 408 = .ok (.if_icmp .ne 82, 3) := by decide +kernel
theorem dL_rolls_411 : decode cL_rolls 411 = .ok (.iload_n 3, 1) := by decide +kernel
theorem dL_rolls_412 : decode cL_rolls 412 = .ok (.iconst 1, 1) := by decide +kernel
theorem dL_rolls_413 : decode cL_rolls 413 = .ok (.iadd, 1) := by decide +kernel
theorem dL_rolls_414 : decode cL_rolls 414 = .ok (.iload 4, 2) := by decide +kernel
theorem dL_rolls_416 : decode cL_rolls 416 = .ok (.iconst 2, 1) := by decide +kernel
theorem dL_rolls_417 : decode cL_rolls 417 = .ok (.irem, 1) := by decide +kernel
theorem dL_rolls_418 : decode cL_rolls 418 = .ok (.iadd, 1) := by decide +kernel
theorem dL_rolls_419 : decode cL_rolls 419 = .ok (.iconst 3, 1) := by decide +kernel
theorem dL_rolls_420 : decode cL_rolls 420 = .ok (.irem, 1) := by decide +kernel
theorem dL_rolls_421 : decode cL_rolls 421 = .ok (.istore 6, 2) := by decide +kernel
theorem dL_rolls_423 : decode cL_rolls 423 = .ok (.iconst 0, 1) := by decide +kernel
theorem dL_rolls_424 : decode cL_rolls 424 = .ok (.istore 7, 2) := by decide +kernel
theorem dL_rolls_426 : decode cL_rolls 426 = .ok (.iload 7, 2) := by decide +kernel
theorem dL_rolls_428 : decode cL_rolls 428 = .ok (.sipush 768, 3) := by decide +kernel
theorem dL_rolls_431 : decode cL_rolls 431 = .ok (.if_icmp .ge 37, 3) := by decide +kernel
theorem dL_rolls_434 : decode cL_rolls 434 = .ok (.aload_n 1, 1) := by decide +kernel
theorem dL_rolls_435 : decode cL_rolls 435 = .ok (.getfield 273, 3) := by decide +kernel
theorem dL_rolls_438 : decode cL_rolls 438 = .ok (.sipush 768, 3) := by decide +kernel
theorem dL_rolls_441 : decode cL_rolls 441 = .ok (.iload 6, 2) := by decide +kernel
theorem dL_rolls_443 : decode cL_rolls 443 = .ok (.imul, 1) := by decide +kernel
theorem dL_rolls_444 : decode cL_rolls 444 = .ok (.iload 7, 2) := by decide +kernel
theorem dL_rolls_446 : decode cL_rolls 446 = .ok (.iadd, 1) := by decide +kernel
theorem dL_rolls_447 : decode cL_rolls 447 = .ok (.aload 5, 2) := by decide +kernel
theorem dL_rolls_449 : decode cL_rolls 449 = .ok (.getfield 273, 3) := by decide +kernel
theorem dL_rolls_452 : decode cL_rolls 452 = .ok (.sipush 768, 3) := by decide +kernel
theorem dL_rolls_455 : decode cL_rolls 455 = .ok (.iload_n 3, 1) := by decide +kernel
theorem dL_rolls_456 : decode cL_rolls 456 = .ok (.imul, 1) := by decide +kernel
theorem dL_rolls_457 : decode cL_rolls 457 = .ok (.iload 7, 2) := by decide +kernel
theorem dL_rolls_459 : decode cL_rolls 459 = .ok (.iadd, 1) := by decide +kernel
theorem dL_rolls_460 : decode cL_rolls 460 = .ok (.baload, 1) := by decide +kernel
theorem dL_rolls_461 : decode cL_rolls 461 = .ok (.bastore, 1) := by decide +kernel
theorem dL_rolls_462 : decode cL_rolls 462 = .ok (.iinc 7 1, 3) := by decide +kernel
theorem dL_rolls_465 : decode cL_rolls 465 = .ok (.goto (-39), 3) := by decide +kernel
theorem dL_rolls_468 : decode cL_rolls 468 = .ok (.aload_n 0, 1) := by decide +kernel
theorem dL_rolls_469 : decode cL_rolls 469 = .ok (.iload_n 3, 1) := by decide +kernel
theorem dL_rolls_470 : decode cL_rolls 470 = .ok (.iload 6, 2) := by decide +kernel
theorem dL_rolls_472 : decode cL_rolls 472 = .ok (.invokevirtual 289, 3) := by decide +kernel
theorem dL_rolls_475 : decode cL_rolls 475 = .ok (.aload_n 1, 1) := by decide +kernel
theorem dL_rolls_476 : decode cL_rolls 476 = .ok (.iload 6, 2) := by decide +kernel
theorem dL_rolls_478 : decode cL_rolls 478 = .ok (.invokevirtual 39, 3) := by decide +kernel
theorem dL_rolls_481 : decode cL_rolls 481 = .ok (.if_icmp .ne 7, 3) := by decide +kernel
theorem dL_rolls_484 : decode cL_rolls 484 = .ok (.iconst 1, 1) := by decide +kernel
theorem dL_rolls_485 : decode cL_rolls 485 = .ok (.goto 4, 3) := by decide +kernel
theorem dL_rolls_488 : decode cL_rolls 488 = .ok (.iconst 0, 1) := by decide +kernel
theorem dL_rolls_489 : decode cL_rolls 489 = .ok (.ireturn, 1) := by decide +kernel
theorem dL_rolls_490 : decode cL_rolls 490 = .ok (.aload_n 1, 1) := by decide +kernel
theorem dL_rolls_491 : decode cL_rolls 491 = .ok (.getfield 179, 3) := by decide +kernel
theorem dL_rolls_494 : decode cL_rolls 494 = .ok (.istore 6, 2) := by decide +kernel
theorem dL_rolls_496 : decode cL_rolls 496 = .ok (.aload_n 1, 1) := by decide +kernel
theorem dL_rolls_497 : decode cL_rolls 497 = .ok (.iload_n 3, 1) := by decide +kernel
theorem dL_rolls_498 : decode cL_rolls 498 = .ok (.putfield 179, 3) := by decide +kernel
theorem dL_rolls_501 : decode cL_rolls 501 = .ok (.aload_n 0, 1) := by decide +kernel
theorem dL_rolls_502 : decode cL_rolls 502 = .ok (.iload_n 3, 1) := by decide +kernel
theorem dL_rolls_503 : decode cL_rolls 503 = .ok (.invokevirtual 292, 3) := by decide +kernel
theorem dL_rolls_506 : decode cL_rolls 506 = .ok (.iload 6, 2) := by decide +kernel
theorem dL_rolls_508 : decode cL_rolls 508 = .ok (.if_icmp .ne 7, 3) := by decide +kernel
theorem dL_rolls_511 : decode cL_rolls 511 = .ok (.iconst 1, 1) := by decide +kernel
theorem dL_rolls_512 : decode cL_rolls 512 = .ok (.goto 4, 3) := by decide +kernel
theorem dL_rolls_515 : decode cL_rolls 515 = .ok (.iconst 0, 1) := by decide +kernel
theorem dL_rolls_516 : decode cL_rolls 516 = .ok (.ireturn, 1) := by decide +kernel
def fL_rolls_L426 (k : Nat) (c3 : Int32) (c6 : Int32) (K : Int32 → Mm → Option (Int32 × Mm)) : Nat → Int32 → Mm → Option (Int32 × Mm)
  | 0, _, _ => none
  | n + 1, v7, M => if (768 : Int32) ≤ v7 then K v7 M else if (((768 : Int32) * c3) + v7) < 0 ∨ 2304 ≤ (((768 : Int32) * c3) + v7).toNatClampNeg then none else if (((768 : Int32) * c6) + v7) < 0 ∨ 2304 ≤ (((768 : Int32) * c6) + v7).toNatClampNeg then none else fL_rolls_L426 k c3 c6 K n (v7 + (1 : Int32)) (putI M (20, k, 0) (((768 : Int32) * c6) + v7).toNatClampNeg (bz (M.1 (20, 50, 0) (((768 : Int32) * c3) + v7).toNatClampNeg)))
def fL_rolls_L238 (k : Nat) (c3 : Int32) (c6 : Int32) (c7 : Int32) (K : Int32 → Mm → Option (Int32 × Mm)) : Nat → Int32 → Mm → Option (Int32 × Mm)
  | 0, _, _ => none
  | n + 1, v8, M => if (M.1 (18, k, 0) 0) ≤ v8 then K v8 M else (fX10_has M 50 c3 c7 v8).bind fun q22 => if q22 = 0 then fL_rolls_L238 k c3 c6 c7 K n (v8 + (1 : Int32)) M else if (c7 + c6) < 0 then some ((-1 : Int32), M) else if (c7 + c6) < (M.1 (18, k, 0) 3) then fL_rolls_L238 k c3 c6 c7 K n (v8 + (1 : Int32)) M else some ((-1 : Int32), M)
def fL_rolls_L226 (k : Nat) (c3 : Int32) (c6 : Int32) (K : Int32 → Mm → Option (Int32 × Mm)) : Nat → Int32 → Mm → Option (Int32 × Mm)
  | 0, _, _ => none
  | n + 1, v7, M => if (M.1 (18, k, 0) 3) ≤ v7 then K v7 M else fL_rolls_L238 k c3 c6 v7 (fun w27 M28 => fL_rolls_L226 k c3 c6 K n (v7 + (1 : Int32)) M28) NF (0 : Int32) M
def fL_rolls_L309 (k : Nat) (c3 : Int32) (c6 : Int32) (c7 : Int32) (K : Int32 → Mm → Option (Int32 × Mm)) : Nat → Int32 → Mm → Option (Int32 × Mm)
  | 0, _, _ => none
  | n + 1, v8, M => if (M.1 (18, k, 0) 0) ≤ v8 then K v8 M else if (c7 - c6) < 0 then (if (fX10_place M c3 c7 v8) < 0 ∨ 2304 ≤ (fX10_place M c3 c7 v8).toNatClampNeg then none else fL_rolls_L309 k c3 c6 c7 K n (v8 + (1 : Int32)) (putI M (20, k, 0) (fX10_place M c3 c7 v8).toNatClampNeg (0 : Int32))) else if (M.1 (18, k, 0) 3) ≤ (c7 - c6) then (if (fX10_place M c3 c7 v8) < 0 ∨ 2304 ≤ (fX10_place M c3 c7 v8).toNatClampNeg then none else fL_rolls_L309 k c3 c6 c7 K n (v8 + (1 : Int32)) (putI M (20, k, 0) (fX10_place M c3 c7 v8).toNatClampNeg (0 : Int32))) else (fX10_has M 50 c3 (c7 - c6) v8).bind fun q37 => if q37 = 0 then (if (fX10_place M c3 c7 v8) < 0 ∨ 2304 ≤ (fX10_place M c3 c7 v8).toNatClampNeg then none else fL_rolls_L309 k c3 c6 c7 K n (v8 + (1 : Int32)) (putI M (20, k, 0) (fX10_place M c3 c7 v8).toNatClampNeg (0 : Int32))) else if (fX10_place M c3 c7 v8) < 0 ∨ 2304 ≤ (fX10_place M c3 c7 v8).toNatClampNeg then none else fL_rolls_L309 k c3 c6 c7 K n (v8 + (1 : Int32)) (putI M (20, k, 0) (fX10_place M c3 c7 v8).toNatClampNeg (1 : Int32))
def fL_rolls_L297 (k : Nat) (c3 : Int32) (c6 : Int32) (K : Int32 → Mm → Option (Int32 × Mm)) : Nat → Int32 → Mm → Option (Int32 × Mm)
  | 0, _, _ => none
  | n + 1, v7, M => if (M.1 (18, k, 0) 3) ≤ v7 then K v7 M else fL_rolls_L309 k c3 c6 v7 (fun w42 M43 => fL_rolls_L297 k c3 c6 K n (v7 + (1 : Int32)) M43) NF (0 : Int32) M
def fL_rolls_L135 (k : Nat) (c3 : Int32) (c6 : Int32) (c7 : Int32) (K : Int32 → Mm → Option (Int32 × Mm)) : Nat → Int32 → Mm → Option (Int32 × Mm)
  | 0, _, _ => none
  | n + 1, v8, M => if (M.1 (18, k, 0) 0) ≤ v8 then K v8 M else if (M.1 (18, k, 0) 0) = 0 then none else (fX10_has M 50 c3 c7 v8).bind fun q54 => if (fX10_place M c3 c7 ((v8 + c6) - (v8 + c6) / (M.1 (18, k, 0) 0) * (M.1 (18, k, 0) 0))) < 0 ∨ 2304 ≤ (fX10_place M c3 c7 ((v8 + c6) - (v8 + c6) / (M.1 (18, k, 0) 0) * (M.1 (18, k, 0) 0))).toNatClampNeg then none else fL_rolls_L135 k c3 c6 c7 K n (v8 + (1 : Int32)) (putI M (20, k, 0) (fX10_place M c3 c7 ((v8 + c6) - (v8 + c6) / (M.1 (18, k, 0) 0) * (M.1 (18, k, 0) 0))).toNatClampNeg (bz q54))
def fL_rolls_L123 (k : Nat) (c3 : Int32) (c6 : Int32) (K : Int32 → Mm → Option (Int32 × Mm)) : Nat → Int32 → Mm → Option (Int32 × Mm)
  | 0, _, _ => none
  | n + 1, v7, M => if (M.1 (18, k, 0) 3) ≤ v7 then K v7 M else fL_rolls_L135 k c3 c6 v7 (fun w57 M58 => fL_rolls_L123 k c3 c6 K n (v7 + (1 : Int32)) M58) NF (0 : Int32) M
def fL_rolls (M : Mm) (k : Nat) (x3 : Int32) (x4 : Int32) (x5 : Int32) : Option (Int32 × Mm) := if (5 : Int32) ≤ x3 then ((fX10_copy (ow0M (mN M (18, 50, 0)) 50) k 50).bind fun q2 => if x3 = (5 : Int32) then (fL_rolls_L123 k x4 (x5 - x5 / (64 : Int32) * (64 : Int32)) (fun w59 M60 => (fX9_shift M60 x4 (x5 - x5 / (64 : Int32) * (64 : Int32))).bind fun q61 => (fX10_pinsOf q61.2 k x4).bind fun q63 => if q61.1 = q63 then some ((1 : Int32), q61.2) else some ((0 : Int32), q61.2)) NF (0 : Int32) q2) else if x3 = (6 : Int32) then (fL_rolls_L226 k x4 ((x5 - x5 / (7 : Int32) * (7 : Int32)) - (3 : Int32)) (fun w29 M30 => fL_rolls_L297 k x4 ((x5 - x5 / (7 : Int32) * (7 : Int32)) - (3 : Int32)) (fun w44 M45 => (fX9_transpose M45 x4 ((x5 - x5 / (7 : Int32) * (7 : Int32)) - (3 : Int32))).bind fun q46 => (fX10_pinsOf q46.2 k x4).bind fun q48 => if q46.1 = q48 then some ((1 : Int32), q46.2) else some ((0 : Int32), q46.2)) NF (0 : Int32) M30) NF (0 : Int32) q2) else if x3 = (7 : Int32) then (fL_rolls_L426 k x4 (((x4 + (1 : Int32)) + (x5 - x5 / (2 : Int32) * (2 : Int32))) - ((x4 + (1 : Int32)) + (x5 - x5 / (2 : Int32) * (2 : Int32))) / (3 : Int32) * (3 : Int32)) (fun w13 M14 => (fX9_copyTune M14 x4 (((x4 + (1 : Int32)) + (x5 - x5 / (2 : Int32) * (2 : Int32))) - ((x4 + (1 : Int32)) + (x5 - x5 / (2 : Int32) * (2 : Int32))) / (3 : Int32) * (3 : Int32))).bind fun q15 => (fX10_pinsOf q15.2 k (((x4 + (1 : Int32)) + (x5 - x5 / (2 : Int32) * (2 : Int32))) - ((x4 + (1 : Int32)) + (x5 - x5 / (2 : Int32) * (2 : Int32))) / (3 : Int32) * (3 : Int32))).bind fun q17 => if q15.1 = q17 then some ((1 : Int32), q15.2) else some ((0 : Int32), q15.2)) NF (0 : Int32) q2) else (fX9_selectTune (putI q2 (18, k, 0) 4 x4) x4).bind fun q7 => if q7.1 = (q2.1 (18, k, 0) 4) then some ((1 : Int32), q7.2) else some ((0 : Int32), q7.2)) else if (M.1 (18, k, 0) 3) = 0 then none else if (M.1 (18, k, 0) 0) = 0 then none else if (fX10_place M x4 (x5 - x5 / (M.1 (18, k, 0) 3) * (M.1 (18, k, 0) 3)) ((x5 / (12 : Int32)) - (x5 / (12 : Int32)) / (M.1 (18, k, 0) 0) * (M.1 (18, k, 0) 0))) < 0 ∨ 2304 ≤ (fX10_place M x4 (x5 - x5 / (M.1 (18, k, 0) 3) * (M.1 (18, k, 0) 3)) ((x5 / (12 : Int32)) - (x5 / (12 : Int32)) / (M.1 (18, k, 0) 0) * (M.1 (18, k, 0) 0))).toNatClampNeg then none else if (M.1 (20, k, 0) (fX10_place M x4 (x5 - x5 / (M.1 (18, k, 0) 3) * (M.1 (18, k, 0) 3)) ((x5 / (12 : Int32)) - (x5 / (12 : Int32)) / (M.1 (18, k, 0) 0) * (M.1 (18, k, 0) 0))).toNatClampNeg) = 0 then (if (fX10_place M x4 (x5 - x5 / (M.1 (18, k, 0) 3) * (M.1 (18, k, 0) 3)) ((x5 / (12 : Int32)) - (x5 / (12 : Int32)) / (M.1 (18, k, 0) 0) * (M.1 (18, k, 0) 0))) < 0 ∨ 2304 ≤ (fX10_place M x4 (x5 - x5 / (M.1 (18, k, 0) 3) * (M.1 (18, k, 0) 3)) ((x5 / (12 : Int32)) - (x5 / (12 : Int32)) / (M.1 (18, k, 0) 0) * (M.1 (18, k, 0) 0))).toNatClampNeg then none else if (M.1 (20, k, 0) (fX10_place M x4 (x5 - x5 / (M.1 (18, k, 0) 3) * (M.1 (18, k, 0) 3)) ((x5 / (12 : Int32)) - (x5 / (12 : Int32)) / (M.1 (18, k, 0) 0) * (M.1 (18, k, 0) 0))).toNatClampNeg) = 0 then ((fX9_addPin (putI M (20, k, 0) (fX10_place M x4 (x5 - x5 / (M.1 (18, k, 0) 3) * (M.1 (18, k, 0) 3)) ((x5 / (12 : Int32)) - (x5 / (12 : Int32)) / (M.1 (18, k, 0) 0) * (M.1 (18, k, 0) 0))).toNatClampNeg (1 : Int32)) x4 (x5 - x5 / (M.1 (18, k, 0) 3) * (M.1 (18, k, 0) 3)) ((x5 / (12 : Int32)) - (x5 / (12 : Int32)) / (M.1 (18, k, 0) 0) * (M.1 (18, k, 0) 0))).bind fun q84 => (fX10_pinsOf q84.2 k x4).bind fun q86 => if q84.1 = q86 then some ((1 : Int32), q84.2) else some ((0 : Int32), q84.2)) else (fX9_removePin (putI M (20, k, 0) (fX10_place M x4 (x5 - x5 / (M.1 (18, k, 0) 3) * (M.1 (18, k, 0) 3)) ((x5 / (12 : Int32)) - (x5 / (12 : Int32)) / (M.1 (18, k, 0) 0) * (M.1 (18, k, 0) 0))).toNatClampNeg (1 : Int32)) x4 (x5 - x5 / (M.1 (18, k, 0) 3) * (M.1 (18, k, 0) 3)) ((x5 / (12 : Int32)) - (x5 / (12 : Int32)) / (M.1 (18, k, 0) 0) * (M.1 (18, k, 0) 0))).bind fun q89 => (fX10_pinsOf q89.2 k x4).bind fun q91 => if q89.1 = q91 then some ((1 : Int32), q89.2) else some ((0 : Int32), q89.2)) else if (fX10_place M x4 (x5 - x5 / (M.1 (18, k, 0) 3) * (M.1 (18, k, 0) 3)) ((x5 / (12 : Int32)) - (x5 / (12 : Int32)) / (M.1 (18, k, 0) 0) * (M.1 (18, k, 0) 0))) < 0 ∨ 2304 ≤ (fX10_place M x4 (x5 - x5 / (M.1 (18, k, 0) 3) * (M.1 (18, k, 0) 3)) ((x5 / (12 : Int32)) - (x5 / (12 : Int32)) / (M.1 (18, k, 0) 0) * (M.1 (18, k, 0) 0))).toNatClampNeg then none else if (M.1 (20, k, 0) (fX10_place M x4 (x5 - x5 / (M.1 (18, k, 0) 3) * (M.1 (18, k, 0) 3)) ((x5 / (12 : Int32)) - (x5 / (12 : Int32)) / (M.1 (18, k, 0) 0) * (M.1 (18, k, 0) 0))).toNatClampNeg) = 0 then ((fX9_addPin (putI M (20, k, 0) (fX10_place M x4 (x5 - x5 / (M.1 (18, k, 0) 3) * (M.1 (18, k, 0) 3)) ((x5 / (12 : Int32)) - (x5 / (12 : Int32)) / (M.1 (18, k, 0) 0) * (M.1 (18, k, 0) 0))).toNatClampNeg (0 : Int32)) x4 (x5 - x5 / (M.1 (18, k, 0) 3) * (M.1 (18, k, 0) 3)) ((x5 / (12 : Int32)) - (x5 / (12 : Int32)) / (M.1 (18, k, 0) 0) * (M.1 (18, k, 0) 0))).bind fun q72 => (fX10_pinsOf q72.2 k x4).bind fun q74 => if q72.1 = q74 then some ((1 : Int32), q72.2) else some ((0 : Int32), q72.2)) else (fX9_removePin (putI M (20, k, 0) (fX10_place M x4 (x5 - x5 / (M.1 (18, k, 0) 3) * (M.1 (18, k, 0) 3)) ((x5 / (12 : Int32)) - (x5 / (12 : Int32)) / (M.1 (18, k, 0) 0) * (M.1 (18, k, 0) 0))).toNatClampNeg (0 : Int32)) x4 (x5 - x5 / (M.1 (18, k, 0) 3) * (M.1 (18, k, 0) 3)) ((x5 / (12 : Int32)) - (x5 / (12 : Int32)) / (M.1 (18, k, 0) 0) * (M.1 (18, k, 0) 0))).bind fun q77 => (fX10_pinsOf q77.2 k x4).bind fun q79 => if q77.1 = q79 then some ((1 : Int32), q77.2) else some ((0 : Int32), q77.2)
set_option maxRecDepth 20000 in
set_option maxHeartbeats 4000000 in
theorem sL_rolls_L426 {w0 wv : Wv} (k : Nat) (c3 : Int32) (c6 : Int32) (hw : SubW w0 wv) (owk : OwI wv k) (ow50 : OwI wv 50) (hV : NoV w0 0) {res : (Int32 × Mm)} {K : Int32 → Mm → Option (Int32 × Mm)} {CB SB : Nat} (hcb : CB ≤ 8) (hsb : SB ≤ 2394) : ∀ (n : Nat) (v7 : Int32) (M : Mm) (c s : Nat), c + n * 0 ≤ CB → s + n * 0 ≤ SB → fL_rolls_L426 k c3 c6 K n v7 M = some res →
    (∀ (v7 : Int32) (M : Mm) (c s : Nat), c ≤ CB → s ≤ SB → K v7 M = some res → Z RL cL_rolls 9 (some .int) [] "rolls" (rmD 5 8 2394) (QM SH (allR w0) 8 2394 (fun v M9 => v = some (.int res.1) ∧ M9 = res.2) (fun _ _ => False)) (allR wv) SH c s 468 [some (.inr (0, 0, 0)), some (.inr (18, k, 0)), none, some (.inl (.int c3)), none, some (.inr (18, 50, 0)), some (.inl (.int c6)), some (.inl (.int v7)), none] [] M) → Z RL cL_rolls 9 (some .int) [] "rolls" (rmD 5 8 2394) (QM SH (allR w0) 8 2394 (fun v M9 => v = some (.int res.1) ∧ M9 = res.2) (fun _ _ => False)) (allR wv) SH c s 426 [some (.inr (0, 0, 0)), some (.inr (18, k, 0)), none, some (.inl (.int c3)), none, some (.inr (18, 50, 0)), some (.inl (.int c6)), some (.inl (.int v7)), none] [] M := by
  intro n
  induction n with
  | zero => intro v7 M c s _ _ h; cases h
  | succ n ih =>
    intro v7 M c s hc hs h hK
    have qv := qm_N (mc := 8) (ms := 2394) (sh := SH) (PR := fun v M9 => v = some (.int res.1) ∧ M9 = res.2) (PX := fun _ _ => False) hV
    rw [fL_rolls_L426] at h
    refine z_iload (i := 7) dL_rolls_426 rfl ?_
    refine z_sipush (v := (768 : Int32)) dL_rolls_428 ks_768 ?_
    refine z_icmp_ge (tgt := 468) dL_rolls_431 rfl (fun hc10 => ?_) (fun hc10 => ?_)
    · have h := it_t h hc10
      exact hK _ _ _ _ (by omega) (by omega) h
    · have h := it_f h hc10
      refine z_aload_n (i := 1) dL_rolls_434 rfl rfl ?_
      refine z_getRG (r' := (20, k, 0)) dL_rolls_435 fg_L_273 owk.1 rfl rfl ?_
      refine z_sipush (v := (768 : Int32)) dL_rolls_438 ks_768 ?_
      refine z_iload (i := 6) dL_rolls_441 rfl ?_
      refine z_imul dL_rolls_443 ?_
      refine z_iload (i := 7) dL_rolls_444 rfl ?_
      refine z_iadd dL_rolls_446 ?_
      refine z_aload (i := 5) dL_rolls_447 rfl ?_
      refine z_getRG (r' := (20, 50, 0)) dL_rolls_449 fg_L_273 ow50.1 rfl rfl ?_
      refine z_sipush (v := (768 : Int32)) dL_rolls_452 ks_768 ?_
      refine z_iload_n (i := 3) dL_rolls_455 rfl rfl ?_
      refine z_imul dL_rolls_456 ?_
      refine z_iload (i := 7) dL_rolls_457 rfl ?_
      refine z_iadd dL_rolls_459 ?_
      obtain ⟨hc11, h⟩ := chk h
      refine z_zald (x := (M.1 (20, 50, 0) (((768 : Int32) * c3) + v7).toNatClampNeg)) dL_rolls_460 ow50.2.1 rfl hc11 rfl ?_
      obtain ⟨hc12, h⟩ := chk h
      refine z_zastB (j := (((768 : Int32) * c6) + v7).toNatClampNeg) allR_nd dL_rolls_461 owk.2.1 rfl hc12 rfl ?_
      refine z_iinc (i := 7) (v := (v7 + (1 : Int32))) dL_rolls_462 rfl (iinc_k kc_1) (Nat.le_of_ble_eq_true rfl) rfl ?_
      refine z_goto (tgt := 426) dL_rolls_465 rfl ?_
      exact ih _ _ _ _ (by omega) (by omega) h hK
set_option maxRecDepth 20000 in
set_option maxHeartbeats 4000000 in
theorem sL_rolls_L238 {w0 wv : Wv} (k : Nat) (c3 : Int32) (c6 : Int32) (c7 : Int32) (hw : SubW w0 wv) (owk : OwI wv k) (ow50 : OwI wv 50) (hV : NoV w0 0) {res : (Int32 × Mm)} {K : Int32 → Mm → Option (Int32 × Mm)} {CB SB : Nat} (hcb : CB ≤ 8) (hsb : SB ≤ 2394) : ∀ (n : Nat) (v8 : Int32) (M : Mm) (c s : Nat), c + n * 0 ≤ CB → s + n * 0 ≤ SB → fL_rolls_L238 k c3 c6 c7 K n v8 M = some res →
    (∀ (v8 : Int32) (M : Mm) (c s : Nat), c ≤ CB → s ≤ SB → K v8 M = some res → Z RL cL_rolls 9 (some .int) [] "rolls" (rmD 5 8 2394) (QM SH (allR w0) 8 2394 (fun v M9 => v = some (.int res.1) ∧ M9 = res.2) (fun _ _ => False)) (allR wv) SH c s 288 [some (.inr (0, 0, 0)), some (.inr (18, k, 0)), none, some (.inl (.int c3)), none, some (.inr (18, 50, 0)), some (.inl (.int c6)), some (.inl (.int c7)), some (.inl (.int v8))] [] M) → Z RL cL_rolls 9 (some .int) [] "rolls" (rmD 5 8 2394) (QM SH (allR w0) 8 2394 (fun v M9 => v = some (.int res.1) ∧ M9 = res.2) (fun _ _ => False)) (allR wv) SH c s 238 [some (.inr (0, 0, 0)), some (.inr (18, k, 0)), none, some (.inl (.int c3)), none, some (.inr (18, 50, 0)), some (.inl (.int c6)), some (.inl (.int c7)), some (.inl (.int v8))] [] M := by
  intro n
  induction n with
  | zero => intro v8 M c s _ _ h; cases h
  | succ n ih =>
    intro v8 M c s hc hs h hK
    have qv := qm_N (mc := 8) (ms := 2394) (sh := SH) (PR := fun v M9 => v = some (.int res.1) ∧ M9 = res.2) (PX := fun _ _ => False) hV
    rw [fL_rolls_L238] at h
    refine z_iload (i := 8) dL_rolls_238 rfl ?_
    refine z_aload_n (i := 1) dL_rolls_240 rfl rfl ?_
    refine z_getIG (x := (M.1 (18, k, 0) 0)) dL_rolls_241 fg_L_51 owk.1 rfl rfl ?_
    refine z_icmp_ge (tgt := 288) dL_rolls_244 rfl (fun hc21 => ?_) (fun hc21 => ?_)
    · have h := it_t h hc21
      exact hK _ _ _ _ (by omega) (by omega) h
    · have h := it_f h hc21
      refine z_aload (i := 5) dL_rolls_247 rfl ?_
      refine z_iload_n (i := 3) dL_rolls_249 rfl rfl ?_
      refine z_iload (i := 7) dL_rolls_250 rfl ?_
      refine z_iload (i := 8) dL_rolls_252 rfl ?_
      obtain ⟨q22, hq23, h⟩ := bnd h
      refine z_fVi (sX10_has M 50 c3 c7 v8 ow50 hq23) dL_rolls_254 ml_L_54 cd_X10_has ow50.1 rfl rfl rfl (rmk_r (by decide) (by decide) (by omega) (by omega)) rfl rfl ?_
      refine z_if_eq (tgt := 282) dL_rolls_257 rfl (fun hc24 => ?_) (fun hc24 => ?_)
      · have h := it_t h hc24
        refine z_iinc (i := 8) (v := (v8 + (1 : Int32))) dL_rolls_282 rfl (iinc_k kc_1) (Nat.le_of_ble_eq_true rfl) rfl ?_
        refine z_goto (tgt := 238) dL_rolls_285 rfl ?_
        exact ih _ _ _ _ (by omega) (by omega) h hK
      · have h := it_f h hc24
        refine z_iload (i := 7) dL_rolls_260 rfl ?_
        refine z_iload (i := 6) dL_rolls_262 rfl ?_
        refine z_iadd dL_rolls_264 ?_
        refine z_if_lt (tgt := 280) dL_rolls_265 rfl (fun hc25 => ?_) (fun hc25 => ?_)
        · have h := it_t h hc25
          refine z_iconst (v := (-1 : Int32)) dL_rolls_280 kc_m1 ?_
          cases h
          refine z_sub hw ?_
          exact z_iret dL_rolls_281 rfl rfl (by omega) (by omega) ⟨rfl, rfl⟩
        · have h := it_f h hc25
          refine z_iload (i := 7) dL_rolls_268 rfl ?_
          refine z_iload (i := 6) dL_rolls_270 rfl ?_
          refine z_iadd dL_rolls_272 ?_
          refine z_aload_n (i := 1) dL_rolls_273 rfl rfl ?_
          refine z_getIG (x := (M.1 (18, k, 0) 3)) dL_rolls_274 fg_L_44 owk.1 rfl rfl ?_
          refine z_icmp_lt (tgt := 282) dL_rolls_277 rfl (fun hc26 => ?_) (fun hc26 => ?_)
          · have h := it_t h hc26
            refine z_iinc (i := 8) (v := (v8 + (1 : Int32))) dL_rolls_282 rfl (iinc_k kc_1) (Nat.le_of_ble_eq_true rfl) rfl ?_
            refine z_goto (tgt := 238) dL_rolls_285 rfl ?_
            exact ih _ _ _ _ (by omega) (by omega) h hK
          · have h := it_f h hc26
            refine z_iconst (v := (-1 : Int32)) dL_rolls_280 kc_m1 ?_
            cases h
            refine z_sub hw ?_
            exact z_iret dL_rolls_281 rfl rfl (by omega) (by omega) ⟨rfl, rfl⟩
set_option maxRecDepth 20000 in
set_option maxHeartbeats 4000000 in
theorem sL_rolls_L226 {w0 wv : Wv} (k : Nat) (c3 : Int32) (c6 : Int32) (hw : SubW w0 wv) (owk : OwI wv k) (ow50 : OwI wv 50) (hV : NoV w0 0) {res : (Int32 × Mm)} {K : Int32 → Mm → Option (Int32 × Mm)} {CB SB : Nat} (hcb : CB ≤ 8) (hsb : SB ≤ 2394) : ∀ (n : Nat) (v7 : Int32) (M : Mm) (c s : Nat), c + n * 0 ≤ CB → s + n * 0 ≤ SB → fL_rolls_L226 k c3 c6 K n v7 M = some res →
    (∀ (v7 : Int32) (M : Mm) (c s : Nat), c ≤ CB → s ≤ SB → K v7 M = some res → Z RL cL_rolls 9 (some .int) [] "rolls" (rmD 5 8 2394) (QM SH (allR w0) 8 2394 (fun v M9 => v = some (.int res.1) ∧ M9 = res.2) (fun _ _ => False)) (allR wv) SH c s 294 [some (.inr (0, 0, 0)), some (.inr (18, k, 0)), none, some (.inl (.int c3)), none, some (.inr (18, 50, 0)), some (.inl (.int c6)), some (.inl (.int v7)), none] [] M) → Z RL cL_rolls 9 (some .int) [] "rolls" (rmD 5 8 2394) (QM SH (allR w0) 8 2394 (fun v M9 => v = some (.int res.1) ∧ M9 = res.2) (fun _ _ => False)) (allR wv) SH c s 226 [some (.inr (0, 0, 0)), some (.inr (18, k, 0)), none, some (.inl (.int c3)), none, some (.inr (18, 50, 0)), some (.inl (.int c6)), some (.inl (.int v7)), none] [] M := by
  intro n
  induction n with
  | zero => intro v7 M c s _ _ h; cases h
  | succ n ih =>
    intro v7 M c s hc hs h hK
    have qv := qm_N (mc := 8) (ms := 2394) (sh := SH) (PR := fun v M9 => v = some (.int res.1) ∧ M9 = res.2) (PX := fun _ _ => False) hV
    rw [fL_rolls_L226] at h
    refine z_iload (i := 7) dL_rolls_226 rfl ?_
    refine z_aload_n (i := 1) dL_rolls_228 rfl rfl ?_
    refine z_getIG (x := (M.1 (18, k, 0) 3)) dL_rolls_229 fg_L_44 owk.1 rfl rfl ?_
    refine z_icmp_ge (tgt := 294) dL_rolls_232 rfl (fun hc20 => ?_) (fun hc20 => ?_)
    · have h := it_t h hc20
      exact hK _ _ _ _ (by omega) (by omega) h
    · have h := it_f h hc20
      refine z_iconst (v := (0 : Int32)) dL_rolls_235 kc_0 ?_
      refine z_istore (i := 8) dL_rolls_236 (Nat.le_of_ble_eq_true rfl) rfl ?_
      refine sL_rolls_L238 k c3 c6 v7 hw owk ow50 hV (CB := c + 0) (SB := s + 0) (by omega) (by omega) NF _ _ _ _ (by simp only [Nat.mul_zero]; omega) (by simp only [Nat.mul_zero]; omega) h (fun w27 M28 c8 s8 hc8 hs8 h => z_wid hc8 hs8 ?_)
      refine z_iinc (i := 7) (v := (v7 + (1 : Int32))) dL_rolls_288 rfl (iinc_k kc_1) (Nat.le_of_ble_eq_true rfl) rfl ?_
      refine z_goto (tgt := 226) dL_rolls_291 rfl ?_
      refine z_fgt (i := 8) ?_
      exact ih _ _ _ _ (by omega) (by omega) h hK
set_option maxRecDepth 20000 in
set_option maxHeartbeats 4000000 in
theorem sL_rolls_L309 {w0 wv : Wv} (k : Nat) (c3 : Int32) (c6 : Int32) (c7 : Int32) (hw : SubW w0 wv) (owk : OwI wv k) (ow50 : OwI wv 50) (hV : NoV w0 0) {res : (Int32 × Mm)} {K : Int32 → Mm → Option (Int32 × Mm)} {CB SB : Nat} (hcb : CB ≤ 8) (hsb : SB ≤ 2394) : ∀ (n : Nat) (v8 : Int32) (M : Mm) (c s : Nat), c + n * 0 ≤ CB → s + n * 0 ≤ SB → fL_rolls_L309 k c3 c6 c7 K n v8 M = some res →
    (∀ (v8 : Int32) (M : Mm) (c s : Nat), c ≤ CB → s ≤ SB → K v8 M = some res → Z RL cL_rolls 9 (some .int) [] "rolls" (rmD 5 8 2394) (QM SH (allR w0) 8 2394 (fun v M9 => v = some (.int res.1) ∧ M9 = res.2) (fun _ _ => False)) (allR wv) SH c s 378 [some (.inr (0, 0, 0)), some (.inr (18, k, 0)), none, some (.inl (.int c3)), none, some (.inr (18, 50, 0)), some (.inl (.int c6)), some (.inl (.int c7)), some (.inl (.int v8))] [] M) → Z RL cL_rolls 9 (some .int) [] "rolls" (rmD 5 8 2394) (QM SH (allR w0) 8 2394 (fun v M9 => v = some (.int res.1) ∧ M9 = res.2) (fun _ _ => False)) (allR wv) SH c s 309 [some (.inr (0, 0, 0)), some (.inr (18, k, 0)), none, some (.inl (.int c3)), none, some (.inr (18, 50, 0)), some (.inl (.int c6)), some (.inl (.int c7)), some (.inl (.int v8))] [] M := by
  intro n
  induction n with
  | zero => intro v8 M c s _ _ h; cases h
  | succ n ih =>
    intro v8 M c s hc hs h hK
    have qv := qm_N (mc := 8) (ms := 2394) (sh := SH) (PR := fun v M9 => v = some (.int res.1) ∧ M9 = res.2) (PX := fun _ _ => False) hV
    rw [fL_rolls_L309] at h
    refine z_iload (i := 8) dL_rolls_309 rfl ?_
    refine z_aload_n (i := 1) dL_rolls_311 rfl rfl ?_
    refine z_getIG (x := (M.1 (18, k, 0) 0)) dL_rolls_312 fg_L_51 owk.1 rfl rfl ?_
    refine z_icmp_ge (tgt := 378) dL_rolls_315 rfl (fun hc32 => ?_) (fun hc32 => ?_)
    · have h := it_t h hc32
      exact hK _ _ _ _ (by omega) (by omega) h
    · have h := it_f h hc32
      refine z_aload_n (i := 1) dL_rolls_318 rfl rfl ?_
      refine z_getRG (r' := (20, k, 0)) dL_rolls_319 fg_L_273 owk.1 rfl rfl ?_
      refine z_iload_n (i := 3) dL_rolls_322 rfl rfl ?_
      refine z_iload (i := 7) dL_rolls_323 rfl ?_
      refine z_iload (i := 8) dL_rolls_325 rfl ?_
      refine z_fSi (sX10_place M c3 c7 v8) dL_rolls_327 ml_L_270 cd_X10_place rfl rfl (rmk_r (by decide) (by decide) (by omega) (by omega)) rfl rfl ?_
      refine z_iload (i := 7) dL_rolls_330 rfl ?_
      refine z_iload (i := 6) dL_rolls_332 rfl ?_
      refine z_isub dL_rolls_334 ?_
      refine z_if_lt (tgt := 370) dL_rolls_335 rfl (fun hc33 => ?_) (fun hc33 => ?_)
      · have h := it_t h hc33
        refine z_iconst (v := (0 : Int32)) dL_rolls_370 kc_0 ?_
        obtain ⟨hc34, h⟩ := chk h
        refine z_zast (j := (fX10_place M c3 c7 v8).toNatClampNeg) allR_nd dL_rolls_371 owk.2.1 rfl hc34 rfl rfl ?_
        refine z_iinc (i := 8) (v := (v8 + (1 : Int32))) dL_rolls_372 rfl (iinc_k kc_1) (Nat.le_of_ble_eq_true rfl) rfl ?_
        refine z_goto (tgt := 309) dL_rolls_375 rfl ?_
        exact ih _ _ _ _ (by omega) (by omega) h hK
      · have h := it_f h hc33
        refine z_iload (i := 7) dL_rolls_338 rfl ?_
        refine z_iload (i := 6) dL_rolls_340 rfl ?_
        refine z_isub dL_rolls_342 ?_
        refine z_aload_n (i := 1) dL_rolls_343 rfl rfl ?_
        refine z_getIG (x := (M.1 (18, k, 0) 3)) dL_rolls_344 fg_L_44 owk.1 rfl rfl ?_
        refine z_icmp_ge (tgt := 370) dL_rolls_347 rfl (fun hc35 => ?_) (fun hc35 => ?_)
        · have h := it_t h hc35
          refine z_iconst (v := (0 : Int32)) dL_rolls_370 kc_0 ?_
          obtain ⟨hc36, h⟩ := chk h
          refine z_zast (j := (fX10_place M c3 c7 v8).toNatClampNeg) allR_nd dL_rolls_371 owk.2.1 rfl hc36 rfl rfl ?_
          refine z_iinc (i := 8) (v := (v8 + (1 : Int32))) dL_rolls_372 rfl (iinc_k kc_1) (Nat.le_of_ble_eq_true rfl) rfl ?_
          refine z_goto (tgt := 309) dL_rolls_375 rfl ?_
          exact ih _ _ _ _ (by omega) (by omega) h hK
        · have h := it_f h hc35
          refine z_aload (i := 5) dL_rolls_350 rfl ?_
          refine z_iload_n (i := 3) dL_rolls_352 rfl rfl ?_
          refine z_iload (i := 7) dL_rolls_353 rfl ?_
          refine z_iload (i := 6) dL_rolls_355 rfl ?_
          refine z_isub dL_rolls_357 ?_
          refine z_iload (i := 8) dL_rolls_358 rfl ?_
          obtain ⟨q37, hq38, h⟩ := bnd h
          refine z_fVi (sX10_has M 50 c3 (c7 - c6) v8 ow50 hq38) dL_rolls_360 ml_L_54 cd_X10_has ow50.1 rfl rfl rfl (rmk_r (by decide) (by decide) (by omega) (by omega)) rfl rfl ?_
          refine z_if_eq (tgt := 370) dL_rolls_363 rfl (fun hc39 => ?_) (fun hc39 => ?_)
          · have h := it_t h hc39
            refine z_iconst (v := (0 : Int32)) dL_rolls_370 kc_0 ?_
            obtain ⟨hc40, h⟩ := chk h
            refine z_zast (j := (fX10_place M c3 c7 v8).toNatClampNeg) allR_nd dL_rolls_371 owk.2.1 rfl hc40 rfl rfl ?_
            refine z_iinc (i := 8) (v := (v8 + (1 : Int32))) dL_rolls_372 rfl (iinc_k kc_1) (Nat.le_of_ble_eq_true rfl) rfl ?_
            refine z_goto (tgt := 309) dL_rolls_375 rfl ?_
            exact ih _ _ _ _ (by omega) (by omega) h hK
          · have h := it_f h hc39
            refine z_iconst (v := (1 : Int32)) dL_rolls_366 kc_1 ?_
            refine z_goto (tgt := 371) dL_rolls_367 rfl ?_
            obtain ⟨hc41, h⟩ := chk h
            refine z_zast (j := (fX10_place M c3 c7 v8).toNatClampNeg) allR_nd dL_rolls_371 owk.2.1 rfl hc41 rfl rfl ?_
            refine z_iinc (i := 8) (v := (v8 + (1 : Int32))) dL_rolls_372 rfl (iinc_k kc_1) (Nat.le_of_ble_eq_true rfl) rfl ?_
            refine z_goto (tgt := 309) dL_rolls_375 rfl ?_
            exact ih _ _ _ _ (by omega) (by omega) h hK
set_option maxRecDepth 20000 in
set_option maxHeartbeats 4000000 in
theorem sL_rolls_L297 {w0 wv : Wv} (k : Nat) (c3 : Int32) (c6 : Int32) (hw : SubW w0 wv) (owk : OwI wv k) (ow50 : OwI wv 50) (hV : NoV w0 0) {res : (Int32 × Mm)} {K : Int32 → Mm → Option (Int32 × Mm)} {CB SB : Nat} (hcb : CB ≤ 8) (hsb : SB ≤ 2394) : ∀ (n : Nat) (v7 : Int32) (M : Mm) (c s : Nat), c + n * 0 ≤ CB → s + n * 0 ≤ SB → fL_rolls_L297 k c3 c6 K n v7 M = some res →
    (∀ (v7 : Int32) (M : Mm) (c s : Nat), c ≤ CB → s ≤ SB → K v7 M = some res → Z RL cL_rolls 9 (some .int) [] "rolls" (rmD 5 8 2394) (QM SH (allR w0) 8 2394 (fun v M9 => v = some (.int res.1) ∧ M9 = res.2) (fun _ _ => False)) (allR wv) SH c s 384 [some (.inr (0, 0, 0)), some (.inr (18, k, 0)), none, some (.inl (.int c3)), none, some (.inr (18, 50, 0)), some (.inl (.int c6)), some (.inl (.int v7)), none] [] M) → Z RL cL_rolls 9 (some .int) [] "rolls" (rmD 5 8 2394) (QM SH (allR w0) 8 2394 (fun v M9 => v = some (.int res.1) ∧ M9 = res.2) (fun _ _ => False)) (allR wv) SH c s 297 [some (.inr (0, 0, 0)), some (.inr (18, k, 0)), none, some (.inl (.int c3)), none, some (.inr (18, 50, 0)), some (.inl (.int c6)), some (.inl (.int v7)), none] [] M := by
  intro n
  induction n with
  | zero => intro v7 M c s _ _ h; cases h
  | succ n ih =>
    intro v7 M c s hc hs h hK
    have qv := qm_N (mc := 8) (ms := 2394) (sh := SH) (PR := fun v M9 => v = some (.int res.1) ∧ M9 = res.2) (PX := fun _ _ => False) hV
    rw [fL_rolls_L297] at h
    refine z_iload (i := 7) dL_rolls_297 rfl ?_
    refine z_aload_n (i := 1) dL_rolls_299 rfl rfl ?_
    refine z_getIG (x := (M.1 (18, k, 0) 3)) dL_rolls_300 fg_L_44 owk.1 rfl rfl ?_
    refine z_icmp_ge (tgt := 384) dL_rolls_303 rfl (fun hc31 => ?_) (fun hc31 => ?_)
    · have h := it_t h hc31
      exact hK _ _ _ _ (by omega) (by omega) h
    · have h := it_f h hc31
      refine z_iconst (v := (0 : Int32)) dL_rolls_306 kc_0 ?_
      refine z_istore (i := 8) dL_rolls_307 (Nat.le_of_ble_eq_true rfl) rfl ?_
      refine sL_rolls_L309 k c3 c6 v7 hw owk ow50 hV (CB := c + 0) (SB := s + 0) (by omega) (by omega) NF _ _ _ _ (by simp only [Nat.mul_zero]; omega) (by simp only [Nat.mul_zero]; omega) h (fun w42 M43 c8 s8 hc8 hs8 h => z_wid hc8 hs8 ?_)
      refine z_iinc (i := 7) (v := (v7 + (1 : Int32))) dL_rolls_378 rfl (iinc_k kc_1) (Nat.le_of_ble_eq_true rfl) rfl ?_
      refine z_goto (tgt := 297) dL_rolls_381 rfl ?_
      refine z_fgt (i := 8) ?_
      exact ih _ _ _ _ (by omega) (by omega) h hK
set_option maxRecDepth 20000 in
set_option maxHeartbeats 4000000 in
theorem sL_rolls_L135 {w0 wv : Wv} (k : Nat) (c3 : Int32) (c6 : Int32) (c7 : Int32) (hw : SubW w0 wv) (owk : OwI wv k) (ow50 : OwI wv 50) (hV : NoV w0 0) {res : (Int32 × Mm)} {K : Int32 → Mm → Option (Int32 × Mm)} {CB SB : Nat} (hcb : CB ≤ 8) (hsb : SB ≤ 2394) : ∀ (n : Nat) (v8 : Int32) (M : Mm) (c s : Nat), c + n * 0 ≤ CB → s + n * 0 ≤ SB → fL_rolls_L135 k c3 c6 c7 K n v8 M = some res →
    (∀ (v8 : Int32) (M : Mm) (c s : Nat), c ≤ CB → s ≤ SB → K v8 M = some res → Z RL cL_rolls 9 (some .int) [] "rolls" (rmD 5 8 2394) (QM SH (allR w0) 8 2394 (fun v M9 => v = some (.int res.1) ∧ M9 = res.2) (fun _ _ => False)) (allR wv) SH c s 181 [some (.inr (0, 0, 0)), some (.inr (18, k, 0)), none, some (.inl (.int c3)), none, some (.inr (18, 50, 0)), some (.inl (.int c6)), some (.inl (.int c7)), some (.inl (.int v8))] [] M) → Z RL cL_rolls 9 (some .int) [] "rolls" (rmD 5 8 2394) (QM SH (allR w0) 8 2394 (fun v M9 => v = some (.int res.1) ∧ M9 = res.2) (fun _ _ => False)) (allR wv) SH c s 135 [some (.inr (0, 0, 0)), some (.inr (18, k, 0)), none, some (.inl (.int c3)), none, some (.inr (18, 50, 0)), some (.inl (.int c6)), some (.inl (.int c7)), some (.inl (.int v8))] [] M := by
  intro n
  induction n with
  | zero => intro v8 M c s _ _ h; cases h
  | succ n ih =>
    intro v8 M c s hc hs h hK
    have qv := qm_N (mc := 8) (ms := 2394) (sh := SH) (PR := fun v M9 => v = some (.int res.1) ∧ M9 = res.2) (PX := fun _ _ => False) hV
    rw [fL_rolls_L135] at h
    refine z_iload (i := 8) dL_rolls_135 rfl ?_
    refine z_aload_n (i := 1) dL_rolls_137 rfl rfl ?_
    refine z_getIG (x := (M.1 (18, k, 0) 0)) dL_rolls_138 fg_L_51 owk.1 rfl rfl ?_
    refine z_icmp_ge (tgt := 181) dL_rolls_141 rfl (fun hc52 => ?_) (fun hc52 => ?_)
    · have h := it_t h hc52
      exact hK _ _ _ _ (by omega) (by omega) h
    · have h := it_f h hc52
      refine z_aload_n (i := 1) dL_rolls_144 rfl rfl ?_
      refine z_getRG (r' := (20, k, 0)) dL_rolls_145 fg_L_273 owk.1 rfl rfl ?_
      refine z_iload_n (i := 3) dL_rolls_148 rfl rfl ?_
      refine z_iload (i := 7) dL_rolls_149 rfl ?_
      refine z_iload (i := 8) dL_rolls_151 rfl ?_
      refine z_iload (i := 6) dL_rolls_153 rfl ?_
      refine z_iadd dL_rolls_155 ?_
      refine z_aload_n (i := 1) dL_rolls_156 rfl rfl ?_
      refine z_getIG (x := (M.1 (18, k, 0) 0)) dL_rolls_157 fg_L_51 owk.1 rfl rfl ?_
      obtain ⟨hc53, h⟩ := chk h
      refine z_irem dL_rolls_160 hc53 ?_
      refine z_fSi (sX10_place M c3 c7 ((v8 + c6) - (v8 + c6) / (M.1 (18, k, 0) 0) * (M.1 (18, k, 0) 0))) dL_rolls_161 ml_L_270 cd_X10_place rfl rfl (rmk_r (by decide) (by decide) (by omega) (by omega)) rfl rfl ?_
      refine z_aload (i := 5) dL_rolls_164 rfl ?_
      refine z_iload_n (i := 3) dL_rolls_166 rfl rfl ?_
      refine z_iload (i := 7) dL_rolls_167 rfl ?_
      refine z_iload (i := 8) dL_rolls_169 rfl ?_
      obtain ⟨q54, hq55, h⟩ := bnd h
      refine z_fVi (sX10_has M 50 c3 c7 v8 ow50 hq55) dL_rolls_171 ml_L_54 cd_X10_has ow50.1 rfl rfl rfl (rmk_r (by decide) (by decide) (by omega) (by omega)) rfl rfl ?_
      obtain ⟨hc56, h⟩ := chk h
      refine z_zastB (j := (fX10_place M c3 c7 ((v8 + c6) - (v8 + c6) / (M.1 (18, k, 0) 0) * (M.1 (18, k, 0) 0))).toNatClampNeg) allR_nd dL_rolls_174 owk.2.1 rfl hc56 rfl ?_
      refine z_iinc (i := 8) (v := (v8 + (1 : Int32))) dL_rolls_175 rfl (iinc_k kc_1) (Nat.le_of_ble_eq_true rfl) rfl ?_
      refine z_goto (tgt := 135) dL_rolls_178 rfl ?_
      exact ih _ _ _ _ (by omega) (by omega) h hK
set_option maxRecDepth 20000 in
set_option maxHeartbeats 4000000 in
theorem sL_rolls_L123 {w0 wv : Wv} (k : Nat) (c3 : Int32) (c6 : Int32) (hw : SubW w0 wv) (owk : OwI wv k) (ow50 : OwI wv 50) (hV : NoV w0 0) {res : (Int32 × Mm)} {K : Int32 → Mm → Option (Int32 × Mm)} {CB SB : Nat} (hcb : CB ≤ 8) (hsb : SB ≤ 2394) : ∀ (n : Nat) (v7 : Int32) (M : Mm) (c s : Nat), c + n * 0 ≤ CB → s + n * 0 ≤ SB → fL_rolls_L123 k c3 c6 K n v7 M = some res →
    (∀ (v7 : Int32) (M : Mm) (c s : Nat), c ≤ CB → s ≤ SB → K v7 M = some res → Z RL cL_rolls 9 (some .int) [] "rolls" (rmD 5 8 2394) (QM SH (allR w0) 8 2394 (fun v M9 => v = some (.int res.1) ∧ M9 = res.2) (fun _ _ => False)) (allR wv) SH c s 187 [some (.inr (0, 0, 0)), some (.inr (18, k, 0)), none, some (.inl (.int c3)), none, some (.inr (18, 50, 0)), some (.inl (.int c6)), some (.inl (.int v7)), none] [] M) → Z RL cL_rolls 9 (some .int) [] "rolls" (rmD 5 8 2394) (QM SH (allR w0) 8 2394 (fun v M9 => v = some (.int res.1) ∧ M9 = res.2) (fun _ _ => False)) (allR wv) SH c s 123 [some (.inr (0, 0, 0)), some (.inr (18, k, 0)), none, some (.inl (.int c3)), none, some (.inr (18, 50, 0)), some (.inl (.int c6)), some (.inl (.int v7)), none] [] M := by
  intro n
  induction n with
  | zero => intro v7 M c s _ _ h; cases h
  | succ n ih =>
    intro v7 M c s hc hs h hK
    have qv := qm_N (mc := 8) (ms := 2394) (sh := SH) (PR := fun v M9 => v = some (.int res.1) ∧ M9 = res.2) (PX := fun _ _ => False) hV
    rw [fL_rolls_L123] at h
    refine z_iload (i := 7) dL_rolls_123 rfl ?_
    refine z_aload_n (i := 1) dL_rolls_125 rfl rfl ?_
    refine z_getIG (x := (M.1 (18, k, 0) 3)) dL_rolls_126 fg_L_44 owk.1 rfl rfl ?_
    refine z_icmp_ge (tgt := 187) dL_rolls_129 rfl (fun hc51 => ?_) (fun hc51 => ?_)
    · have h := it_t h hc51
      exact hK _ _ _ _ (by omega) (by omega) h
    · have h := it_f h hc51
      refine z_iconst (v := (0 : Int32)) dL_rolls_132 kc_0 ?_
      refine z_istore (i := 8) dL_rolls_133 (Nat.le_of_ble_eq_true rfl) rfl ?_
      refine sL_rolls_L135 k c3 c6 v7 hw owk ow50 hV (CB := c + 0) (SB := s + 0) (by omega) (by omega) NF _ _ _ _ (by simp only [Nat.mul_zero]; omega) (by simp only [Nat.mul_zero]; omega) h (fun w57 M58 c8 s8 hc8 hs8 h => z_wid hc8 hs8 ?_)
      refine z_iinc (i := 7) (v := (v7 + (1 : Int32))) dL_rolls_181 rfl (iinc_k kc_1) (Nat.le_of_ble_eq_true rfl) rfl ?_
      refine z_goto (tgt := 123) dL_rolls_184 rfl ?_
      refine z_fgt (i := 8) ?_
      exact ih _ _ _ _ (by omega) (by omega) h hK
set_option maxRecDepth 20000 in
set_option maxHeartbeats 4000000 in
theorem sL_rolls {wv : Wv} (M : Mm) (k : Nat) (x3 : Int32) (x4 : Int32) (x5 : Int32) (hk : OwI wv k) (hV : NoV wv 0) {res : (Int32 × Mm)} (h : fL_rolls M k x3 x4 x5 = some res) : TC wv yL_rolls cL_rolls 9 (some .int) 5 8 2394 [.inr (0, 0, 0), .inr (18, k, 0), .inl (.int x3), .inl (.int x4), .inl (.int x5)] M (some (.int res.1)) res.2 := by
  have qv := qm_N (mc := 8) (ms := 2394) (sh := SH) (PR := fun v M9 => v = some (.int res.1) ∧ M9 = res.2) (PX := fun _ _ => False) hV
  have hkl := ow_lt hV hk
  rw [fL_rolls] at h
  refine TC.go (n := 4) (ls := [some (.inr (0, 0, 0)), some (.inr (18, k, 0)), some (.inl (.int x3)), some (.inl (.int x4)), some (.inl (.int x5)), none, none, none, none]) (by decide +kernel) rfl rfl rfl rfl ?_
  refine z_iload_n (i := 2) dL_rolls_0 rfl rfl ?_
  refine z_iconst (v := (5 : Int32)) dL_rolls_1 kc_5 ?_
  refine z_icmp_ge (tgt := 102) dL_rolls_2 rfl (fun hc1 => ?_) (fun hc1 => ?_)
  · have h := it_t h hc1
    refine z_aload_n (i := 1) dL_rolls_102 rfl rfl ?_
    obtain ⟨q2, hq3, h⟩ := bnd h
    refine z_cGV (sX10_copy M k 50 hk (fr_of hV rfl) (nd_ow (fr_of hV rfl)) hq3) dL_rolls_103 ml_L_250 cd_X10_copy hk.1 rfl rfl rfl (rq_o (by decide) (by decide) (by omega) (by omega)) rfl rfl (qi_N qv rfl) rfl (by simp [noC, owR] <;> omega) rfl ?_
    refine z_astore (i := 5) dL_rolls_106 (Nat.le_of_ble_eq_true rfl) rfl ?_
    refine z_iload_n (i := 2) dL_rolls_108 rfl rfl ?_
    refine z_iconst (v := (5 : Int32)) dL_rolls_109 kc_5 ?_
    refine z_icmp_ne (tgt := 208) dL_rolls_110 rfl (fun hc4 => ?_) (fun hc4 => ?_)
    · have h := it_f h hc4
      refine z_iload_n (i := 2) dL_rolls_208 rfl rfl ?_
      refine z_bipush (v := (6 : Int32)) dL_rolls_209 kb_6 ?_
      refine z_icmp_ne (tgt := 405) dL_rolls_211 rfl (fun hc5 => ?_) (fun hc5 => ?_)
      · have h := it_f h hc5
        refine z_iload_n (i := 2) dL_rolls_405 rfl rfl ?_
        refine z_bipush (v := (7 : Int32)) dL_rolls_406 kb_7 ?_
        refine z_icmp_ne (tgt := 490) dL_rolls_408 rfl (fun hc6 => ?_) (fun hc6 => ?_)
        · have h := it_f h hc6
          refine z_aload_n (i := 1) dL_rolls_490 rfl rfl ?_
          refine z_getIG (x := (q2.1 (18, k, 0) 4)) dL_rolls_491 fg_L_179 (owU hk).1 rfl rfl ?_
          refine z_istore (i := 6) dL_rolls_494 (Nat.le_of_ble_eq_true rfl) rfl ?_
          refine z_aload_n (i := 1) dL_rolls_496 rfl rfl ?_
          refine z_iload_n (i := 3) dL_rolls_497 rfl rfl ?_
          refine z_putIG allR_nd dL_rolls_498 fg_L_179 (owU hk).1 rfl rfl ?_
          refine z_aload_n (i := 0) dL_rolls_501 rfl rfl ?_
          refine z_iload_n (i := 3) dL_rolls_502 rfl rfl ?_
          obtain ⟨q7, hq8, h⟩ := bnd h
          refine z_fVi (sX9_selectTune (putI q2 (18, k, 0) 4 x4) x4 hq8) dL_rolls_503 ml_L_292 cd_X9_selectTune mk0 rfl rfl rfl (rmk_r (by decide) (by decide) (by omega) (by omega)) rfl rfl ?_
          refine z_iload (i := 6) dL_rolls_506 rfl ?_
          refine z_icmp_ne (tgt := 515) dL_rolls_508 rfl (fun hc9 => ?_) (fun hc9 => ?_)
          · have h := it_f h hc9
            refine z_iconst (v := (0 : Int32)) dL_rolls_515 kc_0 ?_
            cases h
            refine z_sub swA ?_
            exact z_iret dL_rolls_516 rfl rfl (by omega) (by omega) ⟨rfl, rfl⟩
          · have h := it_t h hc9
            refine z_iconst (v := (1 : Int32)) dL_rolls_511 kc_1 ?_
            refine z_goto (tgt := 516) dL_rolls_512 rfl ?_
            cases h
            refine z_sub swA ?_
            exact z_iret dL_rolls_516 rfl rfl (by omega) (by omega) ⟨rfl, rfl⟩
        · have h := it_t h hc6
          refine z_iload_n (i := 3) dL_rolls_411 rfl rfl ?_
          refine z_iconst (v := (1 : Int32)) dL_rolls_412 kc_1 ?_
          refine z_iadd dL_rolls_413 ?_
          refine z_iload (i := 4) dL_rolls_414 rfl ?_
          refine z_iconst (v := (2 : Int32)) dL_rolls_416 kc_2 ?_
          refine z_irem dL_rolls_417 (by decide) ?_
          refine z_iadd dL_rolls_418 ?_
          refine z_iconst (v := (3 : Int32)) dL_rolls_419 kc_3 ?_
          refine z_irem dL_rolls_420 (by decide) ?_
          refine z_istore (i := 6) dL_rolls_421 (Nat.le_of_ble_eq_true rfl) rfl ?_
          refine z_iconst (v := (0 : Int32)) dL_rolls_423 kc_0 ?_
          refine z_istore (i := 7) dL_rolls_424 (Nat.le_of_ble_eq_true rfl) rfl ?_
          refine z_fgt (i := 2) ?_
          refine z_fgt (i := 4) ?_
          refine sL_rolls_L426 k x4 (((x4 + (1 : Int32)) + (x5 - x5 / (2 : Int32) * (2 : Int32))) - ((x4 + (1 : Int32)) + (x5 - x5 / (2 : Int32) * (2 : Int32))) / (3 : Int32) * (3 : Int32)) (swA) (owU hk) ow0 hV (CB := 0 + 8) (SB := 0 + 2394) (by omega) (by omega) NF _ _ _ _ (by simp only [Nat.mul_zero]; omega) (by simp only [Nat.mul_zero]; omega) h (fun w13 M14 c8 s8 hc8 hs8 h => z_wid hc8 hs8 ?_)
          refine z_aload_n (i := 0) dL_rolls_468 rfl rfl ?_
          refine z_iload_n (i := 3) dL_rolls_469 rfl rfl ?_
          refine z_iload (i := 6) dL_rolls_470 rfl ?_
          obtain ⟨q15, hq16, h⟩ := bnd h
          refine z_fVi (sX9_copyTune M14 x4 (((x4 + (1 : Int32)) + (x5 - x5 / (2 : Int32) * (2 : Int32))) - ((x4 + (1 : Int32)) + (x5 - x5 / (2 : Int32) * (2 : Int32))) / (3 : Int32) * (3 : Int32)) hq16) dL_rolls_472 ml_L_289 cd_X9_copyTune mk0 rfl rfl rfl (rmk_r (by decide) (by decide) (by omega) (by omega)) rfl rfl ?_
          refine z_aload_n (i := 1) dL_rolls_475 rfl rfl ?_
          refine z_iload (i := 6) dL_rolls_476 rfl ?_
          obtain ⟨q17, hq18, h⟩ := bnd h
          refine z_fVi (sX10_pinsOf q15.2 k (((x4 + (1 : Int32)) + (x5 - x5 / (2 : Int32) * (2 : Int32))) - ((x4 + (1 : Int32)) + (x5 - x5 / (2 : Int32) * (2 : Int32))) / (3 : Int32) * (3 : Int32)) (owU hk) hq18) dL_rolls_478 ml_L_39 cd_X10_pinsOf (owU hk).1 rfl rfl rfl (rmk_r (by decide) (by decide) (by omega) (by omega)) rfl rfl ?_
          refine z_icmp_ne (tgt := 488) dL_rolls_481 rfl (fun hc19 => ?_) (fun hc19 => ?_)
          · have h := it_f h hc19
            refine z_iconst (v := (0 : Int32)) dL_rolls_488 kc_0 ?_
            cases h
            refine z_sub swA ?_
            exact z_iret dL_rolls_489 rfl rfl (by omega) (by omega) ⟨rfl, rfl⟩
          · have h := it_t h hc19
            refine z_iconst (v := (1 : Int32)) dL_rolls_484 kc_1 ?_
            refine z_goto (tgt := 489) dL_rolls_485 rfl ?_
            cases h
            refine z_sub swA ?_
            exact z_iret dL_rolls_489 rfl rfl (by omega) (by omega) ⟨rfl, rfl⟩
      · have h := it_t h hc5
        refine z_iload (i := 4) dL_rolls_214 rfl ?_
        refine z_bipush (v := (7 : Int32)) dL_rolls_216 kb_7 ?_
        refine z_irem dL_rolls_218 (by decide) ?_
        refine z_iconst (v := (3 : Int32)) dL_rolls_219 kc_3 ?_
        refine z_isub dL_rolls_220 ?_
        refine z_istore (i := 6) dL_rolls_221 (Nat.le_of_ble_eq_true rfl) rfl ?_
        refine z_iconst (v := (0 : Int32)) dL_rolls_223 kc_0 ?_
        refine z_istore (i := 7) dL_rolls_224 (Nat.le_of_ble_eq_true rfl) rfl ?_
        refine z_fgt (i := 2) ?_
        refine z_fgt (i := 4) ?_
        refine sL_rolls_L226 k x4 ((x5 - x5 / (7 : Int32) * (7 : Int32)) - (3 : Int32)) (swA) (owU hk) ow0 hV (CB := 0 + 8) (SB := 0 + 2394) (by omega) (by omega) NF _ _ _ _ (by simp only [Nat.mul_zero]; omega) (by simp only [Nat.mul_zero]; omega) h (fun w29 M30 c8 s8 hc8 hs8 h => z_wid hc8 hs8 ?_)
        refine z_iconst (v := (0 : Int32)) dL_rolls_294 kc_0 ?_
        refine z_istore (i := 7) dL_rolls_295 (Nat.le_of_ble_eq_true rfl) rfl ?_
        refine sL_rolls_L297 k x4 ((x5 - x5 / (7 : Int32) * (7 : Int32)) - (3 : Int32)) (swA) (owU hk) ow0 hV (CB := 0 + 8) (SB := 0 + 2394) (by omega) (by omega) NF _ _ _ _ (by simp only [Nat.mul_zero]; omega) (by simp only [Nat.mul_zero]; omega) h (fun w44 M45 c8 s8 hc8 hs8 h => z_wid hc8 hs8 ?_)
        refine z_aload_n (i := 0) dL_rolls_384 rfl rfl ?_
        refine z_iload_n (i := 3) dL_rolls_385 rfl rfl ?_
        refine z_iload (i := 6) dL_rolls_386 rfl ?_
        obtain ⟨q46, hq47, h⟩ := bnd h
        refine z_fVi (sX9_transpose M45 x4 ((x5 - x5 / (7 : Int32) * (7 : Int32)) - (3 : Int32)) hq47) dL_rolls_388 ml_L_286 cd_X9_transpose mk0 rfl rfl rfl (rmk_r (by decide) (by decide) (by omega) (by omega)) rfl rfl ?_
        refine z_aload_n (i := 1) dL_rolls_391 rfl rfl ?_
        refine z_iload_n (i := 3) dL_rolls_392 rfl rfl ?_
        obtain ⟨q48, hq49, h⟩ := bnd h
        refine z_fVi (sX10_pinsOf q46.2 k x4 (owU hk) hq49) dL_rolls_393 ml_L_39 cd_X10_pinsOf (owU hk).1 rfl rfl rfl (rmk_r (by decide) (by decide) (by omega) (by omega)) rfl rfl ?_
        refine z_icmp_ne (tgt := 403) dL_rolls_396 rfl (fun hc50 => ?_) (fun hc50 => ?_)
        · have h := it_f h hc50
          refine z_iconst (v := (0 : Int32)) dL_rolls_403 kc_0 ?_
          cases h
          refine z_sub swA ?_
          exact z_iret dL_rolls_404 rfl rfl (by omega) (by omega) ⟨rfl, rfl⟩
        · have h := it_t h hc50
          refine z_iconst (v := (1 : Int32)) dL_rolls_399 kc_1 ?_
          refine z_goto (tgt := 404) dL_rolls_400 rfl ?_
          cases h
          refine z_sub swA ?_
          exact z_iret dL_rolls_404 rfl rfl (by omega) (by omega) ⟨rfl, rfl⟩
    · have h := it_t h hc4
      refine z_iload (i := 4) dL_rolls_113 rfl ?_
      refine z_bipush (v := (64 : Int32)) dL_rolls_115 kb_64 ?_
      refine z_irem dL_rolls_117 (by decide) ?_
      refine z_istore (i := 6) dL_rolls_118 (Nat.le_of_ble_eq_true rfl) rfl ?_
      refine z_iconst (v := (0 : Int32)) dL_rolls_120 kc_0 ?_
      refine z_istore (i := 7) dL_rolls_121 (Nat.le_of_ble_eq_true rfl) rfl ?_
      refine z_fgt (i := 2) ?_
      refine z_fgt (i := 4) ?_
      refine sL_rolls_L123 k x4 (x5 - x5 / (64 : Int32) * (64 : Int32)) (swA) (owU hk) ow0 hV (CB := 0 + 8) (SB := 0 + 2394) (by omega) (by omega) NF _ _ _ _ (by simp only [Nat.mul_zero]; omega) (by simp only [Nat.mul_zero]; omega) h (fun w59 M60 c8 s8 hc8 hs8 h => z_wid hc8 hs8 ?_)
      refine z_aload_n (i := 0) dL_rolls_187 rfl rfl ?_
      refine z_iload_n (i := 3) dL_rolls_188 rfl rfl ?_
      refine z_iload (i := 6) dL_rolls_189 rfl ?_
      obtain ⟨q61, hq62, h⟩ := bnd h
      refine z_fVi (sX9_shift M60 x4 (x5 - x5 / (64 : Int32) * (64 : Int32)) hq62) dL_rolls_191 ml_L_283 cd_X9_shift mk0 rfl rfl rfl (rmk_r (by decide) (by decide) (by omega) (by omega)) rfl rfl ?_
      refine z_aload_n (i := 1) dL_rolls_194 rfl rfl ?_
      refine z_iload_n (i := 3) dL_rolls_195 rfl rfl ?_
      obtain ⟨q63, hq64, h⟩ := bnd h
      refine z_fVi (sX10_pinsOf q61.2 k x4 (owU hk) hq64) dL_rolls_196 ml_L_39 cd_X10_pinsOf (owU hk).1 rfl rfl rfl (rmk_r (by decide) (by decide) (by omega) (by omega)) rfl rfl ?_
      refine z_icmp_ne (tgt := 206) dL_rolls_199 rfl (fun hc65 => ?_) (fun hc65 => ?_)
      · have h := it_f h hc65
        refine z_iconst (v := (0 : Int32)) dL_rolls_206 kc_0 ?_
        cases h
        refine z_sub swA ?_
        exact z_iret dL_rolls_207 rfl rfl (by omega) (by omega) ⟨rfl, rfl⟩
      · have h := it_t h hc65
        refine z_iconst (v := (1 : Int32)) dL_rolls_202 kc_1 ?_
        refine z_goto (tgt := 207) dL_rolls_203 rfl ?_
        cases h
        refine z_sub swA ?_
        exact z_iret dL_rolls_207 rfl rfl (by omega) (by omega) ⟨rfl, rfl⟩
  · have h := it_f h hc1
    refine z_iload (i := 4) dL_rolls_5 rfl ?_
    refine z_aload_n (i := 1) dL_rolls_7 rfl rfl ?_
    refine z_getIG (x := (M.1 (18, k, 0) 3)) dL_rolls_8 fg_L_44 hk.1 rfl rfl ?_
    obtain ⟨hc66, h⟩ := chk h
    refine z_irem dL_rolls_11 hc66 ?_
    refine z_istore (i := 5) dL_rolls_12 (Nat.le_of_ble_eq_true rfl) rfl ?_
    refine z_iload (i := 4) dL_rolls_14 rfl ?_
    refine z_bipush (v := (12 : Int32)) dL_rolls_16 kb_12 ?_
    refine z_idiv dL_rolls_18 (by decide) ?_
    refine z_aload_n (i := 1) dL_rolls_19 rfl rfl ?_
    refine z_getIG (x := (M.1 (18, k, 0) 0)) dL_rolls_20 fg_L_51 hk.1 rfl rfl ?_
    obtain ⟨hc67, h⟩ := chk h
    refine z_irem dL_rolls_23 hc67 ?_
    refine z_istore (i := 6) dL_rolls_24 (Nat.le_of_ble_eq_true rfl) rfl ?_
    refine z_iload_n (i := 3) dL_rolls_26 rfl rfl ?_
    refine z_iload (i := 5) dL_rolls_27 rfl ?_
    refine z_iload (i := 6) dL_rolls_29 rfl ?_
    refine z_fSi (sX10_place M x4 (x5 - x5 / (M.1 (18, k, 0) 3) * (M.1 (18, k, 0) 3)) ((x5 / (12 : Int32)) - (x5 / (12 : Int32)) / (M.1 (18, k, 0) 0) * (M.1 (18, k, 0) 0))) dL_rolls_31 ml_L_270 cd_X10_place rfl rfl (rmk_r (by decide) (by decide) (by omega) (by omega)) rfl rfl ?_
    refine z_istore (i := 7) dL_rolls_34 (Nat.le_of_ble_eq_true rfl) rfl ?_
    refine z_aload_n (i := 1) dL_rolls_36 rfl rfl ?_
    refine z_getRG (r' := (20, k, 0)) dL_rolls_37 fg_L_273 hk.1 rfl rfl ?_
    refine z_iload (i := 7) dL_rolls_40 rfl ?_
    obtain ⟨hc68, h⟩ := chk h
    refine z_zald (x := (M.1 (20, k, 0) (fX10_place M x4 (x5 - x5 / (M.1 (18, k, 0) 3) * (M.1 (18, k, 0) 3)) ((x5 / (12 : Int32)) - (x5 / (12 : Int32)) / (M.1 (18, k, 0) 0) * (M.1 (18, k, 0) 0))).toNatClampNeg)) dL_rolls_42 hk.2.1 rfl hc68 rfl ?_
    refine z_istore (i := 8) dL_rolls_43 (Nat.le_of_ble_eq_true rfl) rfl ?_
    refine z_aload_n (i := 1) dL_rolls_45 rfl rfl ?_
    refine z_getRG (r' := (20, k, 0)) dL_rolls_46 fg_L_273 hk.1 rfl rfl ?_
    refine z_iload (i := 7) dL_rolls_49 rfl ?_
    refine z_iload (i := 8) dL_rolls_51 rfl ?_
    refine z_if_ne (tgt := 60) dL_rolls_53 rfl (fun hc69 => ?_) (fun hc69 => ?_)
    · have h := it_f h hc69
      refine z_iconst (v := (0 : Int32)) dL_rolls_60 kc_0 ?_
      obtain ⟨hc70, h⟩ := chk h
      refine z_zast (j := (fX10_place M x4 (x5 - x5 / (M.1 (18, k, 0) 3) * (M.1 (18, k, 0) 3)) ((x5 / (12 : Int32)) - (x5 / (12 : Int32)) / (M.1 (18, k, 0) 0) * (M.1 (18, k, 0) 0))).toNatClampNeg) allR_nd dL_rolls_61 hk.2.1 rfl hc70 rfl rfl ?_
      refine z_iload (i := 8) dL_rolls_62 rfl ?_
      refine z_if_eq (tgt := 79) dL_rolls_64 rfl (fun hc71 => ?_) (fun hc71 => ?_)
      · have h := it_t h hc71
        refine z_aload_n (i := 0) dL_rolls_79 rfl rfl ?_
        refine z_iload_n (i := 3) dL_rolls_80 rfl rfl ?_
        refine z_iload (i := 5) dL_rolls_81 rfl ?_
        refine z_iload (i := 6) dL_rolls_83 rfl ?_
        obtain ⟨q72, hq73, h⟩ := bnd h
        refine z_fVi (sX9_addPin (putI M (20, k, 0) (fX10_place M x4 (x5 - x5 / (M.1 (18, k, 0) 3) * (M.1 (18, k, 0) 3)) ((x5 / (12 : Int32)) - (x5 / (12 : Int32)) / (M.1 (18, k, 0) 0) * (M.1 (18, k, 0) 0))).toNatClampNeg (0 : Int32)) x4 (x5 - x5 / (M.1 (18, k, 0) 3) * (M.1 (18, k, 0) 3)) ((x5 / (12 : Int32)) - (x5 / (12 : Int32)) / (M.1 (18, k, 0) 0) * (M.1 (18, k, 0) 0)) hq73) dL_rolls_85 ml_L_280 cd_X9_addPin mk0 rfl rfl rfl (rmk_r (by decide) (by decide) (by omega) (by omega)) rfl rfl ?_
        refine z_aload_n (i := 1) dL_rolls_88 rfl rfl ?_
        refine z_iload_n (i := 3) dL_rolls_89 rfl rfl ?_
        obtain ⟨q74, hq75, h⟩ := bnd h
        refine z_fVi (sX10_pinsOf q72.2 k x4 hk hq75) dL_rolls_90 ml_L_39 cd_X10_pinsOf hk.1 rfl rfl rfl (rmk_r (by decide) (by decide) (by omega) (by omega)) rfl rfl ?_
        refine z_icmp_ne (tgt := 100) dL_rolls_93 rfl (fun hc76 => ?_) (fun hc76 => ?_)
        · have h := it_f h hc76
          refine z_iconst (v := (0 : Int32)) dL_rolls_100 kc_0 ?_
          cases h
          exact z_iret dL_rolls_101 rfl rfl (by omega) (by omega) ⟨rfl, rfl⟩
        · have h := it_t h hc76
          refine z_iconst (v := (1 : Int32)) dL_rolls_96 kc_1 ?_
          refine z_goto (tgt := 101) dL_rolls_97 rfl ?_
          cases h
          exact z_iret dL_rolls_101 rfl rfl (by omega) (by omega) ⟨rfl, rfl⟩
      · have h := it_f h hc71
        refine z_aload_n (i := 0) dL_rolls_67 rfl rfl ?_
        refine z_iload_n (i := 3) dL_rolls_68 rfl rfl ?_
        refine z_iload (i := 5) dL_rolls_69 rfl ?_
        refine z_iload (i := 6) dL_rolls_71 rfl ?_
        obtain ⟨q77, hq78, h⟩ := bnd h
        refine z_fVi (sX9_removePin (putI M (20, k, 0) (fX10_place M x4 (x5 - x5 / (M.1 (18, k, 0) 3) * (M.1 (18, k, 0) 3)) ((x5 / (12 : Int32)) - (x5 / (12 : Int32)) / (M.1 (18, k, 0) 0) * (M.1 (18, k, 0) 0))).toNatClampNeg (0 : Int32)) x4 (x5 - x5 / (M.1 (18, k, 0) 3) * (M.1 (18, k, 0) 3)) ((x5 / (12 : Int32)) - (x5 / (12 : Int32)) / (M.1 (18, k, 0) 0) * (M.1 (18, k, 0) 0)) hq78) dL_rolls_73 ml_L_277 cd_X9_removePin mk0 rfl rfl rfl (rmk_r (by decide) (by decide) (by omega) (by omega)) rfl rfl ?_
        refine z_goto (tgt := 88) dL_rolls_76 rfl ?_
        refine z_aload_n (i := 1) dL_rolls_88 rfl rfl ?_
        refine z_iload_n (i := 3) dL_rolls_89 rfl rfl ?_
        obtain ⟨q79, hq80, h⟩ := bnd h
        refine z_fVi (sX10_pinsOf q77.2 k x4 hk hq80) dL_rolls_90 ml_L_39 cd_X10_pinsOf hk.1 rfl rfl rfl (rmk_r (by decide) (by decide) (by omega) (by omega)) rfl rfl ?_
        refine z_icmp_ne (tgt := 100) dL_rolls_93 rfl (fun hc81 => ?_) (fun hc81 => ?_)
        · have h := it_f h hc81
          refine z_iconst (v := (0 : Int32)) dL_rolls_100 kc_0 ?_
          cases h
          exact z_iret dL_rolls_101 rfl rfl (by omega) (by omega) ⟨rfl, rfl⟩
        · have h := it_t h hc81
          refine z_iconst (v := (1 : Int32)) dL_rolls_96 kc_1 ?_
          refine z_goto (tgt := 101) dL_rolls_97 rfl ?_
          cases h
          exact z_iret dL_rolls_101 rfl rfl (by omega) (by omega) ⟨rfl, rfl⟩
    · have h := it_t h hc69
      refine z_iconst (v := (1 : Int32)) dL_rolls_56 kc_1 ?_
      refine z_goto (tgt := 61) dL_rolls_57 rfl ?_
      obtain ⟨hc82, h⟩ := chk h
      refine z_zast (j := (fX10_place M x4 (x5 - x5 / (M.1 (18, k, 0) 3) * (M.1 (18, k, 0) 3)) ((x5 / (12 : Int32)) - (x5 / (12 : Int32)) / (M.1 (18, k, 0) 0) * (M.1 (18, k, 0) 0))).toNatClampNeg) allR_nd dL_rolls_61 hk.2.1 rfl hc82 rfl rfl ?_
      refine z_iload (i := 8) dL_rolls_62 rfl ?_
      refine z_if_eq (tgt := 79) dL_rolls_64 rfl (fun hc83 => ?_) (fun hc83 => ?_)
      · have h := it_t h hc83
        refine z_aload_n (i := 0) dL_rolls_79 rfl rfl ?_
        refine z_iload_n (i := 3) dL_rolls_80 rfl rfl ?_
        refine z_iload (i := 5) dL_rolls_81 rfl ?_
        refine z_iload (i := 6) dL_rolls_83 rfl ?_
        obtain ⟨q84, hq85, h⟩ := bnd h
        refine z_fVi (sX9_addPin (putI M (20, k, 0) (fX10_place M x4 (x5 - x5 / (M.1 (18, k, 0) 3) * (M.1 (18, k, 0) 3)) ((x5 / (12 : Int32)) - (x5 / (12 : Int32)) / (M.1 (18, k, 0) 0) * (M.1 (18, k, 0) 0))).toNatClampNeg (1 : Int32)) x4 (x5 - x5 / (M.1 (18, k, 0) 3) * (M.1 (18, k, 0) 3)) ((x5 / (12 : Int32)) - (x5 / (12 : Int32)) / (M.1 (18, k, 0) 0) * (M.1 (18, k, 0) 0)) hq85) dL_rolls_85 ml_L_280 cd_X9_addPin mk0 rfl rfl rfl (rmk_r (by decide) (by decide) (by omega) (by omega)) rfl rfl ?_
        refine z_aload_n (i := 1) dL_rolls_88 rfl rfl ?_
        refine z_iload_n (i := 3) dL_rolls_89 rfl rfl ?_
        obtain ⟨q86, hq87, h⟩ := bnd h
        refine z_fVi (sX10_pinsOf q84.2 k x4 hk hq87) dL_rolls_90 ml_L_39 cd_X10_pinsOf hk.1 rfl rfl rfl (rmk_r (by decide) (by decide) (by omega) (by omega)) rfl rfl ?_
        refine z_icmp_ne (tgt := 100) dL_rolls_93 rfl (fun hc88 => ?_) (fun hc88 => ?_)
        · have h := it_f h hc88
          refine z_iconst (v := (0 : Int32)) dL_rolls_100 kc_0 ?_
          cases h
          exact z_iret dL_rolls_101 rfl rfl (by omega) (by omega) ⟨rfl, rfl⟩
        · have h := it_t h hc88
          refine z_iconst (v := (1 : Int32)) dL_rolls_96 kc_1 ?_
          refine z_goto (tgt := 101) dL_rolls_97 rfl ?_
          cases h
          exact z_iret dL_rolls_101 rfl rfl (by omega) (by omega) ⟨rfl, rfl⟩
      · have h := it_f h hc83
        refine z_aload_n (i := 0) dL_rolls_67 rfl rfl ?_
        refine z_iload_n (i := 3) dL_rolls_68 rfl rfl ?_
        refine z_iload (i := 5) dL_rolls_69 rfl ?_
        refine z_iload (i := 6) dL_rolls_71 rfl ?_
        obtain ⟨q89, hq90, h⟩ := bnd h
        refine z_fVi (sX9_removePin (putI M (20, k, 0) (fX10_place M x4 (x5 - x5 / (M.1 (18, k, 0) 3) * (M.1 (18, k, 0) 3)) ((x5 / (12 : Int32)) - (x5 / (12 : Int32)) / (M.1 (18, k, 0) 0) * (M.1 (18, k, 0) 0))).toNatClampNeg (1 : Int32)) x4 (x5 - x5 / (M.1 (18, k, 0) 3) * (M.1 (18, k, 0) 3)) ((x5 / (12 : Int32)) - (x5 / (12 : Int32)) / (M.1 (18, k, 0) 0) * (M.1 (18, k, 0) 0)) hq90) dL_rolls_73 ml_L_277 cd_X9_removePin mk0 rfl rfl rfl (rmk_r (by decide) (by decide) (by omega) (by omega)) rfl rfl ?_
        refine z_goto (tgt := 88) dL_rolls_76 rfl ?_
        refine z_aload_n (i := 1) dL_rolls_88 rfl rfl ?_
        refine z_iload_n (i := 3) dL_rolls_89 rfl rfl ?_
        obtain ⟨q91, hq92, h⟩ := bnd h
        refine z_fVi (sX10_pinsOf q89.2 k x4 hk hq92) dL_rolls_90 ml_L_39 cd_X10_pinsOf hk.1 rfl rfl rfl (rmk_r (by decide) (by decide) (by omega) (by omega)) rfl rfl ?_
        refine z_icmp_ne (tgt := 100) dL_rolls_93 rfl (fun hc93 => ?_) (fun hc93 => ?_)
        · have h := it_f h hc93
          refine z_iconst (v := (0 : Int32)) dL_rolls_100 kc_0 ?_
          cases h
          exact z_iret dL_rolls_101 rfl rfl (by omega) (by omega) ⟨rfl, rfl⟩
        · have h := it_t h hc93
          refine z_iconst (v := (1 : Int32)) dL_rolls_96 kc_1 ?_
          refine z_goto (tgt := 101) dL_rolls_97 rfl ?_
          cases h
          exact z_iret dL_rolls_101 rfl rfl (by omega) (by omega) ⟨rfl, rfl⟩
