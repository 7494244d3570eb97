theorem dL_isTune_0 : decode cL_isTune 0 = .ok (.iconst 0, 1) := by decide +kernel
theorem dL_isTune_1 : decode cL_isTune 1 = .ok (.istore_n 3, 1) := by decide +kernel
theorem dL_isTune_2 : decode cL_isTune 2 = .ok (.iconst 0, 1) := by decide +kernel
theorem dL_isTune_3 : decode cL_isTune 3 = .ok (.istore 4, 2) := by decide +kernel
theorem dL_isTune_5 : decode cL_isTune 5 = .ok (.iconst 0, 1) := by decide +kernel
theorem dL_isTune_6 : decode cL_isTune 6 = .ok (.istore 5, 2) := by decide +kernel
theorem dL_isTune_8 : decode cL_isTune 8 = .ok (.aload_n 1, 1) := by decide +kernel
theorem dL_isTune_9 : decode cL_isTune 9 = .ok (.iload_n 2, 1) := by decide +kernel
theorem dL_isTune_10 : decode cL_isTune 10 = .ok (.invokevirtual 39, 3) := by decide +kernel
theorem dL_isTune_13 : decode cL_isTune 13 = .ok (.istore 6, 2) := by decide +kernel
theorem dL_isTune_15 : decode cL_isTune 15 = .ok (.bipush 64, 2) := by decide +kernel
theorem dL_isTune_17 : decode cL_isTune 17 = .ok (.newarray .int, 2) := by decide +kernel
theorem dL_isTune_19 : decode cL_isTune 19 = .ok (.astore 7, 2) := by decide +kernel
theorem dL_isTune_21 : decode cL_isTune 21 = .ok (.iconst 0, 1) := by decide +kernel
theorem dL_isTune_22 : decode cL_isTune 22 = .ok (.istore 8, 2) := by decide +kernel
theorem dL_isTune_24 : decode cL_isTune 24 = .ok (.iload 8, 2) := by decide +kernel
theorem dL_isTune_26 : decode cL_isTune 26 = .ok (.aload_n 1, 1) := by decide +kernel
theorem dL_isTune_27 : decode cL_isTune 27 = .ok (.getfield 44, 3) := by decide +kernel
theorem dL_isTune_30 : decode cL_isTune 30 = .ok (.if_icmp .ge 215, 3) := by decide +kernel
theorem dL_isTune_33 : decode cL_isTune 33 = .ok (.new 48, 3) := by decide +kernel
theorem dL_isTune_36 : decode cL_isTune 36 = .ok (.dup, 1) := by decide +kernel
theorem dL_isTune_37 : decode cL_isTune 37 = .ok (.invokespecial 50, 3) := by decide +kernel
theorem dL_isTune_40 : decode cL_isTune 40 = .ok (.astore 9, 2) := by decide +kernel
theorem dL_isTune_42 : decode cL_isTune 42 = .ok (.iconst 0, 1) := by decide +kernel
theorem dL_isTune_43 : decode cL_isTune 43 = .ok (.istore 10, 2) := by decide +kernel
theorem dL_isTune_45 : decode cL_isTune 45 = .ok (.iload 10, 2) := by decide +kernel
theorem dL_isTune_47 : decode cL_isTune 47 = .ok (.aload_n 1, 1) := by decide +kernel
theorem dL_isTune_48 : decode cL_isTune 48 = .ok (.getfield 51, 3) := by decide +kernel
theorem dL_isTune_51 : decode cL_isTune 51 = .ok (.if_icmp .ge 167, 3) := by decide +kernel
theorem dL_isTune_54 : decode cL_isTune 54 = .ok (.aload_n 1, 1) := by decide +kernel
theorem dL_isTune_55 : decode cL_isTune 55 = .ok (.iload_n 2, 1) := by decide +kernel
theorem dL_isTune_56 : decode cL_isTune 56 = .ok (.iload 8, 2) := by decide +kernel
theorem dL_isTune_58 : decode cL_isTune 58 = .ok (.iload 10, 2) := by decide +kernel
theorem dL_isTune_60 : decode cL_isTune 60 = .ok (.invokevirtual 54, 3) := by decide +kernel
theorem dL_isTune_63 : decode cL_isTune 63 = .ok (.istore 11, 2) := by decide +kernel
theorem dL_isTune_65 : decode cL_isTune 65 = .ok (.aload 7, 2) := by decide +kernel
theorem dL_isTune_67 : decode cL_isTune 67 = .ok (.iload 10, 2) := by decide +kernel
theorem dL_isTune_69 : decode cL_isTune 69 = .ok (.dup2, 1) := by decide +kernel
theorem dL_isTune_70 : decode cL_isTune 70 = .ok (.iaload, 1) := by decide +kernel
theorem dL_isTune_71 : decode cL_isTune 71 = .ok (.iload 11, 2) := by decide +kernel
theorem dL_isTune_73 : decode cL_isTune 73 = .ok (.ifCond .eq 10, 3) := by decide +kernel
theorem dL_isTune_76 : decode cL_isTune 76 = .ok (.iconst 1, 1) := by decide +kernel
theorem dL_isTune_77 : decode cL_isTune 77 = .ok (.iload 8, 2) := by decide +kernel
theorem dL_isTune_79 : decode cL_isTune 79 = .ok (.ishl, 1) := by decide +kernel
theorem dL_isTune_80 : decode cL_isTune 80 = .ok (.goto 4, 3) := by decide +kernel
theorem dL_isTune_83 : decode cL_isTune 83 = .ok (.iconst 0, 1) := by decide +kernel
theorem dL_isTune_84 : decode cL_isTune 84 = .ok (.iadd, 1) := by decide +kernel
theorem dL_isTune_85 : decode cL_isTune 85 = .ok (.iastore, 1) := by decide +kernel
theorem dL_isTune_86 : decode cL_isTune 86 = .ok (.iload 4, 2) := by decide +kernel
theorem dL_isTune_88 : decode cL_isTune 88 = .ok (.iload 11, 2) := by decide +kernel
theorem dL_isTune_90 : decode cL_isTune 90 = .ok (.ifCond .eq 21, 3) := by decide +kernel
theorem dL_isTune_93 : decode cL_isTune 93 = .ok (.aload_n 1, 1) := by decide +kernel
theorem dL_isTune_94 : decode cL_isTune 94 = .ok (.getfield 58, 3) := by decide +kernel
theorem dL_isTune_97 : decode cL_isTune 97 = .ok (.iload 8, 2) := by decide +kernel
theorem dL_isTune_99 : decode cL_isTune 99 = .ok (.iaload, 1) := by decide +kernel
theorem dL_isTune_100 : decode cL_isTune 100 = .ok (.aload_n 1, 1) := by decide +kernel
theorem dL_isTune_101 : decode cL_isTune 101 = .ok (.getfield 62, 3) := by decide +kernel
theorem dL_isTune_104 : decode cL_isTune 104 = .ok (.iload 8, 2) := by decide +kernel
theorem dL_isTune_106 : decode cL_isTune 106 = .ok (.iaload, 1) := by decide +kernel
theorem dL_isTune_107 : decode cL_isTune 107 = .ok (.iadd, 1) := by decide +kernel
theorem dL_isTune_108 : decode cL_isTune 108 = .ok (.goto 4, 3) := by decide +kernel
theorem dL_isTune_111 : decode cL_isTune 111 = .ok (.iconst 0, 1) := by decide +kernel
theorem dL_isTune_112 : decode cL_isTune 112 = .ok (.iadd, 1) := by decide +kernel
theorem dL_isTune_113 : decode cL_isTune 113 = .ok (.istore 4, 2) := by decide +kernel
theorem dL_isTune_115 : decode cL_isTune 115 = .ok (.iload_n 3, 1) := by decide +kernel
theorem dL_isTune_116 : decode cL_isTune 116 = .ok (.aload_n 1, 1) := by decide +kernel
theorem dL_isTune_117 : decode cL_isTune 117 = .ok (.iload_n 2, 1) := by decide +kernel
theorem dL_isTune_118 : decode cL_isTune 118 = .ok (.iload 8, 2) := by decide +kernel
theorem dL_isTune_120 : decode cL_isTune 120 = .ok (.iload 10, 2) := by decide +kernel
theorem dL_isTune_122 : decode cL_isTune 122 = .ok (.invokevirtual 65, 3) := by decide +kernel
theorem dL_isTune_125 : decode cL_isTune 125 = .ok (.ifCond .eq 7, 3) := by decide +kernel
theorem dL_isTune_128 : decode cL_isTune 128 = .ok (.iconst 1, 1) := by decide +kernel
theorem dL_isTune_129 : decode cL_isTune 129 = .ok (.goto 4, 3) := by decide +kernel
theorem dL_isTune_132 : decode cL_isTune 132 = .ok (.iconst 0, 1) := by decide +kernel
theorem dL_isTune_133 : decode cL_isTune 133 = .ok (.iadd, 1) := by decide +kernel
theorem dL_isTune_134 : decode cL_isTune 134 = .ok (.istore_n 3, 1) := by decide +kernel
theorem dL_isTune_135 : decode cL_isTune 135 = .ok (.aload 9, 2) := by decide +kernel
theorem dL_isTune_137 : decode cL_isTune 137 = .ok (.aload_n 1, 1) := by decide +kernel
theorem dL_isTune_138 : decode cL_isTune 138 = .ok (.iload_n 2, 1) := by decide +kernel
theorem dL_isTune_139 : decode cL_isTune 139 = .ok (.iload 8, 2) := by decide +kernel
theorem dL_isTune_141 : decode cL_isTune 141 = .ok (.iload 10, 2) := by decide +kernel
theorem dL_isTune_143 : decode cL_isTune 143 = .ok (.invokevirtual 65, 3) := by decide +kernel
theorem dL_isTune_146 : decode cL_isTune 146 = .ok (.ifCond .eq 8, 3) := by decide +kernel
theorem dL_isTune_149 : decode cL_isTune 149 = .ok (.bipush 33, 2) := by decide +kernel
theorem dL_isTune_151 : decode cL_isTune 151 = .ok (.goto 15, 3) := by decide +kernel
theorem dL_isTune_154 : decode cL_isTune 154 = .ok (.iload 11, 2) := by decide +kernel
theorem dL_isTune_156 : decode cL_isTune 156 = .ok (.ifCond .eq 8, 3) := by decide +kernel
theorem dL_isTune_159 : decode cL_isTune 159 = .ok (.bipush 35, 2) := by decide +kernel
theorem dL_isTune_161 : decode cL_isTune 161 = .ok (.goto 5, 3) := by decide +kernel
theorem dL_isTune_164 : decode cL_isTune 164 = .ok (.bipush 45, 2) := by decide +kernel
theorem dL_isTune_166 : decode cL_isTune 166 = .ok (.invokevirtual 68, 3) := by decide +kernel
theorem dL_isTune_169 : decode cL_isTune 169 = .ok (.pop, 1) := by decide +kernel
theorem dL_isTune_170 : decode cL_isTune 170 = .ok (.aload_n 0, 1) := by decide +kernel
theorem dL_isTune_171 : decode cL_isTune 171 = .ok (.iload_n 2, 1) := by decide +kernel
theorem dL_isTune_172 : decode cL_isTune 172 = .ok (.iload 8, 2) := by decide +kernel
theorem dL_isTune_174 : decode cL_isTune 174 = .ok (.iload 10, 2) := by decide +kernel
theorem dL_isTune_176 : decode cL_isTune 176 = .ok (.invokevirtual 71, 3) := by decide +kernel
theorem dL_isTune_179 : decode cL_isTune 179 = .ok (.iload 11, 2) := by decide +kernel
theorem dL_isTune_181 : decode cL_isTune 181 = .ok (.if_icmp .ne 29, 3) := by decide +kernel
theorem dL_isTune_184 : decode cL_isTune 184 = .ok (.iload 11, 2) := by decide +kernel
theorem dL_isTune_186 : decode cL_isTune 186 = .ok (.ifCond .eq 26, 3) := by decide +kernel
theorem dL_isTune_189 : decode cL_isTune 189 = .ok (.aload_n 0, 1) := by decide +kernel
theorem dL_isTune_190 : decode cL_isTune 190 = .ok (.iload_n 2, 1) := by decide +kernel
theorem dL_isTune_191 : decode cL_isTune 191 = .ok (.iload 8, 2) := by decide +kernel
theorem dL_isTune_193 : decode cL_isTune 193 = .ok (.iload 10, 2) := by decide +kernel
theorem dL_isTune_195 : decode cL_isTune 195 = .ok (.invokevirtual 74, 3) := by decide +kernel
theorem dL_isTune_198 : decode cL_isTune 198 = .ok (.aload_n 1, 1) := by decide +kernel
theorem dL_isTune_199 : decode cL_isTune 199 = .ok (.iload_n 2, 1) := by decide +kernel
theorem dL_isTune_200 : decode cL_isTune 200 = .ok (.iload 8, 2) := by decide +kernel
theorem dL_isTune_202 : decode cL_isTune 202 = .ok (.iload 10, 2) := by decide +kernel
theorem dL_isTune_204 : decode cL_isTune 204 = .ok (.invokevirtual 78, 3) := by decide +kernel
theorem dL_isTune_207 : decode cL_isTune 207 = .ok (.if_icmp .eq 5, 3) := by decide +kernel
theorem dL_isTune_210 : decode cL_isTune 210 = .ok (.iconst 0, 1) := by decide +kernel
theorem dL_isTune_211 : decode cL_isTune 211 = .ok (.ireturn, 1) := by decide +kernel
theorem dL_isTune_212 : decode cL_isTune 212 = .ok (.iinc 10 1, 3) := by decide +kernel
theorem dL_isTune_215 : decode cL_isTune 215 = .ok (.goto (-170), 3) := by decide +kernel
theorem dL_isTune_218 : decode cL_isTune 218 = .ok (.aload_n 0, 1) := by decide +kernel
theorem dL_isTune_219 : decode cL_isTune 219 = .ok (.aload_n 0, 1) := by decide +kernel
theorem dL_isTune_220 : decode cL_isTune 220 = .ok (.iload_n 2, 1) := by decide +kernel
theorem dL_isTune_221 : decode cL_isTune 221 = .ok (.iload 8, 2) := by decide +kernel
theorem dL_isTune_223 : decode cL_isTune 223 = .ok (.invokevirtual 79, 3) := by decide +kernel
theorem dL_isTune_226 : decode cL_isTune 226 = .ok (.aload 9, 2) := by decide +kernel
theorem dL_isTune_228 : decode cL_isTune 228 = .ok (.invokevirtual 83, 3) := by decide +kernel
theorem dL_isTune_231 : decode cL_isTune 231 = .ok (.invokestatic 87, 3) := by decide +kernel
theorem dL_isTune_234 : decode cL_isTune 234 = .ok (.ifCond .ne 5, 3) := by decide +kernel
theorem dL_isTune_237 : decode cL_isTune 237 = .ok (.iconst 0, 1) := by decide +kernel
theorem dL_isTune_238 : decode cL_isTune 238 = .ok (.ireturn, 1) := by decide +kernel
theorem dL_isTune_239 : decode cL_isTune 239 = .ok (.iinc 8 1, 3) := by decide +kernel
theorem dL_isTune_242 : decode cL_isTune 242 = .ok (.goto (-218), 3) := by decide +kernel
theorem dL_isTune_245 : decode cL_isTune 245 = .ok (.iconst 0, 1) := by decide +kernel
theorem dL_isTune_246 : decode cL_isTune 246 = .ok (.istore 8, 2) := by decide +kernel
theorem dL_isTune_248 : decode cL_isTune 248 = .ok (.iload 8, 2) := by decide +kernel
theorem dL_isTune_250 : decode cL_isTune 250 = .ok (.aload_n 1, 1) := by decide +kernel
theorem dL_isTune_251 : decode cL_isTune 251 = .ok (.getfield 51, 3) := by decide +kernel
theorem dL_isTune_254 : decode cL_isTune 254 = .ok (.if_icmp .ge 69, 3) := by decide +kernel
theorem dL_isTune_257 : decode cL_isTune 257 = .ok (.iconst 0, 1) := by decide +kernel
theorem dL_isTune_258 : decode cL_isTune 258 = .ok (.istore 9, 2) := by decide +kernel
theorem dL_isTune_260 : decode cL_isTune 260 = .ok (.iload 9, 2) := by decide +kernel
theorem dL_isTune_262 : decode cL_isTune 262 = .ok (.aload_n 1, 1) := by decide +kernel
theorem dL_isTune_263 : decode cL_isTune 263 = .ok (.getfield 51, 3) := by decide +kernel
theorem dL_isTune_266 : decode cL_isTune 266 = .ok (.if_icmp .ge 25, 3) := by decide +kernel
theorem dL_isTune_269 : decode cL_isTune 269 = .ok (.aload 7, 2) := by decide +kernel
theorem dL_isTune_271 : decode cL_isTune 271 = .ok (.iload 8, 2) := by decide +kernel
theorem dL_isTune_273 : decode cL_isTune 273 = .ok (.iload 9, 2) := by decide +kernel
theorem dL_isTune_275 : decode cL_isTune 275 = .ok (.iadd, 1) := by decide +kernel
theorem dL_isTune_276 : decode cL_isTune 276 = .ok (.aload_n 1, 1) := by decide +kernel
theorem dL_isTune_277 : decode cL_isTune 277 = .ok (.getfield 51, 3) := by decide +kernel
theorem dL_isTune_280 : decode cL_isTune 280 = .ok (.irem, 1) := by decide +kernel
theorem dL_isTune_281 : decode cL_isTune 281 = .ok (.iaload, 1) := by decide +kernel
theorem dL_isTune_282 : decode cL_isTune 282 = .ok (.ifCond .ne 9, 3) := by decide +kernel
theorem dL_isTune_285 : decode cL_isTune 285 = .ok (.iinc 9 1, 3) := by decide +kernel
theorem dL_isTune_288 : decode cL_isTune 288 = .ok (.goto (-28), 3) := by decide +kernel
theorem dL_isTune_291 : decode cL_isTune 291 = .ok (.iload 5, 2) := by decide +kernel
theorem dL_isTune_293 : decode cL_isTune 293 = .ok (.iload 9, 2) := by decide +kernel
theorem dL_isTune_295 : decode cL_isTune 295 = .ok (.invokestatic 91, 3) := by decide +kernel
theorem dL_isTune_298 : decode cL_isTune 298 = .ok (.istore 5, 2) := by decide +kernel
theorem dL_isTune_300 : decode cL_isTune 300 = .ok (.aload_n 0, 1) := by decide +kernel
theorem dL_isTune_301 : decode cL_isTune 301 = .ok (.iload_n 2, 1) := by decide +kernel
theorem dL_isTune_302 : decode cL_isTune 302 = .ok (.iload 8, 2) := by decide +kernel
theorem dL_isTune_304 : decode cL_isTune 304 = .ok (.invokevirtual 96, 3) := by decide +kernel
theorem dL_isTune_307 : decode cL_isTune 307 = .ok (.aload 7, 2) := by decide +kernel
theorem dL_isTune_309 : decode cL_isTune 309 = .ok (.iload 8, 2) := by decide +kernel
theorem dL_isTune_311 : decode cL_isTune 311 = .ok (.iaload, 1) := by decide +kernel
theorem dL_isTune_312 : decode cL_isTune 312 = .ok (.if_icmp .eq 5, 3) := by decide +kernel
theorem dL_isTune_315 : decode cL_isTune 315 = .ok (.iconst 0, 1) := by decide +kernel
theorem dL_isTune_316 : decode cL_isTune 316 = .ok (.ireturn, 1) := by decide +kernel
theorem dL_isTune_317 : decode cL_isTune 317 = .ok (.iinc 8 1, 3) := by decide +kernel
theorem dL_isTune_320 : decode cL_isTune 320 = .ok (.goto (-72), 3) := by decide +kernel
theorem dL_isTune_323 : decode cL_isTune 323 = .ok (.aload_n 0, 1) := by decide +kernel
theorem dL_isTune_324 : decode cL_isTune 324 = .ok (.iload_n 2, 1) := by decide +kernel
theorem dL_isTune_325 : decode cL_isTune 325 = .ok (.invokevirtual 99, 3) := by decide +kernel
theorem dL_isTune_328 : decode cL_isTune 328 = .ok (.iload 6, 2) := by decide +kernel
theorem dL_isTune_330 : decode cL_isTune 330 = .ok (.if_icmp .ne 51, 3) := by decide +kernel
theorem dL_isTune_333 : decode cL_isTune 333 = .ok (.aload_n 0, 1) := by decide +kernel
theorem dL_isTune_334 : decode cL_isTune 334 = .ok (.iload_n 2, 1) := by decide +kernel
theorem dL_isTune_335 : decode cL_isTune 335 = .ok (.invokevirtual 102, 3) := by decide +kernel
theorem dL_isTune_338 : decode cL_isTune 338 = .ok (.iload_n 3, 1) := by decide +kernel
theorem dL_isTune_339 : decode cL_isTune 339 = .ok (.if_icmp .ne 42, 3) := by decide +kernel
theorem dL_isTune_342 : decode cL_isTune 342 = .ok (.aload_n 0, 1) := by decide +kernel
theorem dL_isTune_343 : decode cL_isTune 343 = .ok (.iload_n 2, 1) := by decide +kernel
theorem dL_isTune_344 : decode cL_isTune 344 = .ok (.invokevirtual 105, 3) := by decide +kernel
theorem dL_isTune_347 : decode cL_isTune 347 = .ok (.iload 5, 2) := by decide +kernel
theorem dL_isTune_349 : decode cL_isTune 349 = .ok (.if_icmp .ne 32, 3) := by decide +kernel
theorem dL_isTune_352 : decode cL_isTune 352 = .ok (.aload_n 0, 1) := by decide +kernel
theorem dL_isTune_353 : decode cL_isTune 353 = .ok (.iload_n 2, 1) := by decide +kernel
theorem dL_isTune_354 : decode cL_isTune 354 = .ok (.invokevirtual 108, 3) := by decide +kernel
theorem dL_isTune_357 : decode cL_isTune 357 = .ok (.iload 6, 2) := by decide +kernel
theorem dL_isTune_359 : decode cL_isTune 359 = .ok (.ifCond .ne 7, 3) := by decide +kernel
theorem dL_isTune_362 : decode cL_isTune 362 = .ok (.dconst 0, 1) := by decide +kernel
theorem dL_isTune_363 : decode cL_isTune 363 = .ok (.goto 10, 3) := by decide +kernel
theorem dL_isTune_366 : decode cL_isTune 366 = .ok (.iload 4, 2) := by decide +kernel
theorem dL_isTune_368 : decode cL_isTune 368 = .ok (.i2d, 1) := by decide +kernel
theorem dL_isTune_369 : decode cL_isTune 369 = .ok (.iload 6, 2) := by decide +kernel
theorem dL_isTune_371 : decode cL_isTune 371 = .ok (.i2d, 1) := by decide +kernel
theorem dL_isTune_372 : decode cL_isTune 372 = .ok (.ddiv, 1) := by decide +kernel
theorem dL_isTune_373 : decode cL_isTune 373 = .ok (.dcmp .l, 1) := by decide +kernel
theorem dL_isTune_374 : decode cL_isTune 374 = .ok (.ifCond .ne 7, 3) := by decide +kernel
theorem dL_isTune_377 : decode cL_isTune 377 = .ok (.iconst 1, 1) := by decide +kernel
theorem dL_isTune_378 : decode cL_isTune 378 = .ok (.goto 4, 3) := by decide +kernel
theorem dL_isTune_381 : decode cL_isTune 381 = .ok (.iconst 0, 1) := by decide +kernel
theorem dL_isTune_382 : decode cL_isTune 382 = .ok (.istore 8, 2) := by decide +kernel
theorem dL_isTune_384 : decode cL_isTune 384 = .ok (.iload 8, 2) := by decide +kernel
theorem dL_isTune_386 : decode cL_isTune 386 = .ok (.ifCond .eq 35, 3) := by decide +kernel
theorem dL_isTune_389 : decode cL_isTune 389 = .ok (.aload_n 0, 1) := by decide +kernel
theorem dL_isTune_390 : decode cL_isTune 390 = .ok (.iload_n 2, 1) := by decide +kernel
theorem dL_isTune_391 : decode cL_isTune 391 = .ok (.invokevirtual 112, 3) := by decide +kernel
theorem dL_isTune_394 : decode cL_isTune 394 = .ok (.invokestatic 116, 3) := by decide +kernel
theorem dL_isTune_397 : decode cL_isTune 397 = .ok (.iload 6, 2) := by decide +kernel
theorem dL_isTune_399 : decode cL_isTune 399 = .ok (.i2f, 1) := by decide +kernel
theorem dL_isTune_400 : decode cL_isTune 400 = .ok (.aload_n 1, 1) := by decide +kernel
theorem dL_isTune_401 : decode cL_isTune 401 = .ok (.getfield 51, 3) := by decide +kernel
theorem dL_isTune_404 : decode cL_isTune 404 = .ok (.aload_n 1, 1) := by decide +kernel
theorem dL_isTune_405 : decode cL_isTune 405 = .ok (.getfield 44, 3) := by decide +kernel
theorem dL_isTune_408 : decode cL_isTune 408 = .ok (.imul, 1) := by decide +kernel
theorem dL_isTune_409 : decode cL_isTune 409 = .ok (.i2f, 1) := by decide +kernel
theorem dL_isTune_410 : decode cL_isTune 410 = .ok (.fdiv, 1) := by decide +kernel
theorem dL_isTune_411 : decode cL_isTune 411 = .ok (.invokestatic 116, 3) := by decide +kernel
theorem dL_isTune_414 : decode cL_isTune 414 = .ok (.if_icmp .ne 7, 3) := by decide +kernel
theorem dL_isTune_417 : decode cL_isTune 417 = .ok (.iconst 1, 1) := by decide +kernel
theorem dL_isTune_418 : decode cL_isTune 418 = .ok (.goto 4, 3) := by decide +kernel
theorem dL_isTune_421 : decode cL_isTune 421 = .ok (.iconst 0, 1) := by decide +kernel
theorem dL_isTune_422 : decode cL_isTune 422 = .ok (.ireturn, 1) := by decide +kernel
def fL_isTune_L45 (k : Nat) (c2 : Int32) (c5 : Int32) (c6 : Int32) (c8 : Int32) (K : Int32 → Int32 → Int32 → Mm → Option (Int32 × Mm)) : Nat → Int32 → Int32 → Int32 → Mm → Option (Int32 × Mm)
  | 0, _, _, _, _ => none
  | n + 1, v3, v4, v10, M => if (M.1 (18, k, 0) 0) ≤ v10 then K v3 v4 v10 M else (fX10_has M k c2 c8 v10).bind fun q5 => if v10 < 0 ∨ 64 ≤ v10.toNatClampNeg then none else if q5 = 0 then (if v10 < 0 ∨ 64 ≤ v10.toNatClampNeg then none else if q5 = 0 then ((fX10_isClose (putI M (26, 0, 0) v10.toNatClampNeg ((M.1 (26, 0, 0) v10.toNatClampNeg) + (0 : Int32))) k c2 c8 v10).bind fun q11 => if q11 = 0 then ((fX10_isClose (putI M (26, 0, 0) v10.toNatClampNeg ((M.1 (26, 0, 0) v10.toNatClampNeg) + (0 : Int32))) k c2 c8 v10).bind fun q14 => if q14 = 0 then (if q5 = 0 then ((fJ4_append_cf468 (putI M (26, 0, 0) v10.toNatClampNeg ((M.1 (26, 0, 0) v10.toNatClampNeg) + (0 : Int32))) 0 (45 : Int32) 70).bind fun q18 => (fX9_isPin q18 c2 c8 v10).bind fun q20 => if q20.1 = q5 then (if q5 = 0 then fL_isTune_L45 k c2 c5 c6 c8 K n (v3 + (0 : Int32)) (v4 + (0 : Int32)) (v10 + (1 : Int32)) q20.2 else (fX9_distance q20.2 c2 c8 v10).bind fun q24 => (fX10_distance q24.2 k c2 c8 v10).bind fun q26 => if q24.1 = q26 then fL_isTune_L45 k c2 c5 c6 c8 K n (v3 + (0 : Int32)) (v4 + (0 : Int32)) (v10 + (1 : Int32)) q24.2 else some ((0 : Int32), q24.2)) else some ((0 : Int32), q20.2)) else (fJ4_append_cf468 (putI M (26, 0, 0) v10.toNatClampNeg ((M.1 (26, 0, 0) v10.toNatClampNeg) + (0 : Int32))) 0 (35 : Int32) 70).bind fun q29 => (fX9_isPin q29 c2 c8 v10).bind fun q31 => if q31.1 = q5 then (if q5 = 0 then fL_isTune_L45 k c2 c5 c6 c8 K n (v3 + (0 : Int32)) (v4 + (0 : Int32)) (v10 + (1 : Int32)) q31.2 else (fX9_distance q31.2 c2 c8 v10).bind fun q35 => (fX10_distance q35.2 k c2 c8 v10).bind fun q37 => if q35.1 = q37 then fL_isTune_L45 k c2 c5 c6 c8 K n (v3 + (0 : Int32)) (v4 + (0 : Int32)) (v10 + (1 : Int32)) q35.2 else some ((0 : Int32), q35.2)) else some ((0 : Int32), q31.2)) else (fJ4_append_cf468 (putI M (26, 0, 0) v10.toNatClampNeg ((M.1 (26, 0, 0) v10.toNatClampNeg) + (0 : Int32))) 0 (33 : Int32) 70).bind fun q40 => (fX9_isPin q40 c2 c8 v10).bind fun q42 => if q42.1 = q5 then (if q5 = 0 then fL_isTune_L45 k c2 c5 c6 c8 K n (v3 + (0 : Int32)) (v4 + (0 : Int32)) (v10 + (1 : Int32)) q42.2 else (fX9_distance q42.2 c2 c8 v10).bind fun q46 => (fX10_distance q46.2 k c2 c8 v10).bind fun q48 => if q46.1 = q48 then fL_isTune_L45 k c2 c5 c6 c8 K n (v3 + (0 : Int32)) (v4 + (0 : Int32)) (v10 + (1 : Int32)) q46.2 else some ((0 : Int32), q46.2)) else some ((0 : Int32), q42.2)) else (fX10_isClose (putI M (26, 0, 0) v10.toNatClampNeg ((M.1 (26, 0, 0) v10.toNatClampNeg) + (0 : Int32))) k c2 c8 v10).bind fun q51 => if q51 = 0 then (if q5 = 0 then ((fJ4_append_cf468 (putI M (26, 0, 0) v10.toNatClampNeg ((M.1 (26, 0, 0) v10.toNatClampNeg) + (0 : Int32))) 0 (45 : Int32) 70).bind fun q55 => (fX9_isPin q55 c2 c8 v10).bind fun q57 => if q57.1 = q5 then (if q5 = 0 then fL_isTune_L45 k c2 c5 c6 c8 K n (v3 + (1 : Int32)) (v4 + (0 : Int32)) (v10 + (1 : Int32)) q57.2 else (fX9_distance q57.2 c2 c8 v10).bind fun q61 => (fX10_distance q61.2 k c2 c8 v10).bind fun q63 => if q61.1 = q63 then fL_isTune_L45 k c2 c5 c6 c8 K n (v3 + (1 : Int32)) (v4 + (0 : Int32)) (v10 + (1 : Int32)) q61.2 else some ((0 : Int32), q61.2)) else some ((0 : Int32), q57.2)) else (fJ4_append_cf468 (putI M (26, 0, 0) v10.toNatClampNeg ((M.1 (26, 0, 0) v10.toNatClampNeg) + (0 : Int32))) 0 (35 : Int32) 70).bind fun q66 => (fX9_isPin q66 c2 c8 v10).bind fun q68 => if q68.1 = q5 then (if q5 = 0 then fL_isTune_L45 k c2 c5 c6 c8 K n (v3 + (1 : Int32)) (v4 + (0 : Int32)) (v10 + (1 : Int32)) q68.2 else (fX9_distance q68.2 c2 c8 v10).bind fun q72 => (fX10_distance q72.2 k c2 c8 v10).bind fun q74 => if q72.1 = q74 then fL_isTune_L45 k c2 c5 c6 c8 K n (v3 + (1 : Int32)) (v4 + (0 : Int32)) (v10 + (1 : Int32)) q72.2 else some ((0 : Int32), q72.2)) else some ((0 : Int32), q68.2)) else (fJ4_append_cf468 (putI M (26, 0, 0) v10.toNatClampNeg ((M.1 (26, 0, 0) v10.toNatClampNeg) + (0 : Int32))) 0 (33 : Int32) 70).bind fun q77 => (fX9_isPin q77 c2 c8 v10).bind fun q79 => if q79.1 = q5 then (if q5 = 0 then fL_isTune_L45 k c2 c5 c6 c8 K n (v3 + (1 : Int32)) (v4 + (0 : Int32)) (v10 + (1 : Int32)) q79.2 else (fX9_distance q79.2 c2 c8 v10).bind fun q83 => (fX10_distance q83.2 k c2 c8 v10).bind fun q85 => if q83.1 = q85 then fL_isTune_L45 k c2 c5 c6 c8 K n (v3 + (1 : Int32)) (v4 + (0 : Int32)) (v10 + (1 : Int32)) q83.2 else some ((0 : Int32), q83.2)) else some ((0 : Int32), q79.2)) else if c8 < 0 ∨ 12 ≤ c8.toNatClampNeg then none else if c8 < 0 ∨ 12 ≤ c8.toNatClampNeg then none else (fX10_isClose (putI M (26, 0, 0) v10.toNatClampNeg ((M.1 (26, 0, 0) v10.toNatClampNeg) + (0 : Int32))) k c2 c8 v10).bind fun q90 => if q90 = 0 then ((fX10_isClose (putI M (26, 0, 0) v10.toNatClampNeg ((M.1 (26, 0, 0) v10.toNatClampNeg) + (0 : Int32))) k c2 c8 v10).bind fun q93 => if q93 = 0 then (if q5 = 0 then ((fJ4_append_cf468 (putI M (26, 0, 0) v10.toNatClampNeg ((M.1 (26, 0, 0) v10.toNatClampNeg) + (0 : Int32))) 0 (45 : Int32) 70).bind fun q97 => (fX9_isPin q97 c2 c8 v10).bind fun q99 => if q99.1 = q5 then (if q5 = 0 then fL_isTune_L45 k c2 c5 c6 c8 K n (v3 + (0 : Int32)) (v4 + ((M.1 (19, k, 0) c8.toNatClampNeg) + (M.1 (19, k, 1) c8.toNatClampNeg))) (v10 + (1 : Int32)) q99.2 else (fX9_distance q99.2 c2 c8 v10).bind fun q103 => (fX10_distance q103.2 k c2 c8 v10).bind fun q105 => if q103.1 = q105 then fL_isTune_L45 k c2 c5 c6 c8 K n (v3 + (0 : Int32)) (v4 + ((M.1 (19, k, 0) c8.toNatClampNeg) + (M.1 (19, k, 1) c8.toNatClampNeg))) (v10 + (1 : Int32)) q103.2 else some ((0 : Int32), q103.2)) else some ((0 : Int32), q99.2)) else (fJ4_append_cf468 (putI M (26, 0, 0) v10.toNatClampNeg ((M.1 (26, 0, 0) v10.toNatClampNeg) + (0 : Int32))) 0 (35 : Int32) 70).bind fun q108 => (fX9_isPin q108 c2 c8 v10).bind fun q110 => if q110.1 = q5 then (if q5 = 0 then fL_isTune_L45 k c2 c5 c6 c8 K n (v3 + (0 : Int32)) (v4 + ((M.1 (19, k, 0) c8.toNatClampNeg) + (M.1 (19, k, 1) c8.toNatClampNeg))) (v10 + (1 : Int32)) q110.2 else (fX9_distance q110.2 c2 c8 v10).bind fun q114 => (fX10_distance q114.2 k c2 c8 v10).bind fun q116 => if q114.1 = q116 then fL_isTune_L45 k c2 c5 c6 c8 K n (v3 + (0 : Int32)) (v4 + ((M.1 (19, k, 0) c8.toNatClampNeg) + (M.1 (19, k, 1) c8.toNatClampNeg))) (v10 + (1 : Int32)) q114.2 else some ((0 : Int32), q114.2)) else some ((0 : Int32), q110.2)) else (fJ4_append_cf468 (putI M (26, 0, 0) v10.toNatClampNeg ((M.1 (26, 0, 0) v10.toNatClampNeg) + (0 : Int32))) 0 (33 : Int32) 70).bind fun q119 => (fX9_isPin q119 c2 c8 v10).bind fun q121 => if q121.1 = q5 then (if q5 = 0 then fL_isTune_L45 k c2 c5 c6 c8 K n (v3 + (0 : Int32)) (v4 + ((M.1 (19, k, 0) c8.toNatClampNeg) + (M.1 (19, k, 1) c8.toNatClampNeg))) (v10 + (1 : Int32)) q121.2 else (fX9_distance q121.2 c2 c8 v10).bind fun q125 => (fX10_distance q125.2 k c2 c8 v10).bind fun q127 => if q125.1 = q127 then fL_isTune_L45 k c2 c5 c6 c8 K n (v3 + (0 : Int32)) (v4 + ((M.1 (19, k, 0) c8.toNatClampNeg) + (M.1 (19, k, 1) c8.toNatClampNeg))) (v10 + (1 : Int32)) q125.2 else some ((0 : Int32), q125.2)) else some ((0 : Int32), q121.2)) else (fX10_isClose (putI M (26, 0, 0) v10.toNatClampNeg ((M.1 (26, 0, 0) v10.toNatClampNeg) + (0 : Int32))) k c2 c8 v10).bind fun q130 => if q130 = 0 then (if q5 = 0 then ((fJ4_append_cf468 (putI M (26, 0, 0) v10.toNatClampNeg ((M.1 (26, 0, 0) v10.toNatClampNeg) + (0 : Int32))) 0 (45 : Int32) 70).bind fun q134 => (fX9_isPin q134 c2 c8 v10).bind fun q136 => if q136.1 = q5 then (if q5 = 0 then fL_isTune_L45 k c2 c5 c6 c8 K n (v3 + (1 : Int32)) (v4 + ((M.1 (19, k, 0) c8.toNatClampNeg) + (M.1 (19, k, 1) c8.toNatClampNeg))) (v10 + (1 : Int32)) q136.2 else (fX9_distance q136.2 c2 c8 v10).bind fun q140 => (fX10_distance q140.2 k c2 c8 v10).bind fun q142 => if q140.1 = q142 then fL_isTune_L45 k c2 c5 c6 c8 K n (v3 + (1 : Int32)) (v4 + ((M.1 (19, k, 0) c8.toNatClampNeg) + (M.1 (19, k, 1) c8.toNatClampNeg))) (v10 + (1 : Int32)) q140.2 else some ((0 : Int32), q140.2)) else some ((0 : Int32), q136.2)) else (fJ4_append_cf468 (putI M (26, 0, 0) v10.toNatClampNeg ((M.1 (26, 0, 0) v10.toNatClampNeg) + (0 : Int32))) 0 (35 : Int32) 70).bind fun q145 => (fX9_isPin q145 c2 c8 v10).bind fun q147 => if q147.1 = q5 then (if q5 = 0 then fL_isTune_L45 k c2 c5 c6 c8 K n (v3 + (1 : Int32)) (v4 + ((M.1 (19, k, 0) c8.toNatClampNeg) + (M.1 (19, k, 1) c8.toNatClampNeg))) (v10 + (1 : Int32)) q147.2 else (fX9_distance q147.2 c2 c8 v10).bind fun q151 => (fX10_distance q151.2 k c2 c8 v10).bind fun q153 => if q151.1 = q153 then fL_isTune_L45 k c2 c5 c6 c8 K n (v3 + (1 : Int32)) (v4 + ((M.1 (19, k, 0) c8.toNatClampNeg) + (M.1 (19, k, 1) c8.toNatClampNeg))) (v10 + (1 : Int32)) q151.2 else some ((0 : Int32), q151.2)) else some ((0 : Int32), q147.2)) else (fJ4_append_cf468 (putI M (26, 0, 0) v10.toNatClampNeg ((M.1 (26, 0, 0) v10.toNatClampNeg) + (0 : Int32))) 0 (33 : Int32) 70).bind fun q156 => (fX9_isPin q156 c2 c8 v10).bind fun q158 => if q158.1 = q5 then (if q5 = 0 then fL_isTune_L45 k c2 c5 c6 c8 K n (v3 + (1 : Int32)) (v4 + ((M.1 (19, k, 0) c8.toNatClampNeg) + (M.1 (19, k, 1) c8.toNatClampNeg))) (v10 + (1 : Int32)) q158.2 else (fX9_distance q158.2 c2 c8 v10).bind fun q162 => (fX10_distance q162.2 k c2 c8 v10).bind fun q164 => if q162.1 = q164 then fL_isTune_L45 k c2 c5 c6 c8 K n (v3 + (1 : Int32)) (v4 + ((M.1 (19, k, 0) c8.toNatClampNeg) + (M.1 (19, k, 1) c8.toNatClampNeg))) (v10 + (1 : Int32)) q162.2 else some ((0 : Int32), q162.2)) else some ((0 : Int32), q158.2)) else if v10 < 0 ∨ 64 ≤ v10.toNatClampNeg then none else if q5 = 0 then ((fX10_isClose (putI M (26, 0, 0) v10.toNatClampNeg ((M.1 (26, 0, 0) v10.toNatClampNeg) + ((1 : Int32) <<< (c8 &&& 31)))) k c2 c8 v10).bind fun q169 => if q169 = 0 then ((fX10_isClose (putI M (26, 0, 0) v10.toNatClampNeg ((M.1 (26, 0, 0) v10.toNatClampNeg) + ((1 : Int32) <<< (c8 &&& 31)))) k c2 c8 v10).bind fun q172 => if q172 = 0 then (if q5 = 0 then ((fJ4_append_cf468 (putI M (26, 0, 0) v10.toNatClampNeg ((M.1 (26, 0, 0) v10.toNatClampNeg) + ((1 : Int32) <<< (c8 &&& 31)))) 0 (45 : Int32) 70).bind fun q176 => (fX9_isPin q176 c2 c8 v10).bind fun q178 => if q178.1 = q5 then (if q5 = 0 then fL_isTune_L45 k c2 c5 c6 c8 K n (v3 + (0 : Int32)) (v4 + (0 : Int32)) (v10 + (1 : Int32)) q178.2 else (fX9_distance q178.2 c2 c8 v10).bind fun q182 => (fX10_distance q182.2 k c2 c8 v10).bind fun q184 => if q182.1 = q184 then fL_isTune_L45 k c2 c5 c6 c8 K n (v3 + (0 : Int32)) (v4 + (0 : Int32)) (v10 + (1 : Int32)) q182.2 else some ((0 : Int32), q182.2)) else some ((0 : Int32), q178.2)) else (fJ4_append_cf468 (putI M (26, 0, 0) v10.toNatClampNeg ((M.1 (26, 0, 0) v10.toNatClampNeg) + ((1 : Int32) <<< (c8 &&& 31)))) 0 (35 : Int32) 70).bind fun q187 => (fX9_isPin q187 c2 c8 v10).bind fun q189 => if q189.1 = q5 then (if q5 = 0 then fL_isTune_L45 k c2 c5 c6 c8 K n (v3 + (0 : Int32)) (v4 + (0 : Int32)) (v10 + (1 : Int32)) q189.2 else (fX9_distance q189.2 c2 c8 v10).bind fun q193 => (fX10_distance q193.2 k c2 c8 v10).bind fun q195 => if q193.1 = q195 then fL_isTune_L45 k c2 c5 c6 c8 K n (v3 + (0 : Int32)) (v4 + (0 : Int32)) (v10 + (1 : Int32)) q193.2 else some ((0 : Int32), q193.2)) else some ((0 : Int32), q189.2)) else (fJ4_append_cf468 (putI M (26, 0, 0) v10.toNatClampNeg ((M.1 (26, 0, 0) v10.toNatClampNeg) + ((1 : Int32) <<< (c8 &&& 31)))) 0 (33 : Int32) 70).bind fun q198 => (fX9_isPin q198 c2 c8 v10).bind fun q200 => if q200.1 = q5 then (if q5 = 0 then fL_isTune_L45 k c2 c5 c6 c8 K n (v3 + (0 : Int32)) (v4 + (0 : Int32)) (v10 + (1 : Int32)) q200.2 else (fX9_distance q200.2 c2 c8 v10).bind fun q204 => (fX10_distance q204.2 k c2 c8 v10).bind fun q206 => if q204.1 = q206 then fL_isTune_L45 k c2 c5 c6 c8 K n (v3 + (0 : Int32)) (v4 + (0 : Int32)) (v10 + (1 : Int32)) q204.2 else some ((0 : Int32), q204.2)) else some ((0 : Int32), q200.2)) else (fX10_isClose (putI M (26, 0, 0) v10.toNatClampNeg ((M.1 (26, 0, 0) v10.toNatClampNeg) + ((1 : Int32) <<< (c8 &&& 31)))) k c2 c8 v10).bind fun q209 => if q209 = 0 then (if q5 = 0 then ((fJ4_append_cf468 (putI M (26, 0, 0) v10.toNatClampNeg ((M.1 (26, 0, 0) v10.toNatClampNeg) + ((1 : Int32) <<< (c8 &&& 31)))) 0 (45 : Int32) 70).bind fun q213 => (fX9_isPin q213 c2 c8 v10).bind fun q215 => if q215.1 = q5 then (if q5 = 0 then fL_isTune_L45 k c2 c5 c6 c8 K n (v3 + (1 : Int32)) (v4 + (0 : Int32)) (v10 + (1 : Int32)) q215.2 else (fX9_distance q215.2 c2 c8 v10).bind fun q219 => (fX10_distance q219.2 k c2 c8 v10).bind fun q221 => if q219.1 = q221 then fL_isTune_L45 k c2 c5 c6 c8 K n (v3 + (1 : Int32)) (v4 + (0 : Int32)) (v10 + (1 : Int32)) q219.2 else some ((0 : Int32), q219.2)) else some ((0 : Int32), q215.2)) else (fJ4_append_cf468 (putI M (26, 0, 0) v10.toNatClampNeg ((M.1 (26, 0, 0) v10.toNatClampNeg) + ((1 : Int32) <<< (c8 &&& 31)))) 0 (35 : Int32) 70).bind fun q224 => (fX9_isPin q224 c2 c8 v10).bind fun q226 => if q226.1 = q5 then (if q5 = 0 then fL_isTune_L45 k c2 c5 c6 c8 K n (v3 + (1 : Int32)) (v4 + (0 : Int32)) (v10 + (1 : Int32)) q226.2 else (fX9_distance q226.2 c2 c8 v10).bind fun q230 => (fX10_distance q230.2 k c2 c8 v10).bind fun q232 => if q230.1 = q232 then fL_isTune_L45 k c2 c5 c6 c8 K n (v3 + (1 : Int32)) (v4 + (0 : Int32)) (v10 + (1 : Int32)) q230.2 else some ((0 : Int32), q230.2)) else some ((0 : Int32), q226.2)) else (fJ4_append_cf468 (putI M (26, 0, 0) v10.toNatClampNeg ((M.1 (26, 0, 0) v10.toNatClampNeg) + ((1 : Int32) <<< (c8 &&& 31)))) 0 (33 : Int32) 70).bind fun q235 => (fX9_isPin q235 c2 c8 v10).bind fun q237 => if q237.1 = q5 then (if q5 = 0 then fL_isTune_L45 k c2 c5 c6 c8 K n (v3 + (1 : Int32)) (v4 + (0 : Int32)) (v10 + (1 : Int32)) q237.2 else (fX9_distance q237.2 c2 c8 v10).bind fun q241 => (fX10_distance q241.2 k c2 c8 v10).bind fun q243 => if q241.1 = q243 then fL_isTune_L45 k c2 c5 c6 c8 K n (v3 + (1 : Int32)) (v4 + (0 : Int32)) (v10 + (1 : Int32)) q241.2 else some ((0 : Int32), q241.2)) else some ((0 : Int32), q237.2)) else if c8 < 0 ∨ 12 ≤ c8.toNatClampNeg then none else if c8 < 0 ∨ 12 ≤ c8.toNatClampNeg then none else (fX10_isClose (putI M (26, 0, 0) v10.toNatClampNeg ((M.1 (26, 0, 0) v10.toNatClampNeg) + ((1 : Int32) <<< (c8 &&& 31)))) k c2 c8 v10).bind fun q248 => if q248 = 0 then ((fX10_isClose (putI M (26, 0, 0) v10.toNatClampNeg ((M.1 (26, 0, 0) v10.toNatClampNeg) + ((1 : Int32) <<< (c8 &&& 31)))) k c2 c8 v10).bind fun q251 => if q251 = 0 then (if q5 = 0 then ((fJ4_append_cf468 (putI M (26, 0, 0) v10.toNatClampNeg ((M.1 (26, 0, 0) v10.toNatClampNeg) + ((1 : Int32) <<< (c8 &&& 31)))) 0 (45 : Int32) 70).bind fun q255 => (fX9_isPin q255 c2 c8 v10).bind fun q257 => if q257.1 = q5 then (if q5 = 0 then fL_isTune_L45 k c2 c5 c6 c8 K n (v3 + (0 : Int32)) (v4 + ((M.1 (19, k, 0) c8.toNatClampNeg) + (M.1 (19, k, 1) c8.toNatClampNeg))) (v10 + (1 : Int32)) q257.2 else (fX9_distance q257.2 c2 c8 v10).bind fun q261 => (fX10_distance q261.2 k c2 c8 v10).bind fun q263 => if q261.1 = q263 then fL_isTune_L45 k c2 c5 c6 c8 K n (v3 + (0 : Int32)) (v4 + ((M.1 (19, k, 0) c8.toNatClampNeg) + (M.1 (19, k, 1) c8.toNatClampNeg))) (v10 + (1 : Int32)) q261.2 else some ((0 : Int32), q261.2)) else some ((0 : Int32), q257.2)) else (fJ4_append_cf468 (putI M (26, 0, 0) v10.toNatClampNeg ((M.1 (26, 0, 0) v10.toNatClampNeg) + ((1 : Int32) <<< (c8 &&& 31)))) 0 (35 : Int32) 70).bind fun q266 => (fX9_isPin q266 c2 c8 v10).bind fun q268 => if q268.1 = q5 then (if q5 = 0 then fL_isTune_L45 k c2 c5 c6 c8 K n (v3 + (0 : Int32)) (v4 + ((M.1 (19, k, 0) c8.toNatClampNeg) + (M.1 (19, k, 1) c8.toNatClampNeg))) (v10 + (1 : Int32)) q268.2 else (fX9_distance q268.2 c2 c8 v10).bind fun q272 => (fX10_distance q272.2 k c2 c8 v10).bind fun q274 => if q272.1 = q274 then fL_isTune_L45 k c2 c5 c6 c8 K n (v3 + (0 : Int32)) (v4 + ((M.1 (19, k, 0) c8.toNatClampNeg) + (M.1 (19, k, 1) c8.toNatClampNeg))) (v10 + (1 : Int32)) q272.2 else some ((0 : Int32), q272.2)) else some ((0 : Int32), q268.2)) else (fJ4_append_cf468 (putI M (26, 0, 0) v10.toNatClampNeg ((M.1 (26, 0, 0) v10.toNatClampNeg) + ((1 : Int32) <<< (c8 &&& 31)))) 0 (33 : Int32) 70).bind fun q277 => (fX9_isPin q277 c2 c8 v10).bind fun q279 => if q279.1 = q5 then (if q5 = 0 then fL_isTune_L45 k c2 c5 c6 c8 K n (v3 + (0 : Int32)) (v4 + ((M.1 (19, k, 0) c8.toNatClampNeg) + (M.1 (19, k, 1) c8.toNatClampNeg))) (v10 + (1 : Int32)) q279.2 else (fX9_distance q279.2 c2 c8 v10).bind fun q283 => (fX10_distance q283.2 k c2 c8 v10).bind fun q285 => if q283.1 = q285 then fL_isTune_L45 k c2 c5 c6 c8 K n (v3 + (0 : Int32)) (v4 + ((M.1 (19, k, 0) c8.toNatClampNeg) + (M.1 (19, k, 1) c8.toNatClampNeg))) (v10 + (1 : Int32)) q283.2 else some ((0 : Int32), q283.2)) else some ((0 : Int32), q279.2)) else (fX10_isClose (putI M (26, 0, 0) v10.toNatClampNeg ((M.1 (26, 0, 0) v10.toNatClampNeg) + ((1 : Int32) <<< (c8 &&& 31)))) k c2 c8 v10).bind fun q288 => if q288 = 0 then (if q5 = 0 then ((fJ4_append_cf468 (putI M (26, 0, 0) v10.toNatClampNeg ((M.1 (26, 0, 0) v10.toNatClampNeg) + ((1 : Int32) <<< (c8 &&& 31)))) 0 (45 : Int32) 70).bind fun q292 => (fX9_isPin q292 c2 c8 v10).bind fun q294 => if q294.1 = q5 then (if q5 = 0 then fL_isTune_L45 k c2 c5 c6 c8 K n (v3 + (1 : Int32)) (v4 + ((M.1 (19, k, 0) c8.toNatClampNeg) + (M.1 (19, k, 1) c8.toNatClampNeg))) (v10 + (1 : Int32)) q294.2 else (fX9_distance q294.2 c2 c8 v10).bind fun q298 => (fX10_distance q298.2 k c2 c8 v10).bind fun q300 => if q298.1 = q300 then fL_isTune_L45 k c2 c5 c6 c8 K n (v3 + (1 : Int32)) (v4 + ((M.1 (19, k, 0) c8.toNatClampNeg) + (M.1 (19, k, 1) c8.toNatClampNeg))) (v10 + (1 : Int32)) q298.2 else some ((0 : Int32), q298.2)) else some ((0 : Int32), q294.2)) else (fJ4_append_cf468 (putI M (26, 0, 0) v10.toNatClampNeg ((M.1 (26, 0, 0) v10.toNatClampNeg) + ((1 : Int32) <<< (c8 &&& 31)))) 0 (35 : Int32) 70).bind fun q303 => (fX9_isPin q303 c2 c8 v10).bind fun q305 => if q305.1 = q5 then (if q5 = 0 then fL_isTune_L45 k c2 c5 c6 c8 K n (v3 + (1 : Int32)) (v4 + ((M.1 (19, k, 0) c8.toNatClampNeg) + (M.1 (19, k, 1) c8.toNatClampNeg))) (v10 + (1 : Int32)) q305.2 else (fX9_distance q305.2 c2 c8 v10).bind fun q309 => (fX10_distance q309.2 k c2 c8 v10).bind fun q311 => if q309.1 = q311 then fL_isTune_L45 k c2 c5 c6 c8 K n (v3 + (1 : Int32)) (v4 + ((M.1 (19, k, 0) c8.toNatClampNeg) + (M.1 (19, k, 1) c8.toNatClampNeg))) (v10 + (1 : Int32)) q309.2 else some ((0 : Int32), q309.2)) else some ((0 : Int32), q305.2)) else (fJ4_append_cf468 (putI M (26, 0, 0) v10.toNatClampNeg ((M.1 (26, 0, 0) v10.toNatClampNeg) + ((1 : Int32) <<< (c8 &&& 31)))) 0 (33 : Int32) 70).bind fun q314 => (fX9_isPin q314 c2 c8 v10).bind fun q316 => if q316.1 = q5 then (if q5 = 0 then fL_isTune_L45 k c2 c5 c6 c8 K n (v3 + (1 : Int32)) (v4 + ((M.1 (19, k, 0) c8.toNatClampNeg) + (M.1 (19, k, 1) c8.toNatClampNeg))) (v10 + (1 : Int32)) q316.2 else (fX9_distance q316.2 c2 c8 v10).bind fun q320 => (fX10_distance q320.2 k c2 c8 v10).bind fun q322 => if q320.1 = q322 then fL_isTune_L45 k c2 c5 c6 c8 K n (v3 + (1 : Int32)) (v4 + ((M.1 (19, k, 0) c8.toNatClampNeg) + (M.1 (19, k, 1) c8.toNatClampNeg))) (v10 + (1 : Int32)) q320.2 else some ((0 : Int32), q320.2)) else some ((0 : Int32), q316.2)
def fL_isTune_L24 (k : Nat) (c2 : Int32) (c5 : Int32) (c6 : Int32) (K : Int32 → Int32 → Int32 → Mm → Option (Int32 × Mm)) : Nat → Int32 → Int32 → Int32 → Mm → Option (Int32 × Mm)
  | 0, _, _, _, _ => none
  | n + 1, v3, v4, v8, M => if (M.1 (18, k, 0) 3) ≤ v8 then K v3 v4 v8 M else fL_isTune_L45 k c2 c5 c6 v8 (fun w325 w326 w327 M328 => (fX9_writePins M328 c2 v8).bind fun q329 => (fJ4_toString q329.2 0 0 70).bind fun q331 => (fL_isOutput q331 q329.1 0).bind fun q333 => if q333.1 = 0 then some ((0 : Int32), q333.2) else fL_isTune_L24 k c2 c5 c6 K n w325 w326 (v8 + (1 : Int32)) q333.2) 65 v3 v4 (0 : Int32) (nSB M 0)
def fL_isTune_L260 (k : Nat) (c2 : Int32) (c3 : Int32) (c4 : Int32) (c5 : Int32) (c6 : Int32) (c8 : Int32) (K : Int32 → Mm → Option (Int32 × Mm)) : Nat → Int32 → Mm → Option (Int32 × Mm)
  | 0, _, _ => none
  | n + 1, v9, M => if (M.1 (18, k, 0) 0) ≤ v9 then K v9 M else if (M.1 (18, k, 0) 0) = 0 then none else if ((c8 + v9) - (c8 + v9) / (M.1 (18, k, 0) 0) * (M.1 (18, k, 0) 0)) < 0 ∨ 64 ≤ ((c8 + v9) - (c8 + v9) / (M.1 (18, k, 0) 0) * (M.1 (18, k, 0) 0)).toNatClampNeg then none else if (M.1 (26, 0, 0) ((c8 + v9) - (c8 + v9) / (M.1 (18, k, 0) 0) * (M.1 (18, k, 0) 0)).toNatClampNeg) = 0 then fL_isTune_L260 k c2 c3 c4 c5 c6 c8 K n (v9 + (1 : Int32)) M else K v9 M
def fL_isTune_L248 (k : Nat) (c2 : Int32) (c3 : Int32) (c4 : Int32) (c6 : Int32) (K : Int32 → Int32 → Mm → Option (Int32 × Mm)) : Nat → Int32 → Int32 → Mm → Option (Int32 × Mm)
  | 0, _, _, _ => none
  | n + 1, v5, v8, M => if (M.1 (18, k, 0) 0) ≤ v8 then K v5 v8 M else fL_isTune_L260 k c2 c3 c4 v5 c6 v8 (fun w345 M346 => (fX9_chord M346 c2 v8).bind fun q347 => if v8 < 0 ∨ 64 ≤ v8.toNatClampNeg then none else if q347.1 = (q347.2.1 (26, 0, 0) v8.toNatClampNeg) then fL_isTune_L248 k c2 c3 c4 c6 K n (fJ9_max_7cf53 M346 v5 w345) (v8 + (1 : Int32)) q347.2 else some ((0 : Int32), q347.2)) NF (0 : Int32) M
def fL_isTune (M : Mm) (k : Nat) (x3 : Int32) : Option (Int32 × Mm) := (fX10_pinsOf M k x3).bind fun q1 => fL_isTune_L24 k x3 (0 : Int32) q1 (fun w336 w337 w338 M339 => fL_isTune_L248 k x3 w336 w337 q1 (fun w351 w352 M353 => (fX9_pinCount M353 x3).bind fun q354 => if q354.1 = q1 then ((fX9_closePins q354.2 x3).bind fun q358 => if q358.1 = w336 then ((fX9_longestRest q358.2 x3).bind fun q362 => if q362.1 = w351 then ((fX9_meanPitch q362.2 x3).bind fun q366 => if q1 = 0 then (if (Op.cmpValue (FP.dcmp q366.1 FP.dconst0) .l) = 0 then ((fX9_density q366.2 x3).bind fun q380 => if (FP.fdiv (FP.i2f q1) (FP.i2f ((q380.2.1 (18, k, 0) 0) * (q380.2.1 (18, k, 0) 3)))) &&& 0x7fffffff ≤ 0x7f800000 then if (fbits q380.1) = (fbits (FP.fdiv (FP.i2f q1) (FP.i2f ((q380.2.1 (18, k, 0) 0) * (q380.2.1 (18, k, 0) 3))))) then some ((1 : Int32), q380.2) else some ((0 : Int32), q380.2) else none) else some ((0 : Int32), q366.2)) else if (FP.ddiv (FP.i2d w337) (FP.i2d q1)) &&& 0x7fffffffffffffff ≤ 0x7ff0000000000000 then if (Op.cmpValue (FP.dcmp q366.1 (FP.ddiv (FP.i2d w337) (FP.i2d q1))) .l) = 0 then ((fX9_density q366.2 x3).bind fun q373 => if (FP.fdiv (FP.i2f q1) (FP.i2f ((q373.2.1 (18, k, 0) 0) * (q373.2.1 (18, k, 0) 3)))) &&& 0x7fffffff ≤ 0x7f800000 then if (fbits q373.1) = (fbits (FP.fdiv (FP.i2f q1) (FP.i2f ((q373.2.1 (18, k, 0) 0) * (q373.2.1 (18, k, 0) 3))))) then some ((1 : Int32), q373.2) else some ((0 : Int32), q373.2) else none) else some ((0 : Int32), q366.2) else none) else some ((0 : Int32), q362.2)) else some ((0 : Int32), q358.2)) else some ((0 : Int32), q354.2)) NF (0 : Int32) (0 : Int32) M339) 13 (0 : Int32) (0 : Int32) (0 : Int32) (mN M (26, 0, 0))
set_option maxRecDepth 20000 in
set_option maxHeartbeats 4000000 in
theorem sL_isTune_L45 {w0 wv : Wv} (k : Nat) (c2 : Int32) (c5 : Int32) (c6 : Int32) (c8 : Int32) (hw : SubW w0 wv) (owk : OwI wv k) (ch0 : (26, 0, 0) ∈ allR wv) (tb0 : TbI wv 0) (hf : FrI wv [(27, 0, 0), (28, 0, 0), (29, 0, 0)]) (hV : NoV w0 0) {res : (Int32 × Mm)} {K : Int32 → Int32 → Int32 → Mm → Option (Int32 × Mm)} {CB SB : Nat} (hcb : CB ≤ 898) (hsb : SB ≤ 60436) : ∀ (n : Nat) (v3 : Int32) (v4 : Int32) (v10 : Int32) (M : Mm) (c s : Nat), c + n * 1 ≤ CB → s + n * 70 ≤ SB → fL_isTune_L45 k c2 c5 c6 c8 K n v3 v4 v10 M = some res →
    (∀ (v3 : Int32) (v4 : Int32) (v10 : Int32) (M : Mm) (c s : Nat), c ≤ CB → s ≤ SB → K v3 v4 v10 M = some res → Z RL cL_isTune 12 (some .boolean) [] "isTune" (rmD 12 898 60436) (QM SH (allR w0) 898 60436 (fun v M9 => v = some (.int res.1) ∧ M9 = res.2) (fun _ _ => False)) (allR wv) SH c s 218 [some (.inr (0, 0, 0)), some (.inr (18, k, 0)), some (.inl (.int c2)), some (.inl (.int v3)), some (.inl (.int v4)), some (.inl (.int c5)), some (.inl (.int c6)), some (.inr (26, 0, 0)), some (.inl (.int c8)), some (.inr (24, 0, 0)), some (.inl (.int v10)), none] [] M) → Z RL cL_isTune 12 (some .boolean) [] "isTune" (rmD 12 898 60436) (QM SH (allR w0) 898 60436 (fun v M9 => v = some (.int res.1) ∧ M9 = res.2) (fun _ _ => False)) (allR wv) SH c s 45 [some (.inr (0, 0, 0)), some (.inr (18, k, 0)), some (.inl (.int c2)), some (.inl (.int v3)), some (.inl (.int v4)), some (.inl (.int c5)), some (.inl (.int c6)), some (.inr (26, 0, 0)), some (.inl (.int c8)), some (.inr (24, 0, 0)), some (.inl (.int v10)), none] [] M := by
  intro n
  induction n with
  | zero => intro v3 v4 v10 M c s _ _ h; cases h
  | succ n ih =>
    intro v3 v4 v10 M c s hc hs h hK
    have qv := qm_N (mc := 898) (ms := 60436) (sh := SH) (PR := fun v M9 => v = some (.int res.1) ∧ M9 = res.2) (PX := fun _ _ => False) hV
    rw [fL_isTune_L45] at h
    refine z_iload (i := 10) dL_isTune_45 rfl ?_
    refine z_aload_n (i := 1) dL_isTune_47 rfl rfl ?_
    refine z_getIG (x := (M.1 (18, k, 0) 0)) dL_isTune_48 fg_L_51 owk.1 rfl rfl ?_
    refine z_icmp_ge (tgt := 218) dL_isTune_51 rfl (fun hc4 => ?_) (fun hc4 => ?_)
    · have h := it_t h hc4
      exact hK _ _ _ _ _ _ (by omega) (by omega) h
    · have h := it_f h hc4
      refine z_aload_n (i := 1) dL_isTune_54 rfl rfl ?_
      refine z_iload_n (i := 2) dL_isTune_55 rfl rfl ?_
      refine z_iload (i := 8) dL_isTune_56 rfl ?_
      refine z_iload (i := 10) dL_isTune_58 rfl ?_
      obtain ⟨q5, hq6, h⟩ := bnd h
      refine z_fVi (sX10_has M k c2 c8 v10 owk hq6) dL_isTune_60 ml_L_54 cd_X10_has owk.1 rfl rfl rfl (rmk_r (by decide) (by decide) (by omega) (by omega)) rfl rfl ?_
      refine z_istore (i := 11) dL_isTune_63 (Nat.le_of_ble_eq_true rfl) rfl ?_
      refine z_aload (i := 7) dL_isTune_65 rfl ?_
      refine z_iload (i := 10) dL_isTune_67 rfl ?_
      refine z_dup2 dL_isTune_69 rfl rfl ?_
      obtain ⟨hc7, h⟩ := chk h
      refine z_iald (x := (M.1 (26, 0, 0) v10.toNatClampNeg)) dL_isTune_70 ch0 rfl hc7 rfl ?_
      refine z_iload (i := 11) dL_isTune_71 rfl ?_
      refine z_if_eq (tgt := 83) dL_isTune_73 rfl (fun hc8 => ?_) (fun hc8 => ?_)
      · have h := it_t h hc8
        refine z_iconst (v := (0 : Int32)) dL_isTune_83 kc_0 ?_
        refine z_iadd dL_isTune_84 ?_
        obtain ⟨hc9, h⟩ := chk h
        refine z_iast (j := v10.toNatClampNeg) allR_nd dL_isTune_85 ch0 rfl hc9 rfl ?_
        refine z_iload (i := 4) dL_isTune_86 rfl ?_
        refine z_iload (i := 11) dL_isTune_88 rfl ?_
        refine z_if_eq (tgt := 111) dL_isTune_90 rfl (fun hc10 => ?_) (fun hc10 => ?_)
        · have h := it_t h hc10
          refine z_iconst (v := (0 : Int32)) dL_isTune_111 kc_0 ?_
          refine z_iadd dL_isTune_112 ?_
          refine z_istore (i := 4) dL_isTune_113 (Nat.le_of_ble_eq_true rfl) rfl ?_
          refine z_iload_n (i := 3) dL_isTune_115 rfl rfl ?_
          refine z_aload_n (i := 1) dL_isTune_116 rfl rfl ?_
          refine z_iload_n (i := 2) dL_isTune_117 rfl rfl ?_
          refine z_iload (i := 8) dL_isTune_118 rfl ?_
          refine z_iload (i := 10) dL_isTune_120 rfl ?_
          obtain ⟨q11, hq12, h⟩ := bnd h
          refine z_fVi (sX10_isClose (putI M (26, 0, 0) v10.toNatClampNeg ((M.1 (26, 0, 0) v10.toNatClampNeg) + (0 : Int32))) k c2 c8 v10 owk hq12) dL_isTune_122 ml_L_65 cd_X10_isClose owk.1 rfl rfl rfl (rmk_r (by decide) (by decide) (by omega) (by omega)) rfl rfl ?_
          refine z_if_eq (tgt := 132) dL_isTune_125 rfl (fun hc13 => ?_) (fun hc13 => ?_)
          · have h := it_t h hc13
            refine z_iconst (v := (0 : Int32)) dL_isTune_132 kc_0 ?_
            refine z_iadd dL_isTune_133 ?_
            refine z_istore_n (i := 3) dL_isTune_134 rfl (Nat.le_of_ble_eq_true rfl) rfl ?_
            refine z_aload (i := 9) dL_isTune_135 rfl ?_
            refine z_aload_n (i := 1) dL_isTune_137 rfl rfl ?_
            refine z_iload_n (i := 2) dL_isTune_138 rfl rfl ?_
            refine z_iload (i := 8) dL_isTune_139 rfl ?_
            refine z_iload (i := 10) dL_isTune_141 rfl ?_
            obtain ⟨q14, hq15, h⟩ := bnd h
            refine z_fVi (sX10_isClose (putI M (26, 0, 0) v10.toNatClampNeg ((M.1 (26, 0, 0) v10.toNatClampNeg) + (0 : Int32))) k c2 c8 v10 owk hq15) dL_isTune_143 ml_L_65 cd_X10_isClose owk.1 rfl rfl rfl (rmk_r (by decide) (by decide) (by omega) (by omega)) rfl rfl ?_
            refine z_if_eq (tgt := 154) dL_isTune_146 rfl (fun hc16 => ?_) (fun hc16 => ?_)
            · have h := it_t h hc16
              refine z_iload (i := 11) dL_isTune_154 rfl ?_
              refine z_if_eq (tgt := 164) dL_isTune_156 rfl (fun hc17 => ?_) (fun hc17 => ?_)
              · have h := it_t h hc17
                refine z_bipush (v := (45 : Int32)) dL_isTune_164 kb_45 ?_
                obtain ⟨q18, hq19, h⟩ := bnd h
                refine z_cGV (sJ4_append_cf468 (putI M (26, 0, 0) v10.toNatClampNeg ((M.1 (26, 0, 0) v10.toNatClampNeg) + (0 : Int32))) 0 (45 : Int32) 70 tb0 (by decide) (frS hf rfl) hq19) dL_isTune_166 ml_L_68 cd_J4_append_cf468 tb0.1 rfl rfl rfl (rq_o (by decide) (by decide) (by omega) (by omega)) rfl rfl (qi_N qv rfl) rfl rfl rfl ?_
                refine z_pop dL_isTune_169 rfl ?_
                refine z_aload_n (i := 0) dL_isTune_170 rfl rfl ?_
                refine z_iload_n (i := 2) dL_isTune_171 rfl rfl ?_
                refine z_iload (i := 8) dL_isTune_172 rfl ?_
                refine z_iload (i := 10) dL_isTune_174 rfl ?_
                obtain ⟨q20, hq21, h⟩ := bnd h
                refine z_fVi (sX9_isPin q18 c2 c8 v10 hq21) dL_isTune_176 ml_L_71 cd_X9_isPin mk0 rfl rfl rfl (rmk_r (by decide) (by decide) (by omega) (by omega)) rfl rfl ?_
                refine z_iload (i := 11) dL_isTune_179 rfl ?_
                refine z_icmp_ne (tgt := 210) dL_isTune_181 rfl (fun hc22 => ?_) (fun hc22 => ?_)
                · have h := it_f h hc22
                  refine z_iconst (v := (0 : Int32)) dL_isTune_210 kc_0 ?_
                  cases h
                  refine z_sub hw ?_
                  exact z_iret dL_isTune_211 rfl rfl (by omega) (by omega) ⟨rfl, rfl⟩
                · have h := it_t h hc22
                  refine z_iload (i := 11) dL_isTune_184 rfl ?_
                  refine z_if_eq (tgt := 212) dL_isTune_186 rfl (fun hc23 => ?_) (fun hc23 => ?_)
                  · have h := it_t h hc23
                    refine z_iinc (i := 10) (v := (v10 + (1 : Int32))) dL_isTune_212 rfl (iinc_k kc_1) (Nat.le_of_ble_eq_true rfl) rfl ?_
                    refine z_goto (tgt := 45) dL_isTune_215 rfl ?_
                    refine z_fgt (i := 11) ?_
                    exact ih _ _ _ _ _ _ (by omega) (by omega) h hK
                  · have h := it_f h hc23
                    refine z_aload_n (i := 0) dL_isTune_189 rfl rfl ?_
                    refine z_iload_n (i := 2) dL_isTune_190 rfl rfl ?_
                    refine z_iload (i := 8) dL_isTune_191 rfl ?_
                    refine z_iload (i := 10) dL_isTune_193 rfl ?_
                    obtain ⟨q24, hq25, h⟩ := bnd h
                    refine z_fVi (sX9_distance q20.2 c2 c8 v10 hq25) dL_isTune_195 ml_L_74 cd_X9_distance mk0 rfl rfl rfl (rmk_r (by decide) (by decide) (by omega) (by omega)) rfl rfl ?_
                    refine z_aload_n (i := 1) dL_isTune_198 rfl rfl ?_
                    refine z_iload_n (i := 2) dL_isTune_199 rfl rfl ?_
                    refine z_iload (i := 8) dL_isTune_200 rfl ?_
                    refine z_iload (i := 10) dL_isTune_202 rfl ?_
                    obtain ⟨q26, hq27, h⟩ := bnd h
                    refine z_fVi (sX10_distance q24.2 k c2 c8 v10 owk hq27) dL_isTune_204 ml_L_78 cd_X10_distance owk.1 rfl rfl rfl (rmk_r (by decide) (by decide) (by omega) (by omega)) rfl rfl ?_
                    refine z_icmp_eq (tgt := 212) dL_isTune_207 rfl (fun hc28 => ?_) (fun hc28 => ?_)
                    · have h := it_t h hc28
                      refine z_iinc (i := 10) (v := (v10 + (1 : Int32))) dL_isTune_212 rfl (iinc_k kc_1) (Nat.le_of_ble_eq_true rfl) rfl ?_
                      refine z_goto (tgt := 45) dL_isTune_215 rfl ?_
                      refine z_fgt (i := 11) ?_
                      exact ih _ _ _ _ _ _ (by omega) (by omega) h hK
                    · have h := it_f h hc28
                      refine z_iconst (v := (0 : Int32)) dL_isTune_210 kc_0 ?_
                      cases h
                      refine z_sub hw ?_
                      exact z_iret dL_isTune_211 rfl rfl (by omega) (by omega) ⟨rfl, rfl⟩
              · have h := it_f h hc17
                refine z_bipush (v := (35 : Int32)) dL_isTune_159 kb_35 ?_
                refine z_goto (tgt := 166) dL_isTune_161 rfl ?_
                obtain ⟨q29, hq30, h⟩ := bnd h
                refine z_cGV (sJ4_append_cf468 (putI M (26, 0, 0) v10.toNatClampNeg ((M.1 (26, 0, 0) v10.toNatClampNeg) + (0 : Int32))) 0 (35 : Int32) 70 tb0 (by decide) (frS hf rfl) hq30) dL_isTune_166 ml_L_68 cd_J4_append_cf468 tb0.1 rfl rfl rfl (rq_o (by decide) (by decide) (by omega) (by omega)) rfl rfl (qi_N qv rfl) rfl rfl rfl ?_
                refine z_pop dL_isTune_169 rfl ?_
                refine z_aload_n (i := 0) dL_isTune_170 rfl rfl ?_
                refine z_iload_n (i := 2) dL_isTune_171 rfl rfl ?_
                refine z_iload (i := 8) dL_isTune_172 rfl ?_
                refine z_iload (i := 10) dL_isTune_174 rfl ?_
                obtain ⟨q31, hq32, h⟩ := bnd h
                refine z_fVi (sX9_isPin q29 c2 c8 v10 hq32) dL_isTune_176 ml_L_71 cd_X9_isPin mk0 rfl rfl rfl (rmk_r (by decide) (by decide) (by omega) (by omega)) rfl rfl ?_
                refine z_iload (i := 11) dL_isTune_179 rfl ?_
                refine z_icmp_ne (tgt := 210) dL_isTune_181 rfl (fun hc33 => ?_) (fun hc33 => ?_)
                · have h := it_f h hc33
                  refine z_iconst (v := (0 : Int32)) dL_isTune_210 kc_0 ?_
                  cases h
                  refine z_sub hw ?_
                  exact z_iret dL_isTune_211 rfl rfl (by omega) (by omega) ⟨rfl, rfl⟩
                · have h := it_t h hc33
                  refine z_iload (i := 11) dL_isTune_184 rfl ?_
                  refine z_if_eq (tgt := 212) dL_isTune_186 rfl (fun hc34 => ?_) (fun hc34 => ?_)
                  · have h := it_t h hc34
                    refine z_iinc (i := 10) (v := (v10 + (1 : Int32))) dL_isTune_212 rfl (iinc_k kc_1) (Nat.le_of_ble_eq_true rfl) rfl ?_
                    refine z_goto (tgt := 45) dL_isTune_215 rfl ?_
                    refine z_fgt (i := 11) ?_
                    exact ih _ _ _ _ _ _ (by omega) (by omega) h hK
                  · have h := it_f h hc34
                    refine z_aload_n (i := 0) dL_isTune_189 rfl rfl ?_
                    refine z_iload_n (i := 2) dL_isTune_190 rfl rfl ?_
                    refine z_iload (i := 8) dL_isTune_191 rfl ?_
                    refine z_iload (i := 10) dL_isTune_193 rfl ?_
                    obtain ⟨q35, hq36, h⟩ := bnd h
                    refine z_fVi (sX9_distance q31.2 c2 c8 v10 hq36) dL_isTune_195 ml_L_74 cd_X9_distance mk0 rfl rfl rfl (rmk_r (by decide) (by decide) (by omega) (by omega)) rfl rfl ?_
                    refine z_aload_n (i := 1) dL_isTune_198 rfl rfl ?_
                    refine z_iload_n (i := 2) dL_isTune_199 rfl rfl ?_
                    refine z_iload (i := 8) dL_isTune_200 rfl ?_
                    refine z_iload (i := 10) dL_isTune_202 rfl ?_
                    obtain ⟨q37, hq38, h⟩ := bnd h
                    refine z_fVi (sX10_distance q35.2 k c2 c8 v10 owk hq38) dL_isTune_204 ml_L_78 cd_X10_distance owk.1 rfl rfl rfl (rmk_r (by decide) (by decide) (by omega) (by omega)) rfl rfl ?_
                    refine z_icmp_eq (tgt := 212) dL_isTune_207 rfl (fun hc39 => ?_) (fun hc39 => ?_)
                    · have h := it_t h hc39
                      refine z_iinc (i := 10) (v := (v10 + (1 : Int32))) dL_isTune_212 rfl (iinc_k kc_1) (Nat.le_of_ble_eq_true rfl) rfl ?_
                      refine z_goto (tgt := 45) dL_isTune_215 rfl ?_
                      refine z_fgt (i := 11) ?_
                      exact ih _ _ _ _ _ _ (by omega) (by omega) h hK
                    · have h := it_f h hc39
                      refine z_iconst (v := (0 : Int32)) dL_isTune_210 kc_0 ?_
                      cases h
                      refine z_sub hw ?_
                      exact z_iret dL_isTune_211 rfl rfl (by omega) (by omega) ⟨rfl, rfl⟩
            · have h := it_f h hc16
              refine z_bipush (v := (33 : Int32)) dL_isTune_149 kb_33 ?_
              refine z_goto (tgt := 166) dL_isTune_151 rfl ?_
              obtain ⟨q40, hq41, h⟩ := bnd h
              refine z_cGV (sJ4_append_cf468 (putI M (26, 0, 0) v10.toNatClampNeg ((M.1 (26, 0, 0) v10.toNatClampNeg) + (0 : Int32))) 0 (33 : Int32) 70 tb0 (by decide) (frS hf rfl) hq41) dL_isTune_166 ml_L_68 cd_J4_append_cf468 tb0.1 rfl rfl rfl (rq_o (by decide) (by decide) (by omega) (by omega)) rfl rfl (qi_N qv rfl) rfl rfl rfl ?_
              refine z_pop dL_isTune_169 rfl ?_
              refine z_aload_n (i := 0) dL_isTune_170 rfl rfl ?_
              refine z_iload_n (i := 2) dL_isTune_171 rfl rfl ?_
              refine z_iload (i := 8) dL_isTune_172 rfl ?_
              refine z_iload (i := 10) dL_isTune_174 rfl ?_
              obtain ⟨q42, hq43, h⟩ := bnd h
              refine z_fVi (sX9_isPin q40 c2 c8 v10 hq43) dL_isTune_176 ml_L_71 cd_X9_isPin mk0 rfl rfl rfl (rmk_r (by decide) (by decide) (by omega) (by omega)) rfl rfl ?_
              refine z_iload (i := 11) dL_isTune_179 rfl ?_
              refine z_icmp_ne (tgt := 210) dL_isTune_181 rfl (fun hc44 => ?_) (fun hc44 => ?_)
              · have h := it_f h hc44
                refine z_iconst (v := (0 : Int32)) dL_isTune_210 kc_0 ?_
                cases h
                refine z_sub hw ?_
                exact z_iret dL_isTune_211 rfl rfl (by omega) (by omega) ⟨rfl, rfl⟩
              · have h := it_t h hc44
                refine z_iload (i := 11) dL_isTune_184 rfl ?_
                refine z_if_eq (tgt := 212) dL_isTune_186 rfl (fun hc45 => ?_) (fun hc45 => ?_)
                · have h := it_t h hc45
                  refine z_iinc (i := 10) (v := (v10 + (1 : Int32))) dL_isTune_212 rfl (iinc_k kc_1) (Nat.le_of_ble_eq_true rfl) rfl ?_
                  refine z_goto (tgt := 45) dL_isTune_215 rfl ?_
                  refine z_fgt (i := 11) ?_
                  exact ih _ _ _ _ _ _ (by omega) (by omega) h hK
                · have h := it_f h hc45
                  refine z_aload_n (i := 0) dL_isTune_189 rfl rfl ?_
                  refine z_iload_n (i := 2) dL_isTune_190 rfl rfl ?_
                  refine z_iload (i := 8) dL_isTune_191 rfl ?_
                  refine z_iload (i := 10) dL_isTune_193 rfl ?_
                  obtain ⟨q46, hq47, h⟩ := bnd h
                  refine z_fVi (sX9_distance q42.2 c2 c8 v10 hq47) dL_isTune_195 ml_L_74 cd_X9_distance mk0 rfl rfl rfl (rmk_r (by decide) (by decide) (by omega) (by omega)) rfl rfl ?_
                  refine z_aload_n (i := 1) dL_isTune_198 rfl rfl ?_
                  refine z_iload_n (i := 2) dL_isTune_199 rfl rfl ?_
                  refine z_iload (i := 8) dL_isTune_200 rfl ?_
                  refine z_iload (i := 10) dL_isTune_202 rfl ?_
                  obtain ⟨q48, hq49, h⟩ := bnd h
                  refine z_fVi (sX10_distance q46.2 k c2 c8 v10 owk hq49) dL_isTune_204 ml_L_78 cd_X10_distance owk.1 rfl rfl rfl (rmk_r (by decide) (by decide) (by omega) (by omega)) rfl rfl ?_
                  refine z_icmp_eq (tgt := 212) dL_isTune_207 rfl (fun hc50 => ?_) (fun hc50 => ?_)
                  · have h := it_t h hc50
                    refine z_iinc (i := 10) (v := (v10 + (1 : Int32))) dL_isTune_212 rfl (iinc_k kc_1) (Nat.le_of_ble_eq_true rfl) rfl ?_
                    refine z_goto (tgt := 45) dL_isTune_215 rfl ?_
                    refine z_fgt (i := 11) ?_
                    exact ih _ _ _ _ _ _ (by omega) (by omega) h hK
                  · have h := it_f h hc50
                    refine z_iconst (v := (0 : Int32)) dL_isTune_210 kc_0 ?_
                    cases h
                    refine z_sub hw ?_
                    exact z_iret dL_isTune_211 rfl rfl (by omega) (by omega) ⟨rfl, rfl⟩
          · have h := it_f h hc13
            refine z_iconst (v := (1 : Int32)) dL_isTune_128 kc_1 ?_
            refine z_goto (tgt := 133) dL_isTune_129 rfl ?_
            refine z_iadd dL_isTune_133 ?_
            refine z_istore_n (i := 3) dL_isTune_134 rfl (Nat.le_of_ble_eq_true rfl) rfl ?_
            refine z_aload (i := 9) dL_isTune_135 rfl ?_
            refine z_aload_n (i := 1) dL_isTune_137 rfl rfl ?_
            refine z_iload_n (i := 2) dL_isTune_138 rfl rfl ?_
            refine z_iload (i := 8) dL_isTune_139 rfl ?_
            refine z_iload (i := 10) dL_isTune_141 rfl ?_
            obtain ⟨q51, hq52, h⟩ := bnd h
            refine z_fVi (sX10_isClose (putI M (26, 0, 0) v10.toNatClampNeg ((M.1 (26, 0, 0) v10.toNatClampNeg) + (0 : Int32))) k c2 c8 v10 owk hq52) dL_isTune_143 ml_L_65 cd_X10_isClose owk.1 rfl rfl rfl (rmk_r (by decide) (by decide) (by omega) (by omega)) rfl rfl ?_
            refine z_if_eq (tgt := 154) dL_isTune_146 rfl (fun hc53 => ?_) (fun hc53 => ?_)
            · have h := it_t h hc53
              refine z_iload (i := 11) dL_isTune_154 rfl ?_
              refine z_if_eq (tgt := 164) dL_isTune_156 rfl (fun hc54 => ?_) (fun hc54 => ?_)
              · have h := it_t h hc54
                refine z_bipush (v := (45 : Int32)) dL_isTune_164 kb_45 ?_
                obtain ⟨q55, hq56, h⟩ := bnd h
                refine z_cGV (sJ4_append_cf468 (putI M (26, 0, 0) v10.toNatClampNeg ((M.1 (26, 0, 0) v10.toNatClampNeg) + (0 : Int32))) 0 (45 : Int32) 70 tb0 (by decide) (frS hf rfl) hq56) dL_isTune_166 ml_L_68 cd_J4_append_cf468 tb0.1 rfl rfl rfl (rq_o (by decide) (by decide) (by omega) (by omega)) rfl rfl (qi_N qv rfl) rfl rfl rfl ?_
                refine z_pop dL_isTune_169 rfl ?_
                refine z_aload_n (i := 0) dL_isTune_170 rfl rfl ?_
                refine z_iload_n (i := 2) dL_isTune_171 rfl rfl ?_
                refine z_iload (i := 8) dL_isTune_172 rfl ?_
                refine z_iload (i := 10) dL_isTune_174 rfl ?_
                obtain ⟨q57, hq58, h⟩ := bnd h
                refine z_fVi (sX9_isPin q55 c2 c8 v10 hq58) dL_isTune_176 ml_L_71 cd_X9_isPin mk0 rfl rfl rfl (rmk_r (by decide) (by decide) (by omega) (by omega)) rfl rfl ?_
                refine z_iload (i := 11) dL_isTune_179 rfl ?_
                refine z_icmp_ne (tgt := 210) dL_isTune_181 rfl (fun hc59 => ?_) (fun hc59 => ?_)
                · have h := it_f h hc59
                  refine z_iconst (v := (0 : Int32)) dL_isTune_210 kc_0 ?_
                  cases h
                  refine z_sub hw ?_
                  exact z_iret dL_isTune_211 rfl rfl (by omega) (by omega) ⟨rfl, rfl⟩
                · have h := it_t h hc59
                  refine z_iload (i := 11) dL_isTune_184 rfl ?_
                  refine z_if_eq (tgt := 212) dL_isTune_186 rfl (fun hc60 => ?_) (fun hc60 => ?_)
                  · have h := it_t h hc60
                    refine z_iinc (i := 10) (v := (v10 + (1 : Int32))) dL_isTune_212 rfl (iinc_k kc_1) (Nat.le_of_ble_eq_true rfl) rfl ?_
                    refine z_goto (tgt := 45) dL_isTune_215 rfl ?_
                    refine z_fgt (i := 11) ?_
                    exact ih _ _ _ _ _ _ (by omega) (by omega) h hK
                  · have h := it_f h hc60
                    refine z_aload_n (i := 0) dL_isTune_189 rfl rfl ?_
                    refine z_iload_n (i := 2) dL_isTune_190 rfl rfl ?_
                    refine z_iload (i := 8) dL_isTune_191 rfl ?_
                    refine z_iload (i := 10) dL_isTune_193 rfl ?_
                    obtain ⟨q61, hq62, h⟩ := bnd h
                    refine z_fVi (sX9_distance q57.2 c2 c8 v10 hq62) dL_isTune_195 ml_L_74 cd_X9_distance mk0 rfl rfl rfl (rmk_r (by decide) (by decide) (by omega) (by omega)) rfl rfl ?_
                    refine z_aload_n (i := 1) dL_isTune_198 rfl rfl ?_
                    refine z_iload_n (i := 2) dL_isTune_199 rfl rfl ?_
                    refine z_iload (i := 8) dL_isTune_200 rfl ?_
                    refine z_iload (i := 10) dL_isTune_202 rfl ?_
                    obtain ⟨q63, hq64, h⟩ := bnd h
                    refine z_fVi (sX10_distance q61.2 k c2 c8 v10 owk hq64) dL_isTune_204 ml_L_78 cd_X10_distance owk.1 rfl rfl rfl (rmk_r (by decide) (by decide) (by omega) (by omega)) rfl rfl ?_
                    refine z_icmp_eq (tgt := 212) dL_isTune_207 rfl (fun hc65 => ?_) (fun hc65 => ?_)
                    · have h := it_t h hc65
                      refine z_iinc (i := 10) (v := (v10 + (1 : Int32))) dL_isTune_212 rfl (iinc_k kc_1) (Nat.le_of_ble_eq_true rfl) rfl ?_
                      refine z_goto (tgt := 45) dL_isTune_215 rfl ?_
                      refine z_fgt (i := 11) ?_
                      exact ih _ _ _ _ _ _ (by omega) (by omega) h hK
                    · have h := it_f h hc65
                      refine z_iconst (v := (0 : Int32)) dL_isTune_210 kc_0 ?_
                      cases h
                      refine z_sub hw ?_
                      exact z_iret dL_isTune_211 rfl rfl (by omega) (by omega) ⟨rfl, rfl⟩
              · have h := it_f h hc54
                refine z_bipush (v := (35 : Int32)) dL_isTune_159 kb_35 ?_
                refine z_goto (tgt := 166) dL_isTune_161 rfl ?_
                obtain ⟨q66, hq67, h⟩ := bnd h
                refine z_cGV (sJ4_append_cf468 (putI M (26, 0, 0) v10.toNatClampNeg ((M.1 (26, 0, 0) v10.toNatClampNeg) + (0 : Int32))) 0 (35 : Int32) 70 tb0 (by decide) (frS hf rfl) hq67) dL_isTune_166 ml_L_68 cd_J4_append_cf468 tb0.1 rfl rfl rfl (rq_o (by decide) (by decide) (by omega) (by omega)) rfl rfl (qi_N qv rfl) rfl rfl rfl ?_
                refine z_pop dL_isTune_169 rfl ?_
                refine z_aload_n (i := 0) dL_isTune_170 rfl rfl ?_
                refine z_iload_n (i := 2) dL_isTune_171 rfl rfl ?_
                refine z_iload (i := 8) dL_isTune_172 rfl ?_
                refine z_iload (i := 10) dL_isTune_174 rfl ?_
                obtain ⟨q68, hq69, h⟩ := bnd h
                refine z_fVi (sX9_isPin q66 c2 c8 v10 hq69) dL_isTune_176 ml_L_71 cd_X9_isPin mk0 rfl rfl rfl (rmk_r (by decide) (by decide) (by omega) (by omega)) rfl rfl ?_
                refine z_iload (i := 11) dL_isTune_179 rfl ?_
                refine z_icmp_ne (tgt := 210) dL_isTune_181 rfl (fun hc70 => ?_) (fun hc70 => ?_)
                · have h := it_f h hc70
                  refine z_iconst (v := (0 : Int32)) dL_isTune_210 kc_0 ?_
                  cases h
                  refine z_sub hw ?_
                  exact z_iret dL_isTune_211 rfl rfl (by omega) (by omega) ⟨rfl, rfl⟩
                · have h := it_t h hc70
                  refine z_iload (i := 11) dL_isTune_184 rfl ?_
                  refine z_if_eq (tgt := 212) dL_isTune_186 rfl (fun hc71 => ?_) (fun hc71 => ?_)
                  · have h := it_t h hc71
                    refine z_iinc (i := 10) (v := (v10 + (1 : Int32))) dL_isTune_212 rfl (iinc_k kc_1) (Nat.le_of_ble_eq_true rfl) rfl ?_
                    refine z_goto (tgt := 45) dL_isTune_215 rfl ?_
                    refine z_fgt (i := 11) ?_
                    exact ih _ _ _ _ _ _ (by omega) (by omega) h hK
                  · have h := it_f h hc71
                    refine z_aload_n (i := 0) dL_isTune_189 rfl rfl ?_
                    refine z_iload_n (i := 2) dL_isTune_190 rfl rfl ?_
                    refine z_iload (i := 8) dL_isTune_191 rfl ?_
                    refine z_iload (i := 10) dL_isTune_193 rfl ?_
                    obtain ⟨q72, hq73, h⟩ := bnd h
                    refine z_fVi (sX9_distance q68.2 c2 c8 v10 hq73) dL_isTune_195 ml_L_74 cd_X9_distance mk0 rfl rfl rfl (rmk_r (by decide) (by decide) (by omega) (by omega)) rfl rfl ?_
                    refine z_aload_n (i := 1) dL_isTune_198 rfl rfl ?_
                    refine z_iload_n (i := 2) dL_isTune_199 rfl rfl ?_
                    refine z_iload (i := 8) dL_isTune_200 rfl ?_
                    refine z_iload (i := 10) dL_isTune_202 rfl ?_
                    obtain ⟨q74, hq75, h⟩ := bnd h
                    refine z_fVi (sX10_distance q72.2 k c2 c8 v10 owk hq75) dL_isTune_204 ml_L_78 cd_X10_distance owk.1 rfl rfl rfl (rmk_r (by decide) (by decide) (by omega) (by omega)) rfl rfl ?_
                    refine z_icmp_eq (tgt := 212) dL_isTune_207 rfl (fun hc76 => ?_) (fun hc76 => ?_)
                    · have h := it_t h hc76
                      refine z_iinc (i := 10) (v := (v10 + (1 : Int32))) dL_isTune_212 rfl (iinc_k kc_1) (Nat.le_of_ble_eq_true rfl) rfl ?_
                      refine z_goto (tgt := 45) dL_isTune_215 rfl ?_
                      refine z_fgt (i := 11) ?_
                      exact ih _ _ _ _ _ _ (by omega) (by omega) h hK
                    · have h := it_f h hc76
                      refine z_iconst (v := (0 : Int32)) dL_isTune_210 kc_0 ?_
                      cases h
                      refine z_sub hw ?_
                      exact z_iret dL_isTune_211 rfl rfl (by omega) (by omega) ⟨rfl, rfl⟩
            · have h := it_f h hc53
              refine z_bipush (v := (33 : Int32)) dL_isTune_149 kb_33 ?_
              refine z_goto (tgt := 166) dL_isTune_151 rfl ?_
              obtain ⟨q77, hq78, h⟩ := bnd h
              refine z_cGV (sJ4_append_cf468 (putI M (26, 0, 0) v10.toNatClampNeg ((M.1 (26, 0, 0) v10.toNatClampNeg) + (0 : Int32))) 0 (33 : Int32) 70 tb0 (by decide) (frS hf rfl) hq78) dL_isTune_166 ml_L_68 cd_J4_append_cf468 tb0.1 rfl rfl rfl (rq_o (by decide) (by decide) (by omega) (by omega)) rfl rfl (qi_N qv rfl) rfl rfl rfl ?_
              refine z_pop dL_isTune_169 rfl ?_
              refine z_aload_n (i := 0) dL_isTune_170 rfl rfl ?_
              refine z_iload_n (i := 2) dL_isTune_171 rfl rfl ?_
              refine z_iload (i := 8) dL_isTune_172 rfl ?_
              refine z_iload (i := 10) dL_isTune_174 rfl ?_
              obtain ⟨q79, hq80, h⟩ := bnd h
              refine z_fVi (sX9_isPin q77 c2 c8 v10 hq80) dL_isTune_176 ml_L_71 cd_X9_isPin mk0 rfl rfl rfl (rmk_r (by decide) (by decide) (by omega) (by omega)) rfl rfl ?_
              refine z_iload (i := 11) dL_isTune_179 rfl ?_
              refine z_icmp_ne (tgt := 210) dL_isTune_181 rfl (fun hc81 => ?_) (fun hc81 => ?_)
              · have h := it_f h hc81
                refine z_iconst (v := (0 : Int32)) dL_isTune_210 kc_0 ?_
                cases h
                refine z_sub hw ?_
                exact z_iret dL_isTune_211 rfl rfl (by omega) (by omega) ⟨rfl, rfl⟩
              · have h := it_t h hc81
                refine z_iload (i := 11) dL_isTune_184 rfl ?_
                refine z_if_eq (tgt := 212) dL_isTune_186 rfl (fun hc82 => ?_) (fun hc82 => ?_)
                · have h := it_t h hc82
                  refine z_iinc (i := 10) (v := (v10 + (1 : Int32))) dL_isTune_212 rfl (iinc_k kc_1) (Nat.le_of_ble_eq_true rfl) rfl ?_
                  refine z_goto (tgt := 45) dL_isTune_215 rfl ?_
                  refine z_fgt (i := 11) ?_
                  exact ih _ _ _ _ _ _ (by omega) (by omega) h hK
                · have h := it_f h hc82
                  refine z_aload_n (i := 0) dL_isTune_189 rfl rfl ?_
                  refine z_iload_n (i := 2) dL_isTune_190 rfl rfl ?_
                  refine z_iload (i := 8) dL_isTune_191 rfl ?_
                  refine z_iload (i := 10) dL_isTune_193 rfl ?_
                  obtain ⟨q83, hq84, h⟩ := bnd h
                  refine z_fVi (sX9_distance q79.2 c2 c8 v10 hq84) dL_isTune_195 ml_L_74 cd_X9_distance mk0 rfl rfl rfl (rmk_r (by decide) (by decide) (by omega) (by omega)) rfl rfl ?_
                  refine z_aload_n (i := 1) dL_isTune_198 rfl rfl ?_
                  refine z_iload_n (i := 2) dL_isTune_199 rfl rfl ?_
                  refine z_iload (i := 8) dL_isTune_200 rfl ?_
                  refine z_iload (i := 10) dL_isTune_202 rfl ?_
                  obtain ⟨q85, hq86, h⟩ := bnd h
                  refine z_fVi (sX10_distance q83.2 k c2 c8 v10 owk hq86) dL_isTune_204 ml_L_78 cd_X10_distance owk.1 rfl rfl rfl (rmk_r (by decide) (by decide) (by omega) (by omega)) rfl rfl ?_
                  refine z_icmp_eq (tgt := 212) dL_isTune_207 rfl (fun hc87 => ?_) (fun hc87 => ?_)
                  · have h := it_t h hc87
                    refine z_iinc (i := 10) (v := (v10 + (1 : Int32))) dL_isTune_212 rfl (iinc_k kc_1) (Nat.le_of_ble_eq_true rfl) rfl ?_
                    refine z_goto (tgt := 45) dL_isTune_215 rfl ?_
                    refine z_fgt (i := 11) ?_
                    exact ih _ _ _ _ _ _ (by omega) (by omega) h hK
                  · have h := it_f h hc87
                    refine z_iconst (v := (0 : Int32)) dL_isTune_210 kc_0 ?_
                    cases h
                    refine z_sub hw ?_
                    exact z_iret dL_isTune_211 rfl rfl (by omega) (by omega) ⟨rfl, rfl⟩
        · have h := it_f h hc10
          refine z_aload_n (i := 1) dL_isTune_93 rfl rfl ?_
          refine z_getRG (r' := (19, k, 0)) dL_isTune_94 fg_L_58 owk.1 rfl rfl ?_
          refine z_iload (i := 8) dL_isTune_97 rfl ?_
          obtain ⟨hc88, h⟩ := chk h
          refine z_iald (x := (M.1 (19, k, 0) c8.toNatClampNeg)) dL_isTune_99 (owk.2.2 0 (Nat.le_of_ble_eq_true rfl)) rfl hc88 rfl ?_
          refine z_aload_n (i := 1) dL_isTune_100 rfl rfl ?_
          refine z_getRG (r' := (19, k, 1)) dL_isTune_101 fg_L_62 owk.1 rfl rfl ?_
          refine z_iload (i := 8) dL_isTune_104 rfl ?_
          obtain ⟨hc89, h⟩ := chk h
          refine z_iald (x := (M.1 (19, k, 1) c8.toNatClampNeg)) dL_isTune_106 (owk.2.2 1 (Nat.le_of_ble_eq_true rfl)) rfl hc89 rfl ?_
          refine z_iadd dL_isTune_107 ?_
          refine z_goto (tgt := 112) dL_isTune_108 rfl ?_
          refine z_iadd dL_isTune_112 ?_
          refine z_istore (i := 4) dL_isTune_113 (Nat.le_of_ble_eq_true rfl) rfl ?_
          refine z_iload_n (i := 3) dL_isTune_115 rfl rfl ?_
          refine z_aload_n (i := 1) dL_isTune_116 rfl rfl ?_
          refine z_iload_n (i := 2) dL_isTune_117 rfl rfl ?_
          refine z_iload (i := 8) dL_isTune_118 rfl ?_
          refine z_iload (i := 10) dL_isTune_120 rfl ?_
          obtain ⟨q90, hq91, h⟩ := bnd h
          refine z_fVi (sX10_isClose (putI M (26, 0, 0) v10.toNatClampNeg ((M.1 (26, 0, 0) v10.toNatClampNeg) + (0 : Int32))) k c2 c8 v10 owk hq91) dL_isTune_122 ml_L_65 cd_X10_isClose owk.1 rfl rfl rfl (rmk_r (by decide) (by decide) (by omega) (by omega)) rfl rfl ?_
          refine z_if_eq (tgt := 132) dL_isTune_125 rfl (fun hc92 => ?_) (fun hc92 => ?_)
          · have h := it_t h hc92
            refine z_iconst (v := (0 : Int32)) dL_isTune_132 kc_0 ?_
            refine z_iadd dL_isTune_133 ?_
            refine z_istore_n (i := 3) dL_isTune_134 rfl (Nat.le_of_ble_eq_true rfl) rfl ?_
            refine z_aload (i := 9) dL_isTune_135 rfl ?_
            refine z_aload_n (i := 1) dL_isTune_137 rfl rfl ?_
            refine z_iload_n (i := 2) dL_isTune_138 rfl rfl ?_
            refine z_iload (i := 8) dL_isTune_139 rfl ?_
            refine z_iload (i := 10) dL_isTune_141 rfl ?_
            obtain ⟨q93, hq94, h⟩ := bnd h
            refine z_fVi (sX10_isClose (putI M (26, 0, 0) v10.toNatClampNeg ((M.1 (26, 0, 0) v10.toNatClampNeg) + (0 : Int32))) k c2 c8 v10 owk hq94) dL_isTune_143 ml_L_65 cd_X10_isClose owk.1 rfl rfl rfl (rmk_r (by decide) (by decide) (by omega) (by omega)) rfl rfl ?_
            refine z_if_eq (tgt := 154) dL_isTune_146 rfl (fun hc95 => ?_) (fun hc95 => ?_)
            · have h := it_t h hc95
              refine z_iload (i := 11) dL_isTune_154 rfl ?_
              refine z_if_eq (tgt := 164) dL_isTune_156 rfl (fun hc96 => ?_) (fun hc96 => ?_)
              · have h := it_t h hc96
                refine z_bipush (v := (45 : Int32)) dL_isTune_164 kb_45 ?_
                obtain ⟨q97, hq98, h⟩ := bnd h
                refine z_cGV (sJ4_append_cf468 (putI M (26, 0, 0) v10.toNatClampNeg ((M.1 (26, 0, 0) v10.toNatClampNeg) + (0 : Int32))) 0 (45 : Int32) 70 tb0 (by decide) (frS hf rfl) hq98) dL_isTune_166 ml_L_68 cd_J4_append_cf468 tb0.1 rfl rfl rfl (rq_o (by decide) (by decide) (by omega) (by omega)) rfl rfl (qi_N qv rfl) rfl rfl rfl ?_
                refine z_pop dL_isTune_169 rfl ?_
                refine z_aload_n (i := 0) dL_isTune_170 rfl rfl ?_
                refine z_iload_n (i := 2) dL_isTune_171 rfl rfl ?_
                refine z_iload (i := 8) dL_isTune_172 rfl ?_
                refine z_iload (i := 10) dL_isTune_174 rfl ?_
                obtain ⟨q99, hq100, h⟩ := bnd h
                refine z_fVi (sX9_isPin q97 c2 c8 v10 hq100) dL_isTune_176 ml_L_71 cd_X9_isPin mk0 rfl rfl rfl (rmk_r (by decide) (by decide) (by omega) (by omega)) rfl rfl ?_
                refine z_iload (i := 11) dL_isTune_179 rfl ?_
                refine z_icmp_ne (tgt := 210) dL_isTune_181 rfl (fun hc101 => ?_) (fun hc101 => ?_)
                · have h := it_f h hc101
                  refine z_iconst (v := (0 : Int32)) dL_isTune_210 kc_0 ?_
                  cases h
                  refine z_sub hw ?_
                  exact z_iret dL_isTune_211 rfl rfl (by omega) (by omega) ⟨rfl, rfl⟩
                · have h := it_t h hc101
                  refine z_iload (i := 11) dL_isTune_184 rfl ?_
                  refine z_if_eq (tgt := 212) dL_isTune_186 rfl (fun hc102 => ?_) (fun hc102 => ?_)
                  · have h := it_t h hc102
                    refine z_iinc (i := 10) (v := (v10 + (1 : Int32))) dL_isTune_212 rfl (iinc_k kc_1) (Nat.le_of_ble_eq_true rfl) rfl ?_
                    refine z_goto (tgt := 45) dL_isTune_215 rfl ?_
                    refine z_fgt (i := 11) ?_
                    exact ih _ _ _ _ _ _ (by omega) (by omega) h hK
                  · have h := it_f h hc102
                    refine z_aload_n (i := 0) dL_isTune_189 rfl rfl ?_
                    refine z_iload_n (i := 2) dL_isTune_190 rfl rfl ?_
                    refine z_iload (i := 8) dL_isTune_191 rfl ?_
                    refine z_iload (i := 10) dL_isTune_193 rfl ?_
                    obtain ⟨q103, hq104, h⟩ := bnd h
                    refine z_fVi (sX9_distance q99.2 c2 c8 v10 hq104) dL_isTune_195 ml_L_74 cd_X9_distance mk0 rfl rfl rfl (rmk_r (by decide) (by decide) (by omega) (by omega)) rfl rfl ?_
                    refine z_aload_n (i := 1) dL_isTune_198 rfl rfl ?_
                    refine z_iload_n (i := 2) dL_isTune_199 rfl rfl ?_
                    refine z_iload (i := 8) dL_isTune_200 rfl ?_
                    refine z_iload (i := 10) dL_isTune_202 rfl ?_
                    obtain ⟨q105, hq106, h⟩ := bnd h
                    refine z_fVi (sX10_distance q103.2 k c2 c8 v10 owk hq106) dL_isTune_204 ml_L_78 cd_X10_distance owk.1 rfl rfl rfl (rmk_r (by decide) (by decide) (by omega) (by omega)) rfl rfl ?_
                    refine z_icmp_eq (tgt := 212) dL_isTune_207 rfl (fun hc107 => ?_) (fun hc107 => ?_)
                    · have h := it_t h hc107
                      refine z_iinc (i := 10) (v := (v10 + (1 : Int32))) dL_isTune_212 rfl (iinc_k kc_1) (Nat.le_of_ble_eq_true rfl) rfl ?_
                      refine z_goto (tgt := 45) dL_isTune_215 rfl ?_
                      refine z_fgt (i := 11) ?_
                      exact ih _ _ _ _ _ _ (by omega) (by omega) h hK
                    · have h := it_f h hc107
                      refine z_iconst (v := (0 : Int32)) dL_isTune_210 kc_0 ?_
                      cases h
                      refine z_sub hw ?_
                      exact z_iret dL_isTune_211 rfl rfl (by omega) (by omega) ⟨rfl, rfl⟩
              · have h := it_f h hc96
                refine z_bipush (v := (35 : Int32)) dL_isTune_159 kb_35 ?_
                refine z_goto (tgt := 166) dL_isTune_161 rfl ?_
                obtain ⟨q108, hq109, h⟩ := bnd h
                refine z_cGV (sJ4_append_cf468 (putI M (26, 0, 0) v10.toNatClampNeg ((M.1 (26, 0, 0) v10.toNatClampNeg) + (0 : Int32))) 0 (35 : Int32) 70 tb0 (by decide) (frS hf rfl) hq109) dL_isTune_166 ml_L_68 cd_J4_append_cf468 tb0.1 rfl rfl rfl (rq_o (by decide) (by decide) (by omega) (by omega)) rfl rfl (qi_N qv rfl) rfl rfl rfl ?_
                refine z_pop dL_isTune_169 rfl ?_
                refine z_aload_n (i := 0) dL_isTune_170 rfl rfl ?_
                refine z_iload_n (i := 2) dL_isTune_171 rfl rfl ?_
                refine z_iload (i := 8) dL_isTune_172 rfl ?_
                refine z_iload (i := 10) dL_isTune_174 rfl ?_
                obtain ⟨q110, hq111, h⟩ := bnd h
                refine z_fVi (sX9_isPin q108 c2 c8 v10 hq111) dL_isTune_176 ml_L_71 cd_X9_isPin mk0 rfl rfl rfl (rmk_r (by decide) (by decide) (by omega) (by omega)) rfl rfl ?_
                refine z_iload (i := 11) dL_isTune_179 rfl ?_
                refine z_icmp_ne (tgt := 210) dL_isTune_181 rfl (fun hc112 => ?_) (fun hc112 => ?_)
                · have h := it_f h hc112
                  refine z_iconst (v := (0 : Int32)) dL_isTune_210 kc_0 ?_
                  cases h
                  refine z_sub hw ?_
                  exact z_iret dL_isTune_211 rfl rfl (by omega) (by omega) ⟨rfl, rfl⟩
                · have h := it_t h hc112
                  refine z_iload (i := 11) dL_isTune_184 rfl ?_
                  refine z_if_eq (tgt := 212) dL_isTune_186 rfl (fun hc113 => ?_) (fun hc113 => ?_)
                  · have h := it_t h hc113
                    refine z_iinc (i := 10) (v := (v10 + (1 : Int32))) dL_isTune_212 rfl (iinc_k kc_1) (Nat.le_of_ble_eq_true rfl) rfl ?_
                    refine z_goto (tgt := 45) dL_isTune_215 rfl ?_
                    refine z_fgt (i := 11) ?_
                    exact ih _ _ _ _ _ _ (by omega) (by omega) h hK
                  · have h := it_f h hc113
                    refine z_aload_n (i := 0) dL_isTune_189 rfl rfl ?_
                    refine z_iload_n (i := 2) dL_isTune_190 rfl rfl ?_
                    refine z_iload (i := 8) dL_isTune_191 rfl ?_
                    refine z_iload (i := 10) dL_isTune_193 rfl ?_
                    obtain ⟨q114, hq115, h⟩ := bnd h
                    refine z_fVi (sX9_distance q110.2 c2 c8 v10 hq115) dL_isTune_195 ml_L_74 cd_X9_distance mk0 rfl rfl rfl (rmk_r (by decide) (by decide) (by omega) (by omega)) rfl rfl ?_
                    refine z_aload_n (i := 1) dL_isTune_198 rfl rfl ?_
                    refine z_iload_n (i := 2) dL_isTune_199 rfl rfl ?_
                    refine z_iload (i := 8) dL_isTune_200 rfl ?_
                    refine z_iload (i := 10) dL_isTune_202 rfl ?_
                    obtain ⟨q116, hq117, h⟩ := bnd h
                    refine z_fVi (sX10_distance q114.2 k c2 c8 v10 owk hq117) dL_isTune_204 ml_L_78 cd_X10_distance owk.1 rfl rfl rfl (rmk_r (by decide) (by decide) (by omega) (by omega)) rfl rfl ?_
                    refine z_icmp_eq (tgt := 212) dL_isTune_207 rfl (fun hc118 => ?_) (fun hc118 => ?_)
                    · have h := it_t h hc118
                      refine z_iinc (i := 10) (v := (v10 + (1 : Int32))) dL_isTune_212 rfl (iinc_k kc_1) (Nat.le_of_ble_eq_true rfl) rfl ?_
                      refine z_goto (tgt := 45) dL_isTune_215 rfl ?_
                      refine z_fgt (i := 11) ?_
                      exact ih _ _ _ _ _ _ (by omega) (by omega) h hK
                    · have h := it_f h hc118
                      refine z_iconst (v := (0 : Int32)) dL_isTune_210 kc_0 ?_
                      cases h
                      refine z_sub hw ?_
                      exact z_iret dL_isTune_211 rfl rfl (by omega) (by omega) ⟨rfl, rfl⟩
            · have h := it_f h hc95
              refine z_bipush (v := (33 : Int32)) dL_isTune_149 kb_33 ?_
              refine z_goto (tgt := 166) dL_isTune_151 rfl ?_
              obtain ⟨q119, hq120, h⟩ := bnd h
              refine z_cGV (sJ4_append_cf468 (putI M (26, 0, 0) v10.toNatClampNeg ((M.1 (26, 0, 0) v10.toNatClampNeg) + (0 : Int32))) 0 (33 : Int32) 70 tb0 (by decide) (frS hf rfl) hq120) dL_isTune_166 ml_L_68 cd_J4_append_cf468 tb0.1 rfl rfl rfl (rq_o (by decide) (by decide) (by omega) (by omega)) rfl rfl (qi_N qv rfl) rfl rfl rfl ?_
              refine z_pop dL_isTune_169 rfl ?_
              refine z_aload_n (i := 0) dL_isTune_170 rfl rfl ?_
              refine z_iload_n (i := 2) dL_isTune_171 rfl rfl ?_
              refine z_iload (i := 8) dL_isTune_172 rfl ?_
              refine z_iload (i := 10) dL_isTune_174 rfl ?_
              obtain ⟨q121, hq122, h⟩ := bnd h
              refine z_fVi (sX9_isPin q119 c2 c8 v10 hq122) dL_isTune_176 ml_L_71 cd_X9_isPin mk0 rfl rfl rfl (rmk_r (by decide) (by decide) (by omega) (by omega)) rfl rfl ?_
              refine z_iload (i := 11) dL_isTune_179 rfl ?_
              refine z_icmp_ne (tgt := 210) dL_isTune_181 rfl (fun hc123 => ?_) (fun hc123 => ?_)
              · have h := it_f h hc123
                refine z_iconst (v := (0 : Int32)) dL_isTune_210 kc_0 ?_
                cases h
                refine z_sub hw ?_
                exact z_iret dL_isTune_211 rfl rfl (by omega) (by omega) ⟨rfl, rfl⟩
              · have h := it_t h hc123
                refine z_iload (i := 11) dL_isTune_184 rfl ?_
                refine z_if_eq (tgt := 212) dL_isTune_186 rfl (fun hc124 => ?_) (fun hc124 => ?_)
                · have h := it_t h hc124
                  refine z_iinc (i := 10) (v := (v10 + (1 : Int32))) dL_isTune_212 rfl (iinc_k kc_1) (Nat.le_of_ble_eq_true rfl) rfl ?_
                  refine z_goto (tgt := 45) dL_isTune_215 rfl ?_
                  refine z_fgt (i := 11) ?_
                  exact ih _ _ _ _ _ _ (by omega) (by omega) h hK
                · have h := it_f h hc124
                  refine z_aload_n (i := 0) dL_isTune_189 rfl rfl ?_
                  refine z_iload_n (i := 2) dL_isTune_190 rfl rfl ?_
                  refine z_iload (i := 8) dL_isTune_191 rfl ?_
                  refine z_iload (i := 10) dL_isTune_193 rfl ?_
                  obtain ⟨q125, hq126, h⟩ := bnd h
                  refine z_fVi (sX9_distance q121.2 c2 c8 v10 hq126) dL_isTune_195 ml_L_74 cd_X9_distance mk0 rfl rfl rfl (rmk_r (by decide) (by decide) (by omega) (by omega)) rfl rfl ?_
                  refine z_aload_n (i := 1) dL_isTune_198 rfl rfl ?_
                  refine z_iload_n (i := 2) dL_isTune_199 rfl rfl ?_
                  refine z_iload (i := 8) dL_isTune_200 rfl ?_
                  refine z_iload (i := 10) dL_isTune_202 rfl ?_
                  obtain ⟨q127, hq128, h⟩ := bnd h
                  refine z_fVi (sX10_distance q125.2 k c2 c8 v10 owk hq128) dL_isTune_204 ml_L_78 cd_X10_distance owk.1 rfl rfl rfl (rmk_r (by decide) (by decide) (by omega) (by omega)) rfl rfl ?_
                  refine z_icmp_eq (tgt := 212) dL_isTune_207 rfl (fun hc129 => ?_) (fun hc129 => ?_)
                  · have h := it_t h hc129
                    refine z_iinc (i := 10) (v := (v10 + (1 : Int32))) dL_isTune_212 rfl (iinc_k kc_1) (Nat.le_of_ble_eq_true rfl) rfl ?_
                    refine z_goto (tgt := 45) dL_isTune_215 rfl ?_
                    refine z_fgt (i := 11) ?_
                    exact ih _ _ _ _ _ _ (by omega) (by omega) h hK
                  · have h := it_f h hc129
                    refine z_iconst (v := (0 : Int32)) dL_isTune_210 kc_0 ?_
                    cases h
                    refine z_sub hw ?_
                    exact z_iret dL_isTune_211 rfl rfl (by omega) (by omega) ⟨rfl, rfl⟩
          · have h := it_f h hc92
            refine z_iconst (v := (1 : Int32)) dL_isTune_128 kc_1 ?_
            refine z_goto (tgt := 133) dL_isTune_129 rfl ?_
            refine z_iadd dL_isTune_133 ?_
            refine z_istore_n (i := 3) dL_isTune_134 rfl (Nat.le_of_ble_eq_true rfl) rfl ?_
            refine z_aload (i := 9) dL_isTune_135 rfl ?_
            refine z_aload_n (i := 1) dL_isTune_137 rfl rfl ?_
            refine z_iload_n (i := 2) dL_isTune_138 rfl rfl ?_
            refine z_iload (i := 8) dL_isTune_139 rfl ?_
            refine z_iload (i := 10) dL_isTune_141 rfl ?_
            obtain ⟨q130, hq131, h⟩ := bnd h
            refine z_fVi (sX10_isClose (putI M (26, 0, 0) v10.toNatClampNeg ((M.1 (26, 0, 0) v10.toNatClampNeg) + (0 : Int32))) k c2 c8 v10 owk hq131) dL_isTune_143 ml_L_65 cd_X10_isClose owk.1 rfl rfl rfl (rmk_r (by decide) (by decide) (by omega) (by omega)) rfl rfl ?_
            refine z_if_eq (tgt := 154) dL_isTune_146 rfl (fun hc132 => ?_) (fun hc132 => ?_)
            · have h := it_t h hc132
              refine z_iload (i := 11) dL_isTune_154 rfl ?_
              refine z_if_eq (tgt := 164) dL_isTune_156 rfl (fun hc133 => ?_) (fun hc133 => ?_)
              · have h := it_t h hc133
                refine z_bipush (v := (45 : Int32)) dL_isTune_164 kb_45 ?_
                obtain ⟨q134, hq135, h⟩ := bnd h
                refine z_cGV (sJ4_append_cf468 (putI M (26, 0, 0) v10.toNatClampNeg ((M.1 (26, 0, 0) v10.toNatClampNeg) + (0 : Int32))) 0 (45 : Int32) 70 tb0 (by decide) (frS hf rfl) hq135) dL_isTune_166 ml_L_68 cd_J4_append_cf468 tb0.1 rfl rfl rfl (rq_o (by decide) (by decide) (by omega) (by omega)) rfl rfl (qi_N qv rfl) rfl rfl rfl ?_
                refine z_pop dL_isTune_169 rfl ?_
                refine z_aload_n (i := 0) dL_isTune_170 rfl rfl ?_
                refine z_iload_n (i := 2) dL_isTune_171 rfl rfl ?_
                refine z_iload (i := 8) dL_isTune_172 rfl ?_
                refine z_iload (i := 10) dL_isTune_174 rfl ?_
                obtain ⟨q136, hq137, h⟩ := bnd h
                refine z_fVi (sX9_isPin q134 c2 c8 v10 hq137) dL_isTune_176 ml_L_71 cd_X9_isPin mk0 rfl rfl rfl (rmk_r (by decide) (by decide) (by omega) (by omega)) rfl rfl ?_
                refine z_iload (i := 11) dL_isTune_179 rfl ?_
                refine z_icmp_ne (tgt := 210) dL_isTune_181 rfl (fun hc138 => ?_) (fun hc138 => ?_)
                · have h := it_f h hc138
                  refine z_iconst (v := (0 : Int32)) dL_isTune_210 kc_0 ?_
                  cases h
                  refine z_sub hw ?_
                  exact z_iret dL_isTune_211 rfl rfl (by omega) (by omega) ⟨rfl, rfl⟩
                · have h := it_t h hc138
                  refine z_iload (i := 11) dL_isTune_184 rfl ?_
                  refine z_if_eq (tgt := 212) dL_isTune_186 rfl (fun hc139 => ?_) (fun hc139 => ?_)
                  · have h := it_t h hc139
                    refine z_iinc (i := 10) (v := (v10 + (1 : Int32))) dL_isTune_212 rfl (iinc_k kc_1) (Nat.le_of_ble_eq_true rfl) rfl ?_
                    refine z_goto (tgt := 45) dL_isTune_215 rfl ?_
                    refine z_fgt (i := 11) ?_
                    exact ih _ _ _ _ _ _ (by omega) (by omega) h hK
                  · have h := it_f h hc139
                    refine z_aload_n (i := 0) dL_isTune_189 rfl rfl ?_
                    refine z_iload_n (i := 2) dL_isTune_190 rfl rfl ?_
                    refine z_iload (i := 8) dL_isTune_191 rfl ?_
                    refine z_iload (i := 10) dL_isTune_193 rfl ?_
                    obtain ⟨q140, hq141, h⟩ := bnd h
                    refine z_fVi (sX9_distance q136.2 c2 c8 v10 hq141) dL_isTune_195 ml_L_74 cd_X9_distance mk0 rfl rfl rfl (rmk_r (by decide) (by decide) (by omega) (by omega)) rfl rfl ?_
                    refine z_aload_n (i := 1) dL_isTune_198 rfl rfl ?_
                    refine z_iload_n (i := 2) dL_isTune_199 rfl rfl ?_
                    refine z_iload (i := 8) dL_isTune_200 rfl ?_
                    refine z_iload (i := 10) dL_isTune_202 rfl ?_
                    obtain ⟨q142, hq143, h⟩ := bnd h
                    refine z_fVi (sX10_distance q140.2 k c2 c8 v10 owk hq143) dL_isTune_204 ml_L_78 cd_X10_distance owk.1 rfl rfl rfl (rmk_r (by decide) (by decide) (by omega) (by omega)) rfl rfl ?_
                    refine z_icmp_eq (tgt := 212) dL_isTune_207 rfl (fun hc144 => ?_) (fun hc144 => ?_)
                    · have h := it_t h hc144
                      refine z_iinc (i := 10) (v := (v10 + (1 : Int32))) dL_isTune_212 rfl (iinc_k kc_1) (Nat.le_of_ble_eq_true rfl) rfl ?_
                      refine z_goto (tgt := 45) dL_isTune_215 rfl ?_
                      refine z_fgt (i := 11) ?_
                      exact ih _ _ _ _ _ _ (by omega) (by omega) h hK
                    · have h := it_f h hc144
                      refine z_iconst (v := (0 : Int32)) dL_isTune_210 kc_0 ?_
                      cases h
                      refine z_sub hw ?_
                      exact z_iret dL_isTune_211 rfl rfl (by omega) (by omega) ⟨rfl, rfl⟩
              · have h := it_f h hc133
                refine z_bipush (v := (35 : Int32)) dL_isTune_159 kb_35 ?_
                refine z_goto (tgt := 166) dL_isTune_161 rfl ?_
                obtain ⟨q145, hq146, h⟩ := bnd h
                refine z_cGV (sJ4_append_cf468 (putI M (26, 0, 0) v10.toNatClampNeg ((M.1 (26, 0, 0) v10.toNatClampNeg) + (0 : Int32))) 0 (35 : Int32) 70 tb0 (by decide) (frS hf rfl) hq146) dL_isTune_166 ml_L_68 cd_J4_append_cf468 tb0.1 rfl rfl rfl (rq_o (by decide) (by decide) (by omega) (by omega)) rfl rfl (qi_N qv rfl) rfl rfl rfl ?_
                refine z_pop dL_isTune_169 rfl ?_
                refine z_aload_n (i := 0) dL_isTune_170 rfl rfl ?_
                refine z_iload_n (i := 2) dL_isTune_171 rfl rfl ?_
                refine z_iload (i := 8) dL_isTune_172 rfl ?_
                refine z_iload (i := 10) dL_isTune_174 rfl ?_
                obtain ⟨q147, hq148, h⟩ := bnd h
                refine z_fVi (sX9_isPin q145 c2 c8 v10 hq148) dL_isTune_176 ml_L_71 cd_X9_isPin mk0 rfl rfl rfl (rmk_r (by decide) (by decide) (by omega) (by omega)) rfl rfl ?_
                refine z_iload (i := 11) dL_isTune_179 rfl ?_
                refine z_icmp_ne (tgt := 210) dL_isTune_181 rfl (fun hc149 => ?_) (fun hc149 => ?_)
                · have h := it_f h hc149
                  refine z_iconst (v := (0 : Int32)) dL_isTune_210 kc_0 ?_
                  cases h
                  refine z_sub hw ?_
                  exact z_iret dL_isTune_211 rfl rfl (by omega) (by omega) ⟨rfl, rfl⟩
                · have h := it_t h hc149
                  refine z_iload (i := 11) dL_isTune_184 rfl ?_
                  refine z_if_eq (tgt := 212) dL_isTune_186 rfl (fun hc150 => ?_) (fun hc150 => ?_)
                  · have h := it_t h hc150
                    refine z_iinc (i := 10) (v := (v10 + (1 : Int32))) dL_isTune_212 rfl (iinc_k kc_1) (Nat.le_of_ble_eq_true rfl) rfl ?_
                    refine z_goto (tgt := 45) dL_isTune_215 rfl ?_
                    refine z_fgt (i := 11) ?_
                    exact ih _ _ _ _ _ _ (by omega) (by omega) h hK
                  · have h := it_f h hc150
                    refine z_aload_n (i := 0) dL_isTune_189 rfl rfl ?_
                    refine z_iload_n (i := 2) dL_isTune_190 rfl rfl ?_
                    refine z_iload (i := 8) dL_isTune_191 rfl ?_
                    refine z_iload (i := 10) dL_isTune_193 rfl ?_
                    obtain ⟨q151, hq152, h⟩ := bnd h
                    refine z_fVi (sX9_distance q147.2 c2 c8 v10 hq152) dL_isTune_195 ml_L_74 cd_X9_distance mk0 rfl rfl rfl (rmk_r (by decide) (by decide) (by omega) (by omega)) rfl rfl ?_
                    refine z_aload_n (i := 1) dL_isTune_198 rfl rfl ?_
                    refine z_iload_n (i := 2) dL_isTune_199 rfl rfl ?_
                    refine z_iload (i := 8) dL_isTune_200 rfl ?_
                    refine z_iload (i := 10) dL_isTune_202 rfl ?_
                    obtain ⟨q153, hq154, h⟩ := bnd h
                    refine z_fVi (sX10_distance q151.2 k c2 c8 v10 owk hq154) dL_isTune_204 ml_L_78 cd_X10_distance owk.1 rfl rfl rfl (rmk_r (by decide) (by decide) (by omega) (by omega)) rfl rfl ?_
                    refine z_icmp_eq (tgt := 212) dL_isTune_207 rfl (fun hc155 => ?_) (fun hc155 => ?_)
                    · have h := it_t h hc155
                      refine z_iinc (i := 10) (v := (v10 + (1 : Int32))) dL_isTune_212 rfl (iinc_k kc_1) (Nat.le_of_ble_eq_true rfl) rfl ?_
                      refine z_goto (tgt := 45) dL_isTune_215 rfl ?_
                      refine z_fgt (i := 11) ?_
                      exact ih _ _ _ _ _ _ (by omega) (by omega) h hK
                    · have h := it_f h hc155
                      refine z_iconst (v := (0 : Int32)) dL_isTune_210 kc_0 ?_
                      cases h
                      refine z_sub hw ?_
                      exact z_iret dL_isTune_211 rfl rfl (by omega) (by omega) ⟨rfl, rfl⟩
            · have h := it_f h hc132
              refine z_bipush (v := (33 : Int32)) dL_isTune_149 kb_33 ?_
              refine z_goto (tgt := 166) dL_isTune_151 rfl ?_
              obtain ⟨q156, hq157, h⟩ := bnd h
              refine z_cGV (sJ4_append_cf468 (putI M (26, 0, 0) v10.toNatClampNeg ((M.1 (26, 0, 0) v10.toNatClampNeg) + (0 : Int32))) 0 (33 : Int32) 70 tb0 (by decide) (frS hf rfl) hq157) dL_isTune_166 ml_L_68 cd_J4_append_cf468 tb0.1 rfl rfl rfl (rq_o (by decide) (by decide) (by omega) (by omega)) rfl rfl (qi_N qv rfl) rfl rfl rfl ?_
              refine z_pop dL_isTune_169 rfl ?_
              refine z_aload_n (i := 0) dL_isTune_170 rfl rfl ?_
              refine z_iload_n (i := 2) dL_isTune_171 rfl rfl ?_
              refine z_iload (i := 8) dL_isTune_172 rfl ?_
              refine z_iload (i := 10) dL_isTune_174 rfl ?_
              obtain ⟨q158, hq159, h⟩ := bnd h
              refine z_fVi (sX9_isPin q156 c2 c8 v10 hq159) dL_isTune_176 ml_L_71 cd_X9_isPin mk0 rfl rfl rfl (rmk_r (by decide) (by decide) (by omega) (by omega)) rfl rfl ?_
              refine z_iload (i := 11) dL_isTune_179 rfl ?_
              refine z_icmp_ne (tgt := 210) dL_isTune_181 rfl (fun hc160 => ?_) (fun hc160 => ?_)
              · have h := it_f h hc160
                refine z_iconst (v := (0 : Int32)) dL_isTune_210 kc_0 ?_
                cases h
                refine z_sub hw ?_
                exact z_iret dL_isTune_211 rfl rfl (by omega) (by omega) ⟨rfl, rfl⟩
              · have h := it_t h hc160
                refine z_iload (i := 11) dL_isTune_184 rfl ?_
                refine z_if_eq (tgt := 212) dL_isTune_186 rfl (fun hc161 => ?_) (fun hc161 => ?_)
                · have h := it_t h hc161
                  refine z_iinc (i := 10) (v := (v10 + (1 : Int32))) dL_isTune_212 rfl (iinc_k kc_1) (Nat.le_of_ble_eq_true rfl) rfl ?_
                  refine z_goto (tgt := 45) dL_isTune_215 rfl ?_
                  refine z_fgt (i := 11) ?_
                  exact ih _ _ _ _ _ _ (by omega) (by omega) h hK
                · have h := it_f h hc161
                  refine z_aload_n (i := 0) dL_isTune_189 rfl rfl ?_
                  refine z_iload_n (i := 2) dL_isTune_190 rfl rfl ?_
                  refine z_iload (i := 8) dL_isTune_191 rfl ?_
                  refine z_iload (i := 10) dL_isTune_193 rfl ?_
                  obtain ⟨q162, hq163, h⟩ := bnd h
                  refine z_fVi (sX9_distance q158.2 c2 c8 v10 hq163) dL_isTune_195 ml_L_74 cd_X9_distance mk0 rfl rfl rfl (rmk_r (by decide) (by decide) (by omega) (by omega)) rfl rfl ?_
                  refine z_aload_n (i := 1) dL_isTune_198 rfl rfl ?_
                  refine z_iload_n (i := 2) dL_isTune_199 rfl rfl ?_
                  refine z_iload (i := 8) dL_isTune_200 rfl ?_
                  refine z_iload (i := 10) dL_isTune_202 rfl ?_
                  obtain ⟨q164, hq165, h⟩ := bnd h
                  refine z_fVi (sX10_distance q162.2 k c2 c8 v10 owk hq165) dL_isTune_204 ml_L_78 cd_X10_distance owk.1 rfl rfl rfl (rmk_r (by decide) (by decide) (by omega) (by omega)) rfl rfl ?_
                  refine z_icmp_eq (tgt := 212) dL_isTune_207 rfl (fun hc166 => ?_) (fun hc166 => ?_)
                  · have h := it_t h hc166
                    refine z_iinc (i := 10) (v := (v10 + (1 : Int32))) dL_isTune_212 rfl (iinc_k kc_1) (Nat.le_of_ble_eq_true rfl) rfl ?_
                    refine z_goto (tgt := 45) dL_isTune_215 rfl ?_
                    refine z_fgt (i := 11) ?_
                    exact ih _ _ _ _ _ _ (by omega) (by omega) h hK
                  · have h := it_f h hc166
                    refine z_iconst (v := (0 : Int32)) dL_isTune_210 kc_0 ?_
                    cases h
                    refine z_sub hw ?_
                    exact z_iret dL_isTune_211 rfl rfl (by omega) (by omega) ⟨rfl, rfl⟩
      · have h := it_f h hc8
        refine z_iconst (v := (1 : Int32)) dL_isTune_76 kc_1 ?_
        refine z_iload (i := 8) dL_isTune_77 rfl ?_
        refine z_ishl dL_isTune_79 ?_
        refine z_goto (tgt := 84) dL_isTune_80 rfl ?_
        refine z_iadd dL_isTune_84 ?_
        obtain ⟨hc167, h⟩ := chk h
        refine z_iast (j := v10.toNatClampNeg) allR_nd dL_isTune_85 ch0 rfl hc167 rfl ?_
        refine z_iload (i := 4) dL_isTune_86 rfl ?_
        refine z_iload (i := 11) dL_isTune_88 rfl ?_
        refine z_if_eq (tgt := 111) dL_isTune_90 rfl (fun hc168 => ?_) (fun hc168 => ?_)
        · have h := it_t h hc168
          refine z_iconst (v := (0 : Int32)) dL_isTune_111 kc_0 ?_
          refine z_iadd dL_isTune_112 ?_
          refine z_istore (i := 4) dL_isTune_113 (Nat.le_of_ble_eq_true rfl) rfl ?_
          refine z_iload_n (i := 3) dL_isTune_115 rfl rfl ?_
          refine z_aload_n (i := 1) dL_isTune_116 rfl rfl ?_
          refine z_iload_n (i := 2) dL_isTune_117 rfl rfl ?_
          refine z_iload (i := 8) dL_isTune_118 rfl ?_
          refine z_iload (i := 10) dL_isTune_120 rfl ?_
          obtain ⟨q169, hq170, h⟩ := bnd h
          refine z_fVi (sX10_isClose (putI M (26, 0, 0) v10.toNatClampNeg ((M.1 (26, 0, 0) v10.toNatClampNeg) + ((1 : Int32) <<< (c8 &&& 31)))) k c2 c8 v10 owk hq170) dL_isTune_122 ml_L_65 cd_X10_isClose owk.1 rfl rfl rfl (rmk_r (by decide) (by decide) (by omega) (by omega)) rfl rfl ?_
          refine z_if_eq (tgt := 132) dL_isTune_125 rfl (fun hc171 => ?_) (fun hc171 => ?_)
          · have h := it_t h hc171
            refine z_iconst (v := (0 : Int32)) dL_isTune_132 kc_0 ?_
            refine z_iadd dL_isTune_133 ?_
            refine z_istore_n (i := 3) dL_isTune_134 rfl (Nat.le_of_ble_eq_true rfl) rfl ?_
            refine z_aload (i := 9) dL_isTune_135 rfl ?_
            refine z_aload_n (i := 1) dL_isTune_137 rfl rfl ?_
            refine z_iload_n (i := 2) dL_isTune_138 rfl rfl ?_
            refine z_iload (i := 8) dL_isTune_139 rfl ?_
            refine z_iload (i := 10) dL_isTune_141 rfl ?_
            obtain ⟨q172, hq173, h⟩ := bnd h
            refine z_fVi (sX10_isClose (putI M (26, 0, 0) v10.toNatClampNeg ((M.1 (26, 0, 0) v10.toNatClampNeg) + ((1 : Int32) <<< (c8 &&& 31)))) k c2 c8 v10 owk hq173) dL_isTune_143 ml_L_65 cd_X10_isClose owk.1 rfl rfl rfl (rmk_r (by decide) (by decide) (by omega) (by omega)) rfl rfl ?_
            refine z_if_eq (tgt := 154) dL_isTune_146 rfl (fun hc174 => ?_) (fun hc174 => ?_)
            · have h := it_t h hc174
              refine z_iload (i := 11) dL_isTune_154 rfl ?_
              refine z_if_eq (tgt := 164) dL_isTune_156 rfl (fun hc175 => ?_) (fun hc175 => ?_)
              · have h := it_t h hc175
                refine z_bipush (v := (45 : Int32)) dL_isTune_164 kb_45 ?_
                obtain ⟨q176, hq177, h⟩ := bnd h
                refine z_cGV (sJ4_append_cf468 (putI M (26, 0, 0) v10.toNatClampNeg ((M.1 (26, 0, 0) v10.toNatClampNeg) + ((1 : Int32) <<< (c8 &&& 31)))) 0 (45 : Int32) 70 tb0 (by decide) (frS hf rfl) hq177) dL_isTune_166 ml_L_68 cd_J4_append_cf468 tb0.1 rfl rfl rfl (rq_o (by decide) (by decide) (by omega) (by omega)) rfl rfl (qi_N qv rfl) rfl rfl rfl ?_
                refine z_pop dL_isTune_169 rfl ?_
                refine z_aload_n (i := 0) dL_isTune_170 rfl rfl ?_
                refine z_iload_n (i := 2) dL_isTune_171 rfl rfl ?_
                refine z_iload (i := 8) dL_isTune_172 rfl ?_
                refine z_iload (i := 10) dL_isTune_174 rfl ?_
                obtain ⟨q178, hq179, h⟩ := bnd h
                refine z_fVi (sX9_isPin q176 c2 c8 v10 hq179) dL_isTune_176 ml_L_71 cd_X9_isPin mk0 rfl rfl rfl (rmk_r (by decide) (by decide) (by omega) (by omega)) rfl rfl ?_
                refine z_iload (i := 11) dL_isTune_179 rfl ?_
                refine z_icmp_ne (tgt := 210) dL_isTune_181 rfl (fun hc180 => ?_) (fun hc180 => ?_)
                · have h := it_f h hc180
                  refine z_iconst (v := (0 : Int32)) dL_isTune_210 kc_0 ?_
                  cases h
                  refine z_sub hw ?_
                  exact z_iret dL_isTune_211 rfl rfl (by omega) (by omega) ⟨rfl, rfl⟩
                · have h := it_t h hc180
                  refine z_iload (i := 11) dL_isTune_184 rfl ?_
                  refine z_if_eq (tgt := 212) dL_isTune_186 rfl (fun hc181 => ?_) (fun hc181 => ?_)
                  · have h := it_t h hc181
                    refine z_iinc (i := 10) (v := (v10 + (1 : Int32))) dL_isTune_212 rfl (iinc_k kc_1) (Nat.le_of_ble_eq_true rfl) rfl ?_
                    refine z_goto (tgt := 45) dL_isTune_215 rfl ?_
                    refine z_fgt (i := 11) ?_
                    exact ih _ _ _ _ _ _ (by omega) (by omega) h hK
                  · have h := it_f h hc181
                    refine z_aload_n (i := 0) dL_isTune_189 rfl rfl ?_
                    refine z_iload_n (i := 2) dL_isTune_190 rfl rfl ?_
                    refine z_iload (i := 8) dL_isTune_191 rfl ?_
                    refine z_iload (i := 10) dL_isTune_193 rfl ?_
                    obtain ⟨q182, hq183, h⟩ := bnd h
                    refine z_fVi (sX9_distance q178.2 c2 c8 v10 hq183) dL_isTune_195 ml_L_74 cd_X9_distance mk0 rfl rfl rfl (rmk_r (by decide) (by decide) (by omega) (by omega)) rfl rfl ?_
                    refine z_aload_n (i := 1) dL_isTune_198 rfl rfl ?_
                    refine z_iload_n (i := 2) dL_isTune_199 rfl rfl ?_
                    refine z_iload (i := 8) dL_isTune_200 rfl ?_
                    refine z_iload (i := 10) dL_isTune_202 rfl ?_
                    obtain ⟨q184, hq185, h⟩ := bnd h
                    refine z_fVi (sX10_distance q182.2 k c2 c8 v10 owk hq185) dL_isTune_204 ml_L_78 cd_X10_distance owk.1 rfl rfl rfl (rmk_r (by decide) (by decide) (by omega) (by omega)) rfl rfl ?_
                    refine z_icmp_eq (tgt := 212) dL_isTune_207 rfl (fun hc186 => ?_) (fun hc186 => ?_)
                    · have h := it_t h hc186
                      refine z_iinc (i := 10) (v := (v10 + (1 : Int32))) dL_isTune_212 rfl (iinc_k kc_1) (Nat.le_of_ble_eq_true rfl) rfl ?_
                      refine z_goto (tgt := 45) dL_isTune_215 rfl ?_
                      refine z_fgt (i := 11) ?_
                      exact ih _ _ _ _ _ _ (by omega) (by omega) h hK
                    · have h := it_f h hc186
                      refine z_iconst (v := (0 : Int32)) dL_isTune_210 kc_0 ?_
                      cases h
                      refine z_sub hw ?_
                      exact z_iret dL_isTune_211 rfl rfl (by omega) (by omega) ⟨rfl, rfl⟩
              · have h := it_f h hc175
                refine z_bipush (v := (35 : Int32)) dL_isTune_159 kb_35 ?_
                refine z_goto (tgt := 166) dL_isTune_161 rfl ?_
                obtain ⟨q187, hq188, h⟩ := bnd h
                refine z_cGV (sJ4_append_cf468 (putI M (26, 0, 0) v10.toNatClampNeg ((M.1 (26, 0, 0) v10.toNatClampNeg) + ((1 : Int32) <<< (c8 &&& 31)))) 0 (35 : Int32) 70 tb0 (by decide) (frS hf rfl) hq188) dL_isTune_166 ml_L_68 cd_J4_append_cf468 tb0.1 rfl rfl rfl (rq_o (by decide) (by decide) (by omega) (by omega)) rfl rfl (qi_N qv rfl) rfl rfl rfl ?_
                refine z_pop dL_isTune_169 rfl ?_
                refine z_aload_n (i := 0) dL_isTune_170 rfl rfl ?_
                refine z_iload_n (i := 2) dL_isTune_171 rfl rfl ?_
                refine z_iload (i := 8) dL_isTune_172 rfl ?_
                refine z_iload (i := 10) dL_isTune_174 rfl ?_
                obtain ⟨q189, hq190, h⟩ := bnd h
                refine z_fVi (sX9_isPin q187 c2 c8 v10 hq190) dL_isTune_176 ml_L_71 cd_X9_isPin mk0 rfl rfl rfl (rmk_r (by decide) (by decide) (by omega) (by omega)) rfl rfl ?_
                refine z_iload (i := 11) dL_isTune_179 rfl ?_
                refine z_icmp_ne (tgt := 210) dL_isTune_181 rfl (fun hc191 => ?_) (fun hc191 => ?_)
                · have h := it_f h hc191
                  refine z_iconst (v := (0 : Int32)) dL_isTune_210 kc_0 ?_
                  cases h
                  refine z_sub hw ?_
                  exact z_iret dL_isTune_211 rfl rfl (by omega) (by omega) ⟨rfl, rfl⟩
                · have h := it_t h hc191
                  refine z_iload (i := 11) dL_isTune_184 rfl ?_
                  refine z_if_eq (tgt := 212) dL_isTune_186 rfl (fun hc192 => ?_) (fun hc192 => ?_)
                  · have h := it_t h hc192
                    refine z_iinc (i := 10) (v := (v10 + (1 : Int32))) dL_isTune_212 rfl (iinc_k kc_1) (Nat.le_of_ble_eq_true rfl) rfl ?_
                    refine z_goto (tgt := 45) dL_isTune_215 rfl ?_
                    refine z_fgt (i := 11) ?_
                    exact ih _ _ _ _ _ _ (by omega) (by omega) h hK
                  · have h := it_f h hc192
                    refine z_aload_n (i := 0) dL_isTune_189 rfl rfl ?_
                    refine z_iload_n (i := 2) dL_isTune_190 rfl rfl ?_
                    refine z_iload (i := 8) dL_isTune_191 rfl ?_
                    refine z_iload (i := 10) dL_isTune_193 rfl ?_
                    obtain ⟨q193, hq194, h⟩ := bnd h
                    refine z_fVi (sX9_distance q189.2 c2 c8 v10 hq194) dL_isTune_195 ml_L_74 cd_X9_distance mk0 rfl rfl rfl (rmk_r (by decide) (by decide) (by omega) (by omega)) rfl rfl ?_
                    refine z_aload_n (i := 1) dL_isTune_198 rfl rfl ?_
                    refine z_iload_n (i := 2) dL_isTune_199 rfl rfl ?_
                    refine z_iload (i := 8) dL_isTune_200 rfl ?_
                    refine z_iload (i := 10) dL_isTune_202 rfl ?_
                    obtain ⟨q195, hq196, h⟩ := bnd h
                    refine z_fVi (sX10_distance q193.2 k c2 c8 v10 owk hq196) dL_isTune_204 ml_L_78 cd_X10_distance owk.1 rfl rfl rfl (rmk_r (by decide) (by decide) (by omega) (by omega)) rfl rfl ?_
                    refine z_icmp_eq (tgt := 212) dL_isTune_207 rfl (fun hc197 => ?_) (fun hc197 => ?_)
                    · have h := it_t h hc197
                      refine z_iinc (i := 10) (v := (v10 + (1 : Int32))) dL_isTune_212 rfl (iinc_k kc_1) (Nat.le_of_ble_eq_true rfl) rfl ?_
                      refine z_goto (tgt := 45) dL_isTune_215 rfl ?_
                      refine z_fgt (i := 11) ?_
                      exact ih _ _ _ _ _ _ (by omega) (by omega) h hK
                    · have h := it_f h hc197
                      refine z_iconst (v := (0 : Int32)) dL_isTune_210 kc_0 ?_
                      cases h
                      refine z_sub hw ?_
                      exact z_iret dL_isTune_211 rfl rfl (by omega) (by omega) ⟨rfl, rfl⟩
            · have h := it_f h hc174
              refine z_bipush (v := (33 : Int32)) dL_isTune_149 kb_33 ?_
              refine z_goto (tgt := 166) dL_isTune_151 rfl ?_
              obtain ⟨q198, hq199, h⟩ := bnd h
              refine z_cGV (sJ4_append_cf468 (putI M (26, 0, 0) v10.toNatClampNeg ((M.1 (26, 0, 0) v10.toNatClampNeg) + ((1 : Int32) <<< (c8 &&& 31)))) 0 (33 : Int32) 70 tb0 (by decide) (frS hf rfl) hq199) dL_isTune_166 ml_L_68 cd_J4_append_cf468 tb0.1 rfl rfl rfl (rq_o (by decide) (by decide) (by omega) (by omega)) rfl rfl (qi_N qv rfl) rfl rfl rfl ?_
              refine z_pop dL_isTune_169 rfl ?_
              refine z_aload_n (i := 0) dL_isTune_170 rfl rfl ?_
              refine z_iload_n (i := 2) dL_isTune_171 rfl rfl ?_
              refine z_iload (i := 8) dL_isTune_172 rfl ?_
              refine z_iload (i := 10) dL_isTune_174 rfl ?_
              obtain ⟨q200, hq201, h⟩ := bnd h
              refine z_fVi (sX9_isPin q198 c2 c8 v10 hq201) dL_isTune_176 ml_L_71 cd_X9_isPin mk0 rfl rfl rfl (rmk_r (by decide) (by decide) (by omega) (by omega)) rfl rfl ?_
              refine z_iload (i := 11) dL_isTune_179 rfl ?_
              refine z_icmp_ne (tgt := 210) dL_isTune_181 rfl (fun hc202 => ?_) (fun hc202 => ?_)
              · have h := it_f h hc202
                refine z_iconst (v := (0 : Int32)) dL_isTune_210 kc_0 ?_
                cases h
                refine z_sub hw ?_
                exact z_iret dL_isTune_211 rfl rfl (by omega) (by omega) ⟨rfl, rfl⟩
              · have h := it_t h hc202
                refine z_iload (i := 11) dL_isTune_184 rfl ?_
                refine z_if_eq (tgt := 212) dL_isTune_186 rfl (fun hc203 => ?_) (fun hc203 => ?_)
                · have h := it_t h hc203
                  refine z_iinc (i := 10) (v := (v10 + (1 : Int32))) dL_isTune_212 rfl (iinc_k kc_1) (Nat.le_of_ble_eq_true rfl) rfl ?_
                  refine z_goto (tgt := 45) dL_isTune_215 rfl ?_
                  refine z_fgt (i := 11) ?_
                  exact ih _ _ _ _ _ _ (by omega) (by omega) h hK
                · have h := it_f h hc203
                  refine z_aload_n (i := 0) dL_isTune_189 rfl rfl ?_
                  refine z_iload_n (i := 2) dL_isTune_190 rfl rfl ?_
                  refine z_iload (i := 8) dL_isTune_191 rfl ?_
                  refine z_iload (i := 10) dL_isTune_193 rfl ?_
                  obtain ⟨q204, hq205, h⟩ := bnd h
                  refine z_fVi (sX9_distance q200.2 c2 c8 v10 hq205) dL_isTune_195 ml_L_74 cd_X9_distance mk0 rfl rfl rfl (rmk_r (by decide) (by decide) (by omega) (by omega)) rfl rfl ?_
                  refine z_aload_n (i := 1) dL_isTune_198 rfl rfl ?_
                  refine z_iload_n (i := 2) dL_isTune_199 rfl rfl ?_
                  refine z_iload (i := 8) dL_isTune_200 rfl ?_
                  refine z_iload (i := 10) dL_isTune_202 rfl ?_
                  obtain ⟨q206, hq207, h⟩ := bnd h
                  refine z_fVi (sX10_distance q204.2 k c2 c8 v10 owk hq207) dL_isTune_204 ml_L_78 cd_X10_distance owk.1 rfl rfl rfl (rmk_r (by decide) (by decide) (by omega) (by omega)) rfl rfl ?_
                  refine z_icmp_eq (tgt := 212) dL_isTune_207 rfl (fun hc208 => ?_) (fun hc208 => ?_)
                  · have h := it_t h hc208
                    refine z_iinc (i := 10) (v := (v10 + (1 : Int32))) dL_isTune_212 rfl (iinc_k kc_1) (Nat.le_of_ble_eq_true rfl) rfl ?_
                    refine z_goto (tgt := 45) dL_isTune_215 rfl ?_
                    refine z_fgt (i := 11) ?_
                    exact ih _ _ _ _ _ _ (by omega) (by omega) h hK
                  · have h := it_f h hc208
                    refine z_iconst (v := (0 : Int32)) dL_isTune_210 kc_0 ?_
                    cases h
                    refine z_sub hw ?_
                    exact z_iret dL_isTune_211 rfl rfl (by omega) (by omega) ⟨rfl, rfl⟩
          · have h := it_f h hc171
            refine z_iconst (v := (1 : Int32)) dL_isTune_128 kc_1 ?_
            refine z_goto (tgt := 133) dL_isTune_129 rfl ?_
            refine z_iadd dL_isTune_133 ?_
            refine z_istore_n (i := 3) dL_isTune_134 rfl (Nat.le_of_ble_eq_true rfl) rfl ?_
            refine z_aload (i := 9) dL_isTune_135 rfl ?_
            refine z_aload_n (i := 1) dL_isTune_137 rfl rfl ?_
            refine z_iload_n (i := 2) dL_isTune_138 rfl rfl ?_
            refine z_iload (i := 8) dL_isTune_139 rfl ?_
            refine z_iload (i := 10) dL_isTune_141 rfl ?_
            obtain ⟨q209, hq210, h⟩ := bnd h
            refine z_fVi (sX10_isClose (putI M (26, 0, 0) v10.toNatClampNeg ((M.1 (26, 0, 0) v10.toNatClampNeg) + ((1 : Int32) <<< (c8 &&& 31)))) k c2 c8 v10 owk hq210) dL_isTune_143 ml_L_65 cd_X10_isClose owk.1 rfl rfl rfl (rmk_r (by decide) (by decide) (by omega) (by omega)) rfl rfl ?_
            refine z_if_eq (tgt := 154) dL_isTune_146 rfl (fun hc211 => ?_) (fun hc211 => ?_)
            · have h := it_t h hc211
              refine z_iload (i := 11) dL_isTune_154 rfl ?_
              refine z_if_eq (tgt := 164) dL_isTune_156 rfl (fun hc212 => ?_) (fun hc212 => ?_)
              · have h := it_t h hc212
                refine z_bipush (v := (45 : Int32)) dL_isTune_164 kb_45 ?_
                obtain ⟨q213, hq214, h⟩ := bnd h
                refine z_cGV (sJ4_append_cf468 (putI M (26, 0, 0) v10.toNatClampNeg ((M.1 (26, 0, 0) v10.toNatClampNeg) + ((1 : Int32) <<< (c8 &&& 31)))) 0 (45 : Int32) 70 tb0 (by decide) (frS hf rfl) hq214) dL_isTune_166 ml_L_68 cd_J4_append_cf468 tb0.1 rfl rfl rfl (rq_o (by decide) (by decide) (by omega) (by omega)) rfl rfl (qi_N qv rfl) rfl rfl rfl ?_
                refine z_pop dL_isTune_169 rfl ?_
                refine z_aload_n (i := 0) dL_isTune_170 rfl rfl ?_
                refine z_iload_n (i := 2) dL_isTune_171 rfl rfl ?_
                refine z_iload (i := 8) dL_isTune_172 rfl ?_
                refine z_iload (i := 10) dL_isTune_174 rfl ?_
                obtain ⟨q215, hq216, h⟩ := bnd h
                refine z_fVi (sX9_isPin q213 c2 c8 v10 hq216) dL_isTune_176 ml_L_71 cd_X9_isPin mk0 rfl rfl rfl (rmk_r (by decide) (by decide) (by omega) (by omega)) rfl rfl ?_
                refine z_iload (i := 11) dL_isTune_179 rfl ?_
                refine z_icmp_ne (tgt := 210) dL_isTune_181 rfl (fun hc217 => ?_) (fun hc217 => ?_)
                · have h := it_f h hc217
                  refine z_iconst (v := (0 : Int32)) dL_isTune_210 kc_0 ?_
                  cases h
                  refine z_sub hw ?_
                  exact z_iret dL_isTune_211 rfl rfl (by omega) (by omega) ⟨rfl, rfl⟩
                · have h := it_t h hc217
                  refine z_iload (i := 11) dL_isTune_184 rfl ?_
                  refine z_if_eq (tgt := 212) dL_isTune_186 rfl (fun hc218 => ?_) (fun hc218 => ?_)
                  · have h := it_t h hc218
                    refine z_iinc (i := 10) (v := (v10 + (1 : Int32))) dL_isTune_212 rfl (iinc_k kc_1) (Nat.le_of_ble_eq_true rfl) rfl ?_
                    refine z_goto (tgt := 45) dL_isTune_215 rfl ?_
                    refine z_fgt (i := 11) ?_
                    exact ih _ _ _ _ _ _ (by omega) (by omega) h hK
                  · have h := it_f h hc218
                    refine z_aload_n (i := 0) dL_isTune_189 rfl rfl ?_
                    refine z_iload_n (i := 2) dL_isTune_190 rfl rfl ?_
                    refine z_iload (i := 8) dL_isTune_191 rfl ?_
                    refine z_iload (i := 10) dL_isTune_193 rfl ?_
                    obtain ⟨q219, hq220, h⟩ := bnd h
                    refine z_fVi (sX9_distance q215.2 c2 c8 v10 hq220) dL_isTune_195 ml_L_74 cd_X9_distance mk0 rfl rfl rfl (rmk_r (by decide) (by decide) (by omega) (by omega)) rfl rfl ?_
                    refine z_aload_n (i := 1) dL_isTune_198 rfl rfl ?_
                    refine z_iload_n (i := 2) dL_isTune_199 rfl rfl ?_
                    refine z_iload (i := 8) dL_isTune_200 rfl ?_
                    refine z_iload (i := 10) dL_isTune_202 rfl ?_
                    obtain ⟨q221, hq222, h⟩ := bnd h
                    refine z_fVi (sX10_distance q219.2 k c2 c8 v10 owk hq222) dL_isTune_204 ml_L_78 cd_X10_distance owk.1 rfl rfl rfl (rmk_r (by decide) (by decide) (by omega) (by omega)) rfl rfl ?_
                    refine z_icmp_eq (tgt := 212) dL_isTune_207 rfl (fun hc223 => ?_) (fun hc223 => ?_)
                    · have h := it_t h hc223
                      refine z_iinc (i := 10) (v := (v10 + (1 : Int32))) dL_isTune_212 rfl (iinc_k kc_1) (Nat.le_of_ble_eq_true rfl) rfl ?_
                      refine z_goto (tgt := 45) dL_isTune_215 rfl ?_
                      refine z_fgt (i := 11) ?_
                      exact ih _ _ _ _ _ _ (by omega) (by omega) h hK
                    · have h := it_f h hc223
                      refine z_iconst (v := (0 : Int32)) dL_isTune_210 kc_0 ?_
                      cases h
                      refine z_sub hw ?_
                      exact z_iret dL_isTune_211 rfl rfl (by omega) (by omega) ⟨rfl, rfl⟩
              · have h := it_f h hc212
                refine z_bipush (v := (35 : Int32)) dL_isTune_159 kb_35 ?_
                refine z_goto (tgt := 166) dL_isTune_161 rfl ?_
                obtain ⟨q224, hq225, h⟩ := bnd h
                refine z_cGV (sJ4_append_cf468 (putI M (26, 0, 0) v10.toNatClampNeg ((M.1 (26, 0, 0) v10.toNatClampNeg) + ((1 : Int32) <<< (c8 &&& 31)))) 0 (35 : Int32) 70 tb0 (by decide) (frS hf rfl) hq225) dL_isTune_166 ml_L_68 cd_J4_append_cf468 tb0.1 rfl rfl rfl (rq_o (by decide) (by decide) (by omega) (by omega)) rfl rfl (qi_N qv rfl) rfl rfl rfl ?_
                refine z_pop dL_isTune_169 rfl ?_
                refine z_aload_n (i := 0) dL_isTune_170 rfl rfl ?_
                refine z_iload_n (i := 2) dL_isTune_171 rfl rfl ?_
                refine z_iload (i := 8) dL_isTune_172 rfl ?_
                refine z_iload (i := 10) dL_isTune_174 rfl ?_
                obtain ⟨q226, hq227, h⟩ := bnd h
                refine z_fVi (sX9_isPin q224 c2 c8 v10 hq227) dL_isTune_176 ml_L_71 cd_X9_isPin mk0 rfl rfl rfl (rmk_r (by decide) (by decide) (by omega) (by omega)) rfl rfl ?_
                refine z_iload (i := 11) dL_isTune_179 rfl ?_
                refine z_icmp_ne (tgt := 210) dL_isTune_181 rfl (fun hc228 => ?_) (fun hc228 => ?_)
                · have h := it_f h hc228
                  refine z_iconst (v := (0 : Int32)) dL_isTune_210 kc_0 ?_
                  cases h
                  refine z_sub hw ?_
                  exact z_iret dL_isTune_211 rfl rfl (by omega) (by omega) ⟨rfl, rfl⟩
                · have h := it_t h hc228
                  refine z_iload (i := 11) dL_isTune_184 rfl ?_
                  refine z_if_eq (tgt := 212) dL_isTune_186 rfl (fun hc229 => ?_) (fun hc229 => ?_)
                  · have h := it_t h hc229
                    refine z_iinc (i := 10) (v := (v10 + (1 : Int32))) dL_isTune_212 rfl (iinc_k kc_1) (Nat.le_of_ble_eq_true rfl) rfl ?_
                    refine z_goto (tgt := 45) dL_isTune_215 rfl ?_
                    refine z_fgt (i := 11) ?_
                    exact ih _ _ _ _ _ _ (by omega) (by omega) h hK
                  · have h := it_f h hc229
                    refine z_aload_n (i := 0) dL_isTune_189 rfl rfl ?_
                    refine z_iload_n (i := 2) dL_isTune_190 rfl rfl ?_
                    refine z_iload (i := 8) dL_isTune_191 rfl ?_
                    refine z_iload (i := 10) dL_isTune_193 rfl ?_
                    obtain ⟨q230, hq231, h⟩ := bnd h
                    refine z_fVi (sX9_distance q226.2 c2 c8 v10 hq231) dL_isTune_195 ml_L_74 cd_X9_distance mk0 rfl rfl rfl (rmk_r (by decide) (by decide) (by omega) (by omega)) rfl rfl ?_
                    refine z_aload_n (i := 1) dL_isTune_198 rfl rfl ?_
                    refine z_iload_n (i := 2) dL_isTune_199 rfl rfl ?_
                    refine z_iload (i := 8) dL_isTune_200 rfl ?_
                    refine z_iload (i := 10) dL_isTune_202 rfl ?_
                    obtain ⟨q232, hq233, h⟩ := bnd h
                    refine z_fVi (sX10_distance q230.2 k c2 c8 v10 owk hq233) dL_isTune_204 ml_L_78 cd_X10_distance owk.1 rfl rfl rfl (rmk_r (by decide) (by decide) (by omega) (by omega)) rfl rfl ?_
                    refine z_icmp_eq (tgt := 212) dL_isTune_207 rfl (fun hc234 => ?_) (fun hc234 => ?_)
                    · have h := it_t h hc234
                      refine z_iinc (i := 10) (v := (v10 + (1 : Int32))) dL_isTune_212 rfl (iinc_k kc_1) (Nat.le_of_ble_eq_true rfl) rfl ?_
                      refine z_goto (tgt := 45) dL_isTune_215 rfl ?_
                      refine z_fgt (i := 11) ?_
                      exact ih _ _ _ _ _ _ (by omega) (by omega) h hK
                    · have h := it_f h hc234
                      refine z_iconst (v := (0 : Int32)) dL_isTune_210 kc_0 ?_
                      cases h
                      refine z_sub hw ?_
                      exact z_iret dL_isTune_211 rfl rfl (by omega) (by omega) ⟨rfl, rfl⟩
            · have h := it_f h hc211
              refine z_bipush (v := (33 : Int32)) dL_isTune_149 kb_33 ?_
              refine z_goto (tgt := 166) dL_isTune_151 rfl ?_
              obtain ⟨q235, hq236, h⟩ := bnd h
              refine z_cGV (sJ4_append_cf468 (putI M (26, 0, 0) v10.toNatClampNeg ((M.1 (26, 0, 0) v10.toNatClampNeg) + ((1 : Int32) <<< (c8 &&& 31)))) 0 (33 : Int32) 70 tb0 (by decide) (frS hf rfl) hq236) dL_isTune_166 ml_L_68 cd_J4_append_cf468 tb0.1 rfl rfl rfl (rq_o (by decide) (by decide) (by omega) (by omega)) rfl rfl (qi_N qv rfl) rfl rfl rfl ?_
              refine z_pop dL_isTune_169 rfl ?_
              refine z_aload_n (i := 0) dL_isTune_170 rfl rfl ?_
              refine z_iload_n (i := 2) dL_isTune_171 rfl rfl ?_
              refine z_iload (i := 8) dL_isTune_172 rfl ?_
              refine z_iload (i := 10) dL_isTune_174 rfl ?_
              obtain ⟨q237, hq238, h⟩ := bnd h
              refine z_fVi (sX9_isPin q235 c2 c8 v10 hq238) dL_isTune_176 ml_L_71 cd_X9_isPin mk0 rfl rfl rfl (rmk_r (by decide) (by decide) (by omega) (by omega)) rfl rfl ?_
              refine z_iload (i := 11) dL_isTune_179 rfl ?_
              refine z_icmp_ne (tgt := 210) dL_isTune_181 rfl (fun hc239 => ?_) (fun hc239 => ?_)
              · have h := it_f h hc239
                refine z_iconst (v := (0 : Int32)) dL_isTune_210 kc_0 ?_
                cases h
                refine z_sub hw ?_
                exact z_iret dL_isTune_211 rfl rfl (by omega) (by omega) ⟨rfl, rfl⟩
              · have h := it_t h hc239
                refine z_iload (i := 11) dL_isTune_184 rfl ?_
                refine z_if_eq (tgt := 212) dL_isTune_186 rfl (fun hc240 => ?_) (fun hc240 => ?_)
                · have h := it_t h hc240
                  refine z_iinc (i := 10) (v := (v10 + (1 : Int32))) dL_isTune_212 rfl (iinc_k kc_1) (Nat.le_of_ble_eq_true rfl) rfl ?_
                  refine z_goto (tgt := 45) dL_isTune_215 rfl ?_
                  refine z_fgt (i := 11) ?_
                  exact ih _ _ _ _ _ _ (by omega) (by omega) h hK
                · have h := it_f h hc240
                  refine z_aload_n (i := 0) dL_isTune_189 rfl rfl ?_
                  refine z_iload_n (i := 2) dL_isTune_190 rfl rfl ?_
                  refine z_iload (i := 8) dL_isTune_191 rfl ?_
                  refine z_iload (i := 10) dL_isTune_193 rfl ?_
                  obtain ⟨q241, hq242, h⟩ := bnd h
                  refine z_fVi (sX9_distance q237.2 c2 c8 v10 hq242) dL_isTune_195 ml_L_74 cd_X9_distance mk0 rfl rfl rfl (rmk_r (by decide) (by decide) (by omega) (by omega)) rfl rfl ?_
                  refine z_aload_n (i := 1) dL_isTune_198 rfl rfl ?_
                  refine z_iload_n (i := 2) dL_isTune_199 rfl rfl ?_
                  refine z_iload (i := 8) dL_isTune_200 rfl ?_
                  refine z_iload (i := 10) dL_isTune_202 rfl ?_
                  obtain ⟨q243, hq244, h⟩ := bnd h
                  refine z_fVi (sX10_distance q241.2 k c2 c8 v10 owk hq244) dL_isTune_204 ml_L_78 cd_X10_distance owk.1 rfl rfl rfl (rmk_r (by decide) (by decide) (by omega) (by omega)) rfl rfl ?_
                  refine z_icmp_eq (tgt := 212) dL_isTune_207 rfl (fun hc245 => ?_) (fun hc245 => ?_)
                  · have h := it_t h hc245
                    refine z_iinc (i := 10) (v := (v10 + (1 : Int32))) dL_isTune_212 rfl (iinc_k kc_1) (Nat.le_of_ble_eq_true rfl) rfl ?_
                    refine z_goto (tgt := 45) dL_isTune_215 rfl ?_
                    refine z_fgt (i := 11) ?_
                    exact ih _ _ _ _ _ _ (by omega) (by omega) h hK
                  · have h := it_f h hc245
                    refine z_iconst (v := (0 : Int32)) dL_isTune_210 kc_0 ?_
                    cases h
                    refine z_sub hw ?_
                    exact z_iret dL_isTune_211 rfl rfl (by omega) (by omega) ⟨rfl, rfl⟩
        · have h := it_f h hc168
          refine z_aload_n (i := 1) dL_isTune_93 rfl rfl ?_
          refine z_getRG (r' := (19, k, 0)) dL_isTune_94 fg_L_58 owk.1 rfl rfl ?_
          refine z_iload (i := 8) dL_isTune_97 rfl ?_
          obtain ⟨hc246, h⟩ := chk h
          refine z_iald (x := (M.1 (19, k, 0) c8.toNatClampNeg)) dL_isTune_99 (owk.2.2 0 (Nat.le_of_ble_eq_true rfl)) rfl hc246 rfl ?_
          refine z_aload_n (i := 1) dL_isTune_100 rfl rfl ?_
          refine z_getRG (r' := (19, k, 1)) dL_isTune_101 fg_L_62 owk.1 rfl rfl ?_
          refine z_iload (i := 8) dL_isTune_104 rfl ?_
          obtain ⟨hc247, h⟩ := chk h
          refine z_iald (x := (M.1 (19, k, 1) c8.toNatClampNeg)) dL_isTune_106 (owk.2.2 1 (Nat.le_of_ble_eq_true rfl)) rfl hc247 rfl ?_
          refine z_iadd dL_isTune_107 ?_
          refine z_goto (tgt := 112) dL_isTune_108 rfl ?_
          refine z_iadd dL_isTune_112 ?_
          refine z_istore (i := 4) dL_isTune_113 (Nat.le_of_ble_eq_true rfl) rfl ?_
          refine z_iload_n (i := 3) dL_isTune_115 rfl rfl ?_
          refine z_aload_n (i := 1) dL_isTune_116 rfl rfl ?_
          refine z_iload_n (i := 2) dL_isTune_117 rfl rfl ?_
          refine z_iload (i := 8) dL_isTune_118 rfl ?_
          refine z_iload (i := 10) dL_isTune_120 rfl ?_
          obtain ⟨q248, hq249, h⟩ := bnd h
          refine z_fVi (sX10_isClose (putI M (26, 0, 0) v10.toNatClampNeg ((M.1 (26, 0, 0) v10.toNatClampNeg) + ((1 : Int32) <<< (c8 &&& 31)))) k c2 c8 v10 owk hq249) dL_isTune_122 ml_L_65 cd_X10_isClose owk.1 rfl rfl rfl (rmk_r (by decide) (by decide) (by omega) (by omega)) rfl rfl ?_
          refine z_if_eq (tgt := 132) dL_isTune_125 rfl (fun hc250 => ?_) (fun hc250 => ?_)
          · have h := it_t h hc250
            refine z_iconst (v := (0 : Int32)) dL_isTune_132 kc_0 ?_
            refine z_iadd dL_isTune_133 ?_
            refine z_istore_n (i := 3) dL_isTune_134 rfl (Nat.le_of_ble_eq_true rfl) rfl ?_
            refine z_aload (i := 9) dL_isTune_135 rfl ?_
            refine z_aload_n (i := 1) dL_isTune_137 rfl rfl ?_
            refine z_iload_n (i := 2) dL_isTune_138 rfl rfl ?_
            refine z_iload (i := 8) dL_isTune_139 rfl ?_
            refine z_iload (i := 10) dL_isTune_141 rfl ?_
            obtain ⟨q251, hq252, h⟩ := bnd h
            refine z_fVi (sX10_isClose (putI M (26, 0, 0) v10.toNatClampNeg ((M.1 (26, 0, 0) v10.toNatClampNeg) + ((1 : Int32) <<< (c8 &&& 31)))) k c2 c8 v10 owk hq252) dL_isTune_143 ml_L_65 cd_X10_isClose owk.1 rfl rfl rfl (rmk_r (by decide) (by decide) (by omega) (by omega)) rfl rfl ?_
            refine z_if_eq (tgt := 154) dL_isTune_146 rfl (fun hc253 => ?_) (fun hc253 => ?_)
            · have h := it_t h hc253
              refine z_iload (i := 11) dL_isTune_154 rfl ?_
              refine z_if_eq (tgt := 164) dL_isTune_156 rfl (fun hc254 => ?_) (fun hc254 => ?_)
              · have h := it_t h hc254
                refine z_bipush (v := (45 : Int32)) dL_isTune_164 kb_45 ?_
                obtain ⟨q255, hq256, h⟩ := bnd h
                refine z_cGV (sJ4_append_cf468 (putI M (26, 0, 0) v10.toNatClampNeg ((M.1 (26, 0, 0) v10.toNatClampNeg) + ((1 : Int32) <<< (c8 &&& 31)))) 0 (45 : Int32) 70 tb0 (by decide) (frS hf rfl) hq256) dL_isTune_166 ml_L_68 cd_J4_append_cf468 tb0.1 rfl rfl rfl (rq_o (by decide) (by decide) (by omega) (by omega)) rfl rfl (qi_N qv rfl) rfl rfl rfl ?_
                refine z_pop dL_isTune_169 rfl ?_
                refine z_aload_n (i := 0) dL_isTune_170 rfl rfl ?_
                refine z_iload_n (i := 2) dL_isTune_171 rfl rfl ?_
                refine z_iload (i := 8) dL_isTune_172 rfl ?_
                refine z_iload (i := 10) dL_isTune_174 rfl ?_
                obtain ⟨q257, hq258, h⟩ := bnd h
                refine z_fVi (sX9_isPin q255 c2 c8 v10 hq258) dL_isTune_176 ml_L_71 cd_X9_isPin mk0 rfl rfl rfl (rmk_r (by decide) (by decide) (by omega) (by omega)) rfl rfl ?_
                refine z_iload (i := 11) dL_isTune_179 rfl ?_
                refine z_icmp_ne (tgt := 210) dL_isTune_181 rfl (fun hc259 => ?_) (fun hc259 => ?_)
                · have h := it_f h hc259
                  refine z_iconst (v := (0 : Int32)) dL_isTune_210 kc_0 ?_
                  cases h
                  refine z_sub hw ?_
                  exact z_iret dL_isTune_211 rfl rfl (by omega) (by omega) ⟨rfl, rfl⟩
                · have h := it_t h hc259
                  refine z_iload (i := 11) dL_isTune_184 rfl ?_
                  refine z_if_eq (tgt := 212) dL_isTune_186 rfl (fun hc260 => ?_) (fun hc260 => ?_)
                  · have h := it_t h hc260
                    refine z_iinc (i := 10) (v := (v10 + (1 : Int32))) dL_isTune_212 rfl (iinc_k kc_1) (Nat.le_of_ble_eq_true rfl) rfl ?_
                    refine z_goto (tgt := 45) dL_isTune_215 rfl ?_
                    refine z_fgt (i := 11) ?_
                    exact ih _ _ _ _ _ _ (by omega) (by omega) h hK
                  · have h := it_f h hc260
                    refine z_aload_n (i := 0) dL_isTune_189 rfl rfl ?_
                    refine z_iload_n (i := 2) dL_isTune_190 rfl rfl ?_
                    refine z_iload (i := 8) dL_isTune_191 rfl ?_
                    refine z_iload (i := 10) dL_isTune_193 rfl ?_
                    obtain ⟨q261, hq262, h⟩ := bnd h
                    refine z_fVi (sX9_distance q257.2 c2 c8 v10 hq262) dL_isTune_195 ml_L_74 cd_X9_distance mk0 rfl rfl rfl (rmk_r (by decide) (by decide) (by omega) (by omega)) rfl rfl ?_
                    refine z_aload_n (i := 1) dL_isTune_198 rfl rfl ?_
                    refine z_iload_n (i := 2) dL_isTune_199 rfl rfl ?_
                    refine z_iload (i := 8) dL_isTune_200 rfl ?_
                    refine z_iload (i := 10) dL_isTune_202 rfl ?_
                    obtain ⟨q263, hq264, h⟩ := bnd h
                    refine z_fVi (sX10_distance q261.2 k c2 c8 v10 owk hq264) dL_isTune_204 ml_L_78 cd_X10_distance owk.1 rfl rfl rfl (rmk_r (by decide) (by decide) (by omega) (by omega)) rfl rfl ?_
                    refine z_icmp_eq (tgt := 212) dL_isTune_207 rfl (fun hc265 => ?_) (fun hc265 => ?_)
                    · have h := it_t h hc265
                      refine z_iinc (i := 10) (v := (v10 + (1 : Int32))) dL_isTune_212 rfl (iinc_k kc_1) (Nat.le_of_ble_eq_true rfl) rfl ?_
                      refine z_goto (tgt := 45) dL_isTune_215 rfl ?_
                      refine z_fgt (i := 11) ?_
                      exact ih _ _ _ _ _ _ (by omega) (by omega) h hK
                    · have h := it_f h hc265
                      refine z_iconst (v := (0 : Int32)) dL_isTune_210 kc_0 ?_
                      cases h
                      refine z_sub hw ?_
                      exact z_iret dL_isTune_211 rfl rfl (by omega) (by omega) ⟨rfl, rfl⟩
              · have h := it_f h hc254
                refine z_bipush (v := (35 : Int32)) dL_isTune_159 kb_35 ?_
                refine z_goto (tgt := 166) dL_isTune_161 rfl ?_
                obtain ⟨q266, hq267, h⟩ := bnd h
                refine z_cGV (sJ4_append_cf468 (putI M (26, 0, 0) v10.toNatClampNeg ((M.1 (26, 0, 0) v10.toNatClampNeg) + ((1 : Int32) <<< (c8 &&& 31)))) 0 (35 : Int32) 70 tb0 (by decide) (frS hf rfl) hq267) dL_isTune_166 ml_L_68 cd_J4_append_cf468 tb0.1 rfl rfl rfl (rq_o (by decide) (by decide) (by omega) (by omega)) rfl rfl (qi_N qv rfl) rfl rfl rfl ?_
                refine z_pop dL_isTune_169 rfl ?_
                refine z_aload_n (i := 0) dL_isTune_170 rfl rfl ?_
                refine z_iload_n (i := 2) dL_isTune_171 rfl rfl ?_
                refine z_iload (i := 8) dL_isTune_172 rfl ?_
                refine z_iload (i := 10) dL_isTune_174 rfl ?_
                obtain ⟨q268, hq269, h⟩ := bnd h
                refine z_fVi (sX9_isPin q266 c2 c8 v10 hq269) dL_isTune_176 ml_L_71 cd_X9_isPin mk0 rfl rfl rfl (rmk_r (by decide) (by decide) (by omega) (by omega)) rfl rfl ?_
                refine z_iload (i := 11) dL_isTune_179 rfl ?_
                refine z_icmp_ne (tgt := 210) dL_isTune_181 rfl (fun hc270 => ?_) (fun hc270 => ?_)
                · have h := it_f h hc270
                  refine z_iconst (v := (0 : Int32)) dL_isTune_210 kc_0 ?_
                  cases h
                  refine z_sub hw ?_
                  exact z_iret dL_isTune_211 rfl rfl (by omega) (by omega) ⟨rfl, rfl⟩
                · have h := it_t h hc270
                  refine z_iload (i := 11) dL_isTune_184 rfl ?_
                  refine z_if_eq (tgt := 212) dL_isTune_186 rfl (fun hc271 => ?_) (fun hc271 => ?_)
                  · have h := it_t h hc271
                    refine z_iinc (i := 10) (v := (v10 + (1 : Int32))) dL_isTune_212 rfl (iinc_k kc_1) (Nat.le_of_ble_eq_true rfl) rfl ?_
                    refine z_goto (tgt := 45) dL_isTune_215 rfl ?_
                    refine z_fgt (i := 11) ?_
                    exact ih _ _ _ _ _ _ (by omega) (by omega) h hK
                  · have h := it_f h hc271
                    refine z_aload_n (i := 0) dL_isTune_189 rfl rfl ?_
                    refine z_iload_n (i := 2) dL_isTune_190 rfl rfl ?_
                    refine z_iload (i := 8) dL_isTune_191 rfl ?_
                    refine z_iload (i := 10) dL_isTune_193 rfl ?_
                    obtain ⟨q272, hq273, h⟩ := bnd h
                    refine z_fVi (sX9_distance q268.2 c2 c8 v10 hq273) dL_isTune_195 ml_L_74 cd_X9_distance mk0 rfl rfl rfl (rmk_r (by decide) (by decide) (by omega) (by omega)) rfl rfl ?_
                    refine z_aload_n (i := 1) dL_isTune_198 rfl rfl ?_
                    refine z_iload_n (i := 2) dL_isTune_199 rfl rfl ?_
                    refine z_iload (i := 8) dL_isTune_200 rfl ?_
                    refine z_iload (i := 10) dL_isTune_202 rfl ?_
                    obtain ⟨q274, hq275, h⟩ := bnd h
                    refine z_fVi (sX10_distance q272.2 k c2 c8 v10 owk hq275) dL_isTune_204 ml_L_78 cd_X10_distance owk.1 rfl rfl rfl (rmk_r (by decide) (by decide) (by omega) (by omega)) rfl rfl ?_
                    refine z_icmp_eq (tgt := 212) dL_isTune_207 rfl (fun hc276 => ?_) (fun hc276 => ?_)
                    · have h := it_t h hc276
                      refine z_iinc (i := 10) (v := (v10 + (1 : Int32))) dL_isTune_212 rfl (iinc_k kc_1) (Nat.le_of_ble_eq_true rfl) rfl ?_
                      refine z_goto (tgt := 45) dL_isTune_215 rfl ?_
                      refine z_fgt (i := 11) ?_
                      exact ih _ _ _ _ _ _ (by omega) (by omega) h hK
                    · have h := it_f h hc276
                      refine z_iconst (v := (0 : Int32)) dL_isTune_210 kc_0 ?_
                      cases h
                      refine z_sub hw ?_
                      exact z_iret dL_isTune_211 rfl rfl (by omega) (by omega) ⟨rfl, rfl⟩
            · have h := it_f h hc253
              refine z_bipush (v := (33 : Int32)) dL_isTune_149 kb_33 ?_
              refine z_goto (tgt := 166) dL_isTune_151 rfl ?_
              obtain ⟨q277, hq278, h⟩ := bnd h
              refine z_cGV (sJ4_append_cf468 (putI M (26, 0, 0) v10.toNatClampNeg ((M.1 (26, 0, 0) v10.toNatClampNeg) + ((1 : Int32) <<< (c8 &&& 31)))) 0 (33 : Int32) 70 tb0 (by decide) (frS hf rfl) hq278) dL_isTune_166 ml_L_68 cd_J4_append_cf468 tb0.1 rfl rfl rfl (rq_o (by decide) (by decide) (by omega) (by omega)) rfl rfl (qi_N qv rfl) rfl rfl rfl ?_
              refine z_pop dL_isTune_169 rfl ?_
              refine z_aload_n (i := 0) dL_isTune_170 rfl rfl ?_
              refine z_iload_n (i := 2) dL_isTune_171 rfl rfl ?_
              refine z_iload (i := 8) dL_isTune_172 rfl ?_
              refine z_iload (i := 10) dL_isTune_174 rfl ?_
              obtain ⟨q279, hq280, h⟩ := bnd h
              refine z_fVi (sX9_isPin q277 c2 c8 v10 hq280) dL_isTune_176 ml_L_71 cd_X9_isPin mk0 rfl rfl rfl (rmk_r (by decide) (by decide) (by omega) (by omega)) rfl rfl ?_
              refine z_iload (i := 11) dL_isTune_179 rfl ?_
              refine z_icmp_ne (tgt := 210) dL_isTune_181 rfl (fun hc281 => ?_) (fun hc281 => ?_)
              · have h := it_f h hc281
                refine z_iconst (v := (0 : Int32)) dL_isTune_210 kc_0 ?_
                cases h
                refine z_sub hw ?_
                exact z_iret dL_isTune_211 rfl rfl (by omega) (by omega) ⟨rfl, rfl⟩
              · have h := it_t h hc281
                refine z_iload (i := 11) dL_isTune_184 rfl ?_
                refine z_if_eq (tgt := 212) dL_isTune_186 rfl (fun hc282 => ?_) (fun hc282 => ?_)
                · have h := it_t h hc282
                  refine z_iinc (i := 10) (v := (v10 + (1 : Int32))) dL_isTune_212 rfl (iinc_k kc_1) (Nat.le_of_ble_eq_true rfl) rfl ?_
                  refine z_goto (tgt := 45) dL_isTune_215 rfl ?_
                  refine z_fgt (i := 11) ?_
                  exact ih _ _ _ _ _ _ (by omega) (by omega) h hK
                · have h := it_f h hc282
                  refine z_aload_n (i := 0) dL_isTune_189 rfl rfl ?_
                  refine z_iload_n (i := 2) dL_isTune_190 rfl rfl ?_
                  refine z_iload (i := 8) dL_isTune_191 rfl ?_
                  refine z_iload (i := 10) dL_isTune_193 rfl ?_
                  obtain ⟨q283, hq284, h⟩ := bnd h
                  refine z_fVi (sX9_distance q279.2 c2 c8 v10 hq284) dL_isTune_195 ml_L_74 cd_X9_distance mk0 rfl rfl rfl (rmk_r (by decide) (by decide) (by omega) (by omega)) rfl rfl ?_
                  refine z_aload_n (i := 1) dL_isTune_198 rfl rfl ?_
                  refine z_iload_n (i := 2) dL_isTune_199 rfl rfl ?_
                  refine z_iload (i := 8) dL_isTune_200 rfl ?_
                  refine z_iload (i := 10) dL_isTune_202 rfl ?_
                  obtain ⟨q285, hq286, h⟩ := bnd h
                  refine z_fVi (sX10_distance q283.2 k c2 c8 v10 owk hq286) dL_isTune_204 ml_L_78 cd_X10_distance owk.1 rfl rfl rfl (rmk_r (by decide) (by decide) (by omega) (by omega)) rfl rfl ?_
                  refine z_icmp_eq (tgt := 212) dL_isTune_207 rfl (fun hc287 => ?_) (fun hc287 => ?_)
                  · have h := it_t h hc287
                    refine z_iinc (i := 10) (v := (v10 + (1 : Int32))) dL_isTune_212 rfl (iinc_k kc_1) (Nat.le_of_ble_eq_true rfl) rfl ?_
                    refine z_goto (tgt := 45) dL_isTune_215 rfl ?_
                    refine z_fgt (i := 11) ?_
                    exact ih _ _ _ _ _ _ (by omega) (by omega) h hK
                  · have h := it_f h hc287
                    refine z_iconst (v := (0 : Int32)) dL_isTune_210 kc_0 ?_
                    cases h
                    refine z_sub hw ?_
                    exact z_iret dL_isTune_211 rfl rfl (by omega) (by omega) ⟨rfl, rfl⟩
          · have h := it_f h hc250
            refine z_iconst (v := (1 : Int32)) dL_isTune_128 kc_1 ?_
            refine z_goto (tgt := 133) dL_isTune_129 rfl ?_
            refine z_iadd dL_isTune_133 ?_
            refine z_istore_n (i := 3) dL_isTune_134 rfl (Nat.le_of_ble_eq_true rfl) rfl ?_
            refine z_aload (i := 9) dL_isTune_135 rfl ?_
            refine z_aload_n (i := 1) dL_isTune_137 rfl rfl ?_
            refine z_iload_n (i := 2) dL_isTune_138 rfl rfl ?_
            refine z_iload (i := 8) dL_isTune_139 rfl ?_
            refine z_iload (i := 10) dL_isTune_141 rfl ?_
            obtain ⟨q288, hq289, h⟩ := bnd h
            refine z_fVi (sX10_isClose (putI M (26, 0, 0) v10.toNatClampNeg ((M.1 (26, 0, 0) v10.toNatClampNeg) + ((1 : Int32) <<< (c8 &&& 31)))) k c2 c8 v10 owk hq289) dL_isTune_143 ml_L_65 cd_X10_isClose owk.1 rfl rfl rfl (rmk_r (by decide) (by decide) (by omega) (by omega)) rfl rfl ?_
            refine z_if_eq (tgt := 154) dL_isTune_146 rfl (fun hc290 => ?_) (fun hc290 => ?_)
            · have h := it_t h hc290
              refine z_iload (i := 11) dL_isTune_154 rfl ?_
              refine z_if_eq (tgt := 164) dL_isTune_156 rfl (fun hc291 => ?_) (fun hc291 => ?_)
              · have h := it_t h hc291
                refine z_bipush (v := (45 : Int32)) dL_isTune_164 kb_45 ?_
                obtain ⟨q292, hq293, h⟩ := bnd h
                refine z_cGV (sJ4_append_cf468 (putI M (26, 0, 0) v10.toNatClampNeg ((M.1 (26, 0, 0) v10.toNatClampNeg) + ((1 : Int32) <<< (c8 &&& 31)))) 0 (45 : Int32) 70 tb0 (by decide) (frS hf rfl) hq293) dL_isTune_166 ml_L_68 cd_J4_append_cf468 tb0.1 rfl rfl rfl (rq_o (by decide) (by decide) (by omega) (by omega)) rfl rfl (qi_N qv rfl) rfl rfl rfl ?_
                refine z_pop dL_isTune_169 rfl ?_
                refine z_aload_n (i := 0) dL_isTune_170 rfl rfl ?_
                refine z_iload_n (i := 2) dL_isTune_171 rfl rfl ?_
                refine z_iload (i := 8) dL_isTune_172 rfl ?_
                refine z_iload (i := 10) dL_isTune_174 rfl ?_
                obtain ⟨q294, hq295, h⟩ := bnd h
                refine z_fVi (sX9_isPin q292 c2 c8 v10 hq295) dL_isTune_176 ml_L_71 cd_X9_isPin mk0 rfl rfl rfl (rmk_r (by decide) (by decide) (by omega) (by omega)) rfl rfl ?_
                refine z_iload (i := 11) dL_isTune_179 rfl ?_
                refine z_icmp_ne (tgt := 210) dL_isTune_181 rfl (fun hc296 => ?_) (fun hc296 => ?_)
                · have h := it_f h hc296
                  refine z_iconst (v := (0 : Int32)) dL_isTune_210 kc_0 ?_
                  cases h
                  refine z_sub hw ?_
                  exact z_iret dL_isTune_211 rfl rfl (by omega) (by omega) ⟨rfl, rfl⟩
                · have h := it_t h hc296
                  refine z_iload (i := 11) dL_isTune_184 rfl ?_
                  refine z_if_eq (tgt := 212) dL_isTune_186 rfl (fun hc297 => ?_) (fun hc297 => ?_)
                  · have h := it_t h hc297
                    refine z_iinc (i := 10) (v := (v10 + (1 : Int32))) dL_isTune_212 rfl (iinc_k kc_1) (Nat.le_of_ble_eq_true rfl) rfl ?_
                    refine z_goto (tgt := 45) dL_isTune_215 rfl ?_
                    refine z_fgt (i := 11) ?_
                    exact ih _ _ _ _ _ _ (by omega) (by omega) h hK
                  · have h := it_f h hc297
                    refine z_aload_n (i := 0) dL_isTune_189 rfl rfl ?_
                    refine z_iload_n (i := 2) dL_isTune_190 rfl rfl ?_
                    refine z_iload (i := 8) dL_isTune_191 rfl ?_
                    refine z_iload (i := 10) dL_isTune_193 rfl ?_
                    obtain ⟨q298, hq299, h⟩ := bnd h
                    refine z_fVi (sX9_distance q294.2 c2 c8 v10 hq299) dL_isTune_195 ml_L_74 cd_X9_distance mk0 rfl rfl rfl (rmk_r (by decide) (by decide) (by omega) (by omega)) rfl rfl ?_
                    refine z_aload_n (i := 1) dL_isTune_198 rfl rfl ?_
                    refine z_iload_n (i := 2) dL_isTune_199 rfl rfl ?_
                    refine z_iload (i := 8) dL_isTune_200 rfl ?_
                    refine z_iload (i := 10) dL_isTune_202 rfl ?_
                    obtain ⟨q300, hq301, h⟩ := bnd h
                    refine z_fVi (sX10_distance q298.2 k c2 c8 v10 owk hq301) dL_isTune_204 ml_L_78 cd_X10_distance owk.1 rfl rfl rfl (rmk_r (by decide) (by decide) (by omega) (by omega)) rfl rfl ?_
                    refine z_icmp_eq (tgt := 212) dL_isTune_207 rfl (fun hc302 => ?_) (fun hc302 => ?_)
                    · have h := it_t h hc302
                      refine z_iinc (i := 10) (v := (v10 + (1 : Int32))) dL_isTune_212 rfl (iinc_k kc_1) (Nat.le_of_ble_eq_true rfl) rfl ?_
                      refine z_goto (tgt := 45) dL_isTune_215 rfl ?_
                      refine z_fgt (i := 11) ?_
                      exact ih _ _ _ _ _ _ (by omega) (by omega) h hK
                    · have h := it_f h hc302
                      refine z_iconst (v := (0 : Int32)) dL_isTune_210 kc_0 ?_
                      cases h
                      refine z_sub hw ?_
                      exact z_iret dL_isTune_211 rfl rfl (by omega) (by omega) ⟨rfl, rfl⟩
              · have h := it_f h hc291
                refine z_bipush (v := (35 : Int32)) dL_isTune_159 kb_35 ?_
                refine z_goto (tgt := 166) dL_isTune_161 rfl ?_
                obtain ⟨q303, hq304, h⟩ := bnd h
                refine z_cGV (sJ4_append_cf468 (putI M (26, 0, 0) v10.toNatClampNeg ((M.1 (26, 0, 0) v10.toNatClampNeg) + ((1 : Int32) <<< (c8 &&& 31)))) 0 (35 : Int32) 70 tb0 (by decide) (frS hf rfl) hq304) dL_isTune_166 ml_L_68 cd_J4_append_cf468 tb0.1 rfl rfl rfl (rq_o (by decide) (by decide) (by omega) (by omega)) rfl rfl (qi_N qv rfl) rfl rfl rfl ?_
                refine z_pop dL_isTune_169 rfl ?_
                refine z_aload_n (i := 0) dL_isTune_170 rfl rfl ?_
                refine z_iload_n (i := 2) dL_isTune_171 rfl rfl ?_
                refine z_iload (i := 8) dL_isTune_172 rfl ?_
                refine z_iload (i := 10) dL_isTune_174 rfl ?_
                obtain ⟨q305, hq306, h⟩ := bnd h
                refine z_fVi (sX9_isPin q303 c2 c8 v10 hq306) dL_isTune_176 ml_L_71 cd_X9_isPin mk0 rfl rfl rfl (rmk_r (by decide) (by decide) (by omega) (by omega)) rfl rfl ?_
                refine z_iload (i := 11) dL_isTune_179 rfl ?_
                refine z_icmp_ne (tgt := 210) dL_isTune_181 rfl (fun hc307 => ?_) (fun hc307 => ?_)
                · have h := it_f h hc307
                  refine z_iconst (v := (0 : Int32)) dL_isTune_210 kc_0 ?_
                  cases h
                  refine z_sub hw ?_
                  exact z_iret dL_isTune_211 rfl rfl (by omega) (by omega) ⟨rfl, rfl⟩
                · have h := it_t h hc307
                  refine z_iload (i := 11) dL_isTune_184 rfl ?_
                  refine z_if_eq (tgt := 212) dL_isTune_186 rfl (fun hc308 => ?_) (fun hc308 => ?_)
                  · have h := it_t h hc308
                    refine z_iinc (i := 10) (v := (v10 + (1 : Int32))) dL_isTune_212 rfl (iinc_k kc_1) (Nat.le_of_ble_eq_true rfl) rfl ?_
                    refine z_goto (tgt := 45) dL_isTune_215 rfl ?_
                    refine z_fgt (i := 11) ?_
                    exact ih _ _ _ _ _ _ (by omega) (by omega) h hK
                  · have h := it_f h hc308
                    refine z_aload_n (i := 0) dL_isTune_189 rfl rfl ?_
                    refine z_iload_n (i := 2) dL_isTune_190 rfl rfl ?_
                    refine z_iload (i := 8) dL_isTune_191 rfl ?_
                    refine z_iload (i := 10) dL_isTune_193 rfl ?_
                    obtain ⟨q309, hq310, h⟩ := bnd h
                    refine z_fVi (sX9_distance q305.2 c2 c8 v10 hq310) dL_isTune_195 ml_L_74 cd_X9_distance mk0 rfl rfl rfl (rmk_r (by decide) (by decide) (by omega) (by omega)) rfl rfl ?_
                    refine z_aload_n (i := 1) dL_isTune_198 rfl rfl ?_
                    refine z_iload_n (i := 2) dL_isTune_199 rfl rfl ?_
                    refine z_iload (i := 8) dL_isTune_200 rfl ?_
                    refine z_iload (i := 10) dL_isTune_202 rfl ?_
                    obtain ⟨q311, hq312, h⟩ := bnd h
                    refine z_fVi (sX10_distance q309.2 k c2 c8 v10 owk hq312) dL_isTune_204 ml_L_78 cd_X10_distance owk.1 rfl rfl rfl (rmk_r (by decide) (by decide) (by omega) (by omega)) rfl rfl ?_
                    refine z_icmp_eq (tgt := 212) dL_isTune_207 rfl (fun hc313 => ?_) (fun hc313 => ?_)
                    · have h := it_t h hc313
                      refine z_iinc (i := 10) (v := (v10 + (1 : Int32))) dL_isTune_212 rfl (iinc_k kc_1) (Nat.le_of_ble_eq_true rfl) rfl ?_
                      refine z_goto (tgt := 45) dL_isTune_215 rfl ?_
                      refine z_fgt (i := 11) ?_
                      exact ih _ _ _ _ _ _ (by omega) (by omega) h hK
                    · have h := it_f h hc313
                      refine z_iconst (v := (0 : Int32)) dL_isTune_210 kc_0 ?_
                      cases h
                      refine z_sub hw ?_
                      exact z_iret dL_isTune_211 rfl rfl (by omega) (by omega) ⟨rfl, rfl⟩
            · have h := it_f h hc290
              refine z_bipush (v := (33 : Int32)) dL_isTune_149 kb_33 ?_
              refine z_goto (tgt := 166) dL_isTune_151 rfl ?_
              obtain ⟨q314, hq315, h⟩ := bnd h
              refine z_cGV (sJ4_append_cf468 (putI M (26, 0, 0) v10.toNatClampNeg ((M.1 (26, 0, 0) v10.toNatClampNeg) + ((1 : Int32) <<< (c8 &&& 31)))) 0 (33 : Int32) 70 tb0 (by decide) (frS hf rfl) hq315) dL_isTune_166 ml_L_68 cd_J4_append_cf468 tb0.1 rfl rfl rfl (rq_o (by decide) (by decide) (by omega) (by omega)) rfl rfl (qi_N qv rfl) rfl rfl rfl ?_
              refine z_pop dL_isTune_169 rfl ?_
              refine z_aload_n (i := 0) dL_isTune_170 rfl rfl ?_
              refine z_iload_n (i := 2) dL_isTune_171 rfl rfl ?_
              refine z_iload (i := 8) dL_isTune_172 rfl ?_
              refine z_iload (i := 10) dL_isTune_174 rfl ?_
              obtain ⟨q316, hq317, h⟩ := bnd h
              refine z_fVi (sX9_isPin q314 c2 c8 v10 hq317) dL_isTune_176 ml_L_71 cd_X9_isPin mk0 rfl rfl rfl (rmk_r (by decide) (by decide) (by omega) (by omega)) rfl rfl ?_
              refine z_iload (i := 11) dL_isTune_179 rfl ?_
              refine z_icmp_ne (tgt := 210) dL_isTune_181 rfl (fun hc318 => ?_) (fun hc318 => ?_)
              · have h := it_f h hc318
                refine z_iconst (v := (0 : Int32)) dL_isTune_210 kc_0 ?_
                cases h
                refine z_sub hw ?_
                exact z_iret dL_isTune_211 rfl rfl (by omega) (by omega) ⟨rfl, rfl⟩
              · have h := it_t h hc318
                refine z_iload (i := 11) dL_isTune_184 rfl ?_
                refine z_if_eq (tgt := 212) dL_isTune_186 rfl (fun hc319 => ?_) (fun hc319 => ?_)
                · have h := it_t h hc319
                  refine z_iinc (i := 10) (v := (v10 + (1 : Int32))) dL_isTune_212 rfl (iinc_k kc_1) (Nat.le_of_ble_eq_true rfl) rfl ?_
                  refine z_goto (tgt := 45) dL_isTune_215 rfl ?_
                  refine z_fgt (i := 11) ?_
                  exact ih _ _ _ _ _ _ (by omega) (by omega) h hK
                · have h := it_f h hc319
                  refine z_aload_n (i := 0) dL_isTune_189 rfl rfl ?_
                  refine z_iload_n (i := 2) dL_isTune_190 rfl rfl ?_
                  refine z_iload (i := 8) dL_isTune_191 rfl ?_
                  refine z_iload (i := 10) dL_isTune_193 rfl ?_
                  obtain ⟨q320, hq321, h⟩ := bnd h
                  refine z_fVi (sX9_distance q316.2 c2 c8 v10 hq321) dL_isTune_195 ml_L_74 cd_X9_distance mk0 rfl rfl rfl (rmk_r (by decide) (by decide) (by omega) (by omega)) rfl rfl ?_
                  refine z_aload_n (i := 1) dL_isTune_198 rfl rfl ?_
                  refine z_iload_n (i := 2) dL_isTune_199 rfl rfl ?_
                  refine z_iload (i := 8) dL_isTune_200 rfl ?_
                  refine z_iload (i := 10) dL_isTune_202 rfl ?_
                  obtain ⟨q322, hq323, h⟩ := bnd h
                  refine z_fVi (sX10_distance q320.2 k c2 c8 v10 owk hq323) dL_isTune_204 ml_L_78 cd_X10_distance owk.1 rfl rfl rfl (rmk_r (by decide) (by decide) (by omega) (by omega)) rfl rfl ?_
                  refine z_icmp_eq (tgt := 212) dL_isTune_207 rfl (fun hc324 => ?_) (fun hc324 => ?_)
                  · have h := it_t h hc324
                    refine z_iinc (i := 10) (v := (v10 + (1 : Int32))) dL_isTune_212 rfl (iinc_k kc_1) (Nat.le_of_ble_eq_true rfl) rfl ?_
                    refine z_goto (tgt := 45) dL_isTune_215 rfl ?_
                    refine z_fgt (i := 11) ?_
                    exact ih _ _ _ _ _ _ (by omega) (by omega) h hK
                  · have h := it_f h hc324
                    refine z_iconst (v := (0 : Int32)) dL_isTune_210 kc_0 ?_
                    cases h
                    refine z_sub hw ?_
                    exact z_iret dL_isTune_211 rfl rfl (by omega) (by omega) ⟨rfl, rfl⟩
set_option maxRecDepth 20000 in
set_option maxHeartbeats 4000000 in
theorem sL_isTune_L24 {w0 wv : Wv} (k : Nat) (c2 : Int32) (c5 : Int32) (c6 : Int32) (hw : SubW w0 wv) (owk : OwI wv k) (ch0 : (26, 0, 0) ∈ allR wv) (hf : FrI wv [(24, 0, 0), (25, 0, 0), (27, 0, 0), (28, 0, 0), (29, 0, 0)]) (hV : NoV w0 0) {res : (Int32 × Mm)} {K : Int32 → Int32 → Int32 → Mm → Option (Int32 × Mm)} {CB SB : Nat} (hcb : CB ≤ 898) (hsb : SB ≤ 60436) : ∀ (n : Nat) (v3 : Int32) (v4 : Int32) (v8 : Int32) (M : Mm) (c s : Nat), c + n * 69 ≤ CB → s + n * 4644 ≤ SB → fL_isTune_L24 k c2 c5 c6 K n v3 v4 v8 M = some res →
    (∀ (v3 : Int32) (v4 : Int32) (v8 : Int32) (M : Mm) (c s : Nat), c ≤ CB → s ≤ SB → K v3 v4 v8 M = some res → Z RL cL_isTune 12 (some .boolean) [] "isTune" (rmD 12 898 60436) (QM SH (allR w0) 898 60436 (fun v M9 => v = some (.int res.1) ∧ M9 = res.2) (fun _ _ => False)) (allR wv) SH c s 245 [some (.inr (0, 0, 0)), some (.inr (18, k, 0)), some (.inl (.int c2)), some (.inl (.int v3)), some (.inl (.int v4)), some (.inl (.int c5)), some (.inl (.int c6)), some (.inr (26, 0, 0)), some (.inl (.int v8)), none, none, none] [] M) → Z RL cL_isTune 12 (some .boolean) [] "isTune" (rmD 12 898 60436) (QM SH (allR w0) 898 60436 (fun v M9 => v = some (.int res.1) ∧ M9 = res.2) (fun _ _ => False)) (allR wv) SH c s 24 [some (.inr (0, 0, 0)), some (.inr (18, k, 0)), some (.inl (.int c2)), some (.inl (.int v3)), some (.inl (.int v4)), some (.inl (.int c5)), some (.inl (.int c6)), some (.inr (26, 0, 0)), some (.inl (.int v8)), none, none, none] [] M := by
  intro n
  induction n with
  | zero => intro v3 v4 v8 M c s _ _ h; cases h
  | succ n ih =>
    intro v3 v4 v8 M c s hc hs h hK
    have qv := qm_N (mc := 898) (ms := 60436) (sh := SH) (PR := fun v M9 => v = some (.int res.1) ∧ M9 = res.2) (PX := fun _ _ => False) hV
    rw [fL_isTune_L24] at h
    refine z_iload (i := 8) dL_isTune_24 rfl ?_
    refine z_aload_n (i := 1) dL_isTune_26 rfl rfl ?_
    refine z_getIG (x := (M.1 (18, k, 0) 3)) dL_isTune_27 fg_L_44 owk.1 rfl rfl ?_
    refine z_icmp_ge (tgt := 245) dL_isTune_30 rfl (fun hc3 => ?_) (fun hc3 => ?_)
    · have h := it_t h hc3
      exact hK _ _ _ _ _ _ (by omega) (by omega) h
    · have h := it_f h hc3
      refine z_nSB (z := 0) dL_isTune_33 dL_isTune_36 dL_isTune_37 nw_L_48 li_L_50 rfl (frS hf rfl) qv rfl rfl rfl (rq_o (by decide) (by decide) (by omega) (by omega)) ?_
      refine z_astore (i := 9) dL_isTune_40 (Nat.le_of_ble_eq_true rfl) rfl ?_
      refine z_iconst (v := (0 : Int32)) dL_isTune_42 kc_0 ?_
      refine z_istore (i := 10) dL_isTune_43 (Nat.le_of_ble_eq_true rfl) rfl ?_
      refine sL_isTune_L45 k c2 c5 c6 v8 (swU hw) (owU owk) (alU ch0) tb0 (frU (frS hf rfl) rfl) hV (CB := c + 67) (SB := s + 4570) (by omega) (by omega) 65 _ _ _ _ _ _ (by omega) (by omega) h (fun w325 w326 w327 M328 c8 s8 hc8 hs8 h => z_wid hc8 hs8 ?_)
      refine z_aload_n (i := 0) dL_isTune_218 rfl rfl ?_
      refine z_aload_n (i := 0) dL_isTune_219 rfl rfl ?_
      refine z_iload_n (i := 2) dL_isTune_220 rfl rfl ?_
      refine z_iload (i := 8) dL_isTune_221 rfl ?_
      obtain ⟨q329, hq330, h⟩ := bnd h
      refine z_fVi (sX9_writePins M328 c2 v8 hq330) dL_isTune_223 ml_L_79 cd_X9_writePins mk0 rfl rfl rfl (rmk_r (by decide) (by decide) (by omega) (by omega)) rfl rfl ?_
      refine z_aload (i := 9) dL_isTune_226 rfl ?_
      obtain ⟨q331, hq332, h⟩ := bnd h
      refine z_cGV (sJ4_toString q329.2 0 0 70 tb0 (by decide) (nd_st (frU (frS hf rfl) rfl)) hq332) dL_isTune_228 ml_L_83 cd_J4_toString_0e30d tb0.1 rfl rfl rfl (rq_o (by decide) (by decide) (by omega) (by omega)) rfl rfl (qi_N qv rfl) rfl rfl rfl ?_
      obtain ⟨q333, hq334, h⟩ := bnd h
      refine z_gSi (sL_isOutput  q331 q329.1 0 st0 hq334) dL_isTune_231 ml_L_87 cd_L_isOutput rfl rfl (rq_o (by decide) (by decide) (by omega) (by omega)) rfl rfl ?_
      refine z_if_ne (tgt := 239) dL_isTune_234 rfl (fun hc335 => ?_) (fun hc335 => ?_)
      · have h := it_f h hc335
        refine z_iinc (i := 8) (v := (v8 + (1 : Int32))) dL_isTune_239 rfl (iinc_k kc_1) (Nat.le_of_ble_eq_true rfl) rfl ?_
        refine z_goto (tgt := 24) dL_isTune_242 rfl ?_
        refine z_fgt (i := 9) ?_
        refine z_fgt (i := 10) ?_
        refine z_sub (swU swA) ?_
        exact ih _ _ _ _ _ _ (by omega) (by omega) h hK
      · have h := it_t h hc335
        refine z_iconst (v := (0 : Int32)) dL_isTune_237 kc_0 ?_
        cases h
        refine z_sub (swU (swU hw)) ?_
        exact z_iret dL_isTune_238 rfl rfl (by omega) (by omega) ⟨rfl, rfl⟩
set_option maxRecDepth 20000 in
set_option maxHeartbeats 4000000 in
theorem sL_isTune_L260 {w0 wv : Wv} (k : Nat) (c2 : Int32) (c3 : Int32) (c4 : Int32) (c5 : Int32) (c6 : Int32) (c8 : Int32) (hw : SubW w0 wv) (owk : OwI wv k) (ch0 : (26, 0, 0) ∈ allR wv) (hf : FrI wv [(24, 0, 0), (25, 0, 0), (27, 0, 0), (28, 0, 0), (29, 0, 0)]) (hV : NoV w0 0) {res : (Int32 × Mm)} {K : Int32 → Mm → Option (Int32 × Mm)} {CB SB : Nat} (hcb : CB ≤ 898) (hsb : SB ≤ 60436) : ∀ (n : Nat) (v9 : Int32) (M : Mm) (c s : Nat), c + n * 0 ≤ CB → s + n * 0 ≤ SB → fL_isTune_L260 k c2 c3 c4 c5 c6 c8 K n v9 M = some res →
    (∀ (v9 : Int32) (M : Mm) (c s : Nat), c ≤ CB → s ≤ SB → K v9 M = some res → Z RL cL_isTune 12 (some .boolean) [] "isTune" (rmD 12 898 60436) (QM SH (allR w0) 898 60436 (fun v M9 => v = some (.int res.1) ∧ M9 = res.2) (fun _ _ => False)) (allR wv) SH c s 291 [some (.inr (0, 0, 0)), some (.inr (18, k, 0)), some (.inl (.int c2)), some (.inl (.int c3)), some (.inl (.int c4)), some (.inl (.int c5)), some (.inl (.int c6)), some (.inr (26, 0, 0)), some (.inl (.int c8)), some (.inl (.int v9)), none, none] [] M) → Z RL cL_isTune 12 (some .boolean) [] "isTune" (rmD 12 898 60436) (QM SH (allR w0) 898 60436 (fun v M9 => v = some (.int res.1) ∧ M9 = res.2) (fun _ _ => False)) (allR wv) SH c s 260 [some (.inr (0, 0, 0)), some (.inr (18, k, 0)), some (.inl (.int c2)), some (.inl (.int c3)), some (.inl (.int c4)), some (.inl (.int c5)), some (.inl (.int c6)), some (.inr (26, 0, 0)), some (.inl (.int c8)), some (.inl (.int v9)), none, none] [] M := by
  intro n
  induction n with
  | zero => intro v9 M c s _ _ h; cases h
  | succ n ih =>
    intro v9 M c s hc hs h hK
    have qv := qm_N (mc := 898) (ms := 60436) (sh := SH) (PR := fun v M9 => v = some (.int res.1) ∧ M9 = res.2) (PX := fun _ _ => False) hV
    rw [fL_isTune_L260] at h
    refine z_iload (i := 9) dL_isTune_260 rfl ?_
    refine z_aload_n (i := 1) dL_isTune_262 rfl rfl ?_
    refine z_getIG (x := (M.1 (18, k, 0) 0)) dL_isTune_263 fg_L_51 owk.1 rfl rfl ?_
    refine z_icmp_ge (tgt := 291) dL_isTune_266 rfl (fun hc341 => ?_) (fun hc341 => ?_)
    · have h := it_t h hc341
      exact hK _ _ _ _ (by omega) (by omega) h
    · have h := it_f h hc341
      refine z_aload (i := 7) dL_isTune_269 rfl ?_
      refine z_iload (i := 8) dL_isTune_271 rfl ?_
      refine z_iload (i := 9) dL_isTune_273 rfl ?_
      refine z_iadd dL_isTune_275 ?_
      refine z_aload_n (i := 1) dL_isTune_276 rfl rfl ?_
      refine z_getIG (x := (M.1 (18, k, 0) 0)) dL_isTune_277 fg_L_51 owk.1 rfl rfl ?_
      obtain ⟨hc342, h⟩ := chk h
      refine z_irem dL_isTune_280 hc342 ?_
      obtain ⟨hc343, h⟩ := chk h
      refine z_iald (x := (M.1 (26, 0, 0) ((c8 + v9) - (c8 + v9) / (M.1 (18, k, 0) 0) * (M.1 (18, k, 0) 0)).toNatClampNeg)) dL_isTune_281 ch0 rfl hc343 rfl ?_
      refine z_if_ne (tgt := 291) dL_isTune_282 rfl (fun hc344 => ?_) (fun hc344 => ?_)
      · have h := it_f h hc344
        exact hK _ _ _ _ (by omega) (by omega) h
      · have h := it_t h hc344
        refine z_iinc (i := 9) (v := (v9 + (1 : Int32))) dL_isTune_285 rfl (iinc_k kc_1) (Nat.le_of_ble_eq_true rfl) rfl ?_
        refine z_goto (tgt := 260) dL_isTune_288 rfl ?_
        exact ih _ _ _ _ (by omega) (by omega) h hK
set_option maxRecDepth 20000 in
set_option maxHeartbeats 4000000 in
theorem sL_isTune_L248 {w0 wv : Wv} (k : Nat) (c2 : Int32) (c3 : Int32) (c4 : Int32) (c6 : Int32) (hw : SubW w0 wv) (owk : OwI wv k) (ch0 : (26, 0, 0) ∈ allR wv) (hf : FrI wv [(24, 0, 0), (25, 0, 0), (27, 0, 0), (28, 0, 0), (29, 0, 0)]) (hV : NoV w0 0) {res : (Int32 × Mm)} {K : Int32 → Int32 → Mm → Option (Int32 × Mm)} {CB SB : Nat} (hcb : CB ≤ 898) (hsb : SB ≤ 60436) : ∀ (n : Nat) (v5 : Int32) (v8 : Int32) (M : Mm) (c s : Nat), c + n * 0 ≤ CB → s + n * 0 ≤ SB → fL_isTune_L248 k c2 c3 c4 c6 K n v5 v8 M = some res →
    (∀ (v5 : Int32) (v8 : Int32) (M : Mm) (c s : Nat), c ≤ CB → s ≤ SB → K v5 v8 M = some res → Z RL cL_isTune 12 (some .boolean) [] "isTune" (rmD 12 898 60436) (QM SH (allR w0) 898 60436 (fun v M9 => v = some (.int res.1) ∧ M9 = res.2) (fun _ _ => False)) (allR wv) SH c s 323 [some (.inr (0, 0, 0)), some (.inr (18, k, 0)), some (.inl (.int c2)), some (.inl (.int c3)), some (.inl (.int c4)), some (.inl (.int v5)), some (.inl (.int c6)), some (.inr (26, 0, 0)), some (.inl (.int v8)), none, none, none] [] M) → Z RL cL_isTune 12 (some .boolean) [] "isTune" (rmD 12 898 60436) (QM SH (allR w0) 898 60436 (fun v M9 => v = some (.int res.1) ∧ M9 = res.2) (fun _ _ => False)) (allR wv) SH c s 248 [some (.inr (0, 0, 0)), some (.inr (18, k, 0)), some (.inl (.int c2)), some (.inl (.int c3)), some (.inl (.int c4)), some (.inl (.int v5)), some (.inl (.int c6)), some (.inr (26, 0, 0)), some (.inl (.int v8)), none, none, none] [] M := by
  intro n
  induction n with
  | zero => intro v5 v8 M c s _ _ h; cases h
  | succ n ih =>
    intro v5 v8 M c s hc hs h hK
    have qv := qm_N (mc := 898) (ms := 60436) (sh := SH) (PR := fun v M9 => v = some (.int res.1) ∧ M9 = res.2) (PX := fun _ _ => False) hV
    rw [fL_isTune_L248] at h
    refine z_iload (i := 8) dL_isTune_248 rfl ?_
    refine z_aload_n (i := 1) dL_isTune_250 rfl rfl ?_
    refine z_getIG (x := (M.1 (18, k, 0) 0)) dL_isTune_251 fg_L_51 owk.1 rfl rfl ?_
    refine z_icmp_ge (tgt := 323) dL_isTune_254 rfl (fun hc340 => ?_) (fun hc340 => ?_)
    · have h := it_t h hc340
      exact hK _ _ _ _ _ (by omega) (by omega) h
    · have h := it_f h hc340
      refine z_iconst (v := (0 : Int32)) dL_isTune_257 kc_0 ?_
      refine z_istore (i := 9) dL_isTune_258 (Nat.le_of_ble_eq_true rfl) rfl ?_
      refine sL_isTune_L260 k c2 c3 c4 v5 c6 v8 hw owk ch0 (frS hf rfl) hV (CB := c + 0) (SB := s + 0) (by omega) (by omega) NF _ _ _ _ (by simp only [Nat.mul_zero]; omega) (by simp only [Nat.mul_zero]; omega) h (fun w345 M346 c8 s8 hc8 hs8 h => z_wid hc8 hs8 ?_)
      refine z_iload (i := 5) dL_isTune_291 rfl ?_
      refine z_iload (i := 9) dL_isTune_293 rfl ?_
      refine z_fSi (sJ9_max_7cf53 M346 v5 w345) dL_isTune_295 ml_L_91 cd_J9_max_7cf53 rfl rfl (rmk_r (by decide) (by decide) (by omega) (by omega)) rfl rfl ?_
      refine z_istore (i := 5) dL_isTune_298 (Nat.le_of_ble_eq_true rfl) rfl ?_
      refine z_aload_n (i := 0) dL_isTune_300 rfl rfl ?_
      refine z_iload_n (i := 2) dL_isTune_301 rfl rfl ?_
      refine z_iload (i := 8) dL_isTune_302 rfl ?_
      obtain ⟨q347, hq348, h⟩ := bnd h
      refine z_fVi (sX9_chord M346 c2 v8 hq348) dL_isTune_304 ml_L_96 cd_X9_chord mk0 rfl rfl rfl (rmk_r (by decide) (by decide) (by omega) (by omega)) rfl rfl ?_
      refine z_aload (i := 7) dL_isTune_307 rfl ?_
      refine z_iload (i := 8) dL_isTune_309 rfl ?_
      obtain ⟨hc349, h⟩ := chk h
      refine z_iald (x := (q347.2.1 (26, 0, 0) v8.toNatClampNeg)) dL_isTune_311 ch0 rfl hc349 rfl ?_
      refine z_icmp_eq (tgt := 317) dL_isTune_312 rfl (fun hc350 => ?_) (fun hc350 => ?_)
      · have h := it_t h hc350
        refine z_iinc (i := 8) (v := (v8 + (1 : Int32))) dL_isTune_317 rfl (iinc_k kc_1) (Nat.le_of_ble_eq_true rfl) rfl ?_
        refine z_goto (tgt := 248) dL_isTune_320 rfl ?_
        refine z_fgt (i := 9) ?_
        exact ih _ _ _ _ _ (by omega) (by omega) h hK
      · have h := it_f h hc350
        refine z_iconst (v := (0 : Int32)) dL_isTune_315 kc_0 ?_
        cases h
        refine z_sub hw ?_
        exact z_iret dL_isTune_316 rfl rfl (by omega) (by omega) ⟨rfl, rfl⟩
set_option maxRecDepth 20000 in
set_option maxHeartbeats 4000000 in
theorem sL_isTune {wv : Wv} (M : Mm) (k : Nat) (x3 : Int32) (hk : OwI wv k) (hV : NoV wv 0) {res : (Int32 × Mm)} (h : fL_isTune M k x3 = some res) : TC wv yL_isTune cL_isTune 12 (some .boolean) 12 898 60436 [.inr (0, 0, 0), .inr (18, k, 0), .inl (.int x3)] M (some (.int res.1)) res.2 := by
  have qv := qm_N (mc := 898) (ms := 60436) (sh := SH) (PR := fun v M9 => v = some (.int res.1) ∧ M9 = res.2) (PX := fun _ _ => False) hV
  rw [fL_isTune] at h
  refine TC.go (n := 9) (ls := [some (.inr (0, 0, 0)), some (.inr (18, k, 0)), some (.inl (.int x3)), none, none, none, none, none, none, none, none, none]) (by decide +kernel) rfl rfl rfl rfl ?_
  refine z_iconst (v := (0 : Int32)) dL_isTune_0 kc_0 ?_
  refine z_istore_n (i := 3) dL_isTune_1 rfl (Nat.le_of_ble_eq_true rfl) rfl ?_
  refine z_iconst (v := (0 : Int32)) dL_isTune_2 kc_0 ?_
  refine z_istore (i := 4) dL_isTune_3 (Nat.le_of_ble_eq_true rfl) rfl ?_
  refine z_iconst (v := (0 : Int32)) dL_isTune_5 kc_0 ?_
  refine z_istore (i := 5) dL_isTune_6 (Nat.le_of_ble_eq_true rfl) rfl ?_
  refine z_aload_n (i := 1) dL_isTune_8 rfl rfl ?_
  refine z_iload_n (i := 2) dL_isTune_9 rfl rfl ?_
  obtain ⟨q1, hq2, h⟩ := bnd h
  refine z_fVi (sX10_pinsOf M k x3 hk hq2) dL_isTune_10 ml_L_39 cd_X10_pinsOf hk.1 rfl rfl rfl (rmk_r (by decide) (by decide) (by omega) (by omega)) rfl rfl ?_
  refine z_istore (i := 6) dL_isTune_13 (Nat.le_of_ble_eq_true rfl) rfl ?_
  refine z_bipush (v := (64 : Int32)) dL_isTune_15 kb_64 ?_
  refine z_n64 (nd_26 (fr_of hV rfl)) (fr_of hV rfl) dL_isTune_17 (qi_N qv rfl) rfl rfl (by show _ ≤ 898; omega) (by show _ ≤ 60436; omega) ?_
  refine z_astore (i := 7) dL_isTune_19 (Nat.le_of_ble_eq_true rfl) rfl ?_
  refine z_iconst (v := (0 : Int32)) dL_isTune_21 kc_0 ?_
  refine z_istore (i := 8) dL_isTune_22 (Nat.le_of_ble_eq_true rfl) rfl ?_
  refine sL_isTune_L24 k x3 (0 : Int32) q1 (swA) (owU hk) al0 (frU (fr_of hV rfl) rfl) hV (CB := 0 + 898) (SB := 0 + 60436) (by omega) (by omega) 13 _ _ _ _ _ _ (by omega) (by omega) h (fun w336 w337 w338 M339 c8 s8 hc8 hs8 h => z_wid hc8 hs8 ?_)
  refine z_iconst (v := (0 : Int32)) dL_isTune_245 kc_0 ?_
  refine z_istore (i := 8) dL_isTune_246 (Nat.le_of_ble_eq_true rfl) rfl ?_
  refine sL_isTune_L248 k x3 w336 w337 q1 (swA) (owU hk) al0 (frU (fr_of hV rfl) rfl) hV (CB := 0 + 898) (SB := 0 + 60436) (by omega) (by omega) NF _ _ _ _ _ (by simp only [Nat.mul_zero]; omega) (by simp only [Nat.mul_zero]; omega) h (fun w351 w352 M353 c8 s8 hc8 hs8 h => z_wid hc8 hs8 ?_)
  refine z_aload_n (i := 0) dL_isTune_323 rfl rfl ?_
  refine z_iload_n (i := 2) dL_isTune_324 rfl rfl ?_
  obtain ⟨q354, hq355, h⟩ := bnd h
  refine z_fVi (sX9_pinCount M353 x3 hq355) dL_isTune_325 ml_L_99 cd_X9_pinCount mk0 rfl rfl rfl (rmk_r (by decide) (by decide) (by omega) (by omega)) rfl rfl ?_
  refine z_iload (i := 6) dL_isTune_328 rfl ?_
  refine z_icmp_ne (tgt := 381) dL_isTune_330 rfl (fun hc356 => ?_) (fun hc356 => ?_)
  · have h := it_f h hc356
    refine z_iconst (v := (0 : Int32)) dL_isTune_381 kc_0 ?_
    refine z_istore (i := 8) dL_isTune_382 (Nat.le_of_ble_eq_true rfl) rfl ?_
    refine z_iload (i := 8) dL_isTune_384 rfl ?_
    refine z_if_eq (tgt := 421) dL_isTune_386 rfl (fun hc357 => ?_) (fun hc357 => absurd hc357 (by decide))
    refine z_iconst (v := (0 : Int32)) dL_isTune_421 kc_0 ?_
    cases h
    refine z_sub swA ?_
    exact z_iret dL_isTune_422 rfl rfl (by omega) (by omega) ⟨rfl, rfl⟩
  · have h := it_t h hc356
    refine z_aload_n (i := 0) dL_isTune_333 rfl rfl ?_
    refine z_iload_n (i := 2) dL_isTune_334 rfl rfl ?_
    obtain ⟨q358, hq359, h⟩ := bnd h
    refine z_fVi (sX9_closePins q354.2 x3 hq359) dL_isTune_335 ml_L_102 cd_X9_closePins mk0 rfl rfl rfl (rmk_r (by decide) (by decide) (by omega) (by omega)) rfl rfl ?_
    refine z_iload_n (i := 3) dL_isTune_338 rfl rfl ?_
    refine z_icmp_ne (tgt := 381) dL_isTune_339 rfl (fun hc360 => ?_) (fun hc360 => ?_)
    · have h := it_f h hc360
      refine z_iconst (v := (0 : Int32)) dL_isTune_381 kc_0 ?_
      refine z_istore (i := 8) dL_isTune_382 (Nat.le_of_ble_eq_true rfl) rfl ?_
      refine z_iload (i := 8) dL_isTune_384 rfl ?_
      refine z_if_eq (tgt := 421) dL_isTune_386 rfl (fun hc361 => ?_) (fun hc361 => absurd hc361 (by decide))
      refine z_iconst (v := (0 : Int32)) dL_isTune_421 kc_0 ?_
      cases h
      refine z_sub swA ?_
      exact z_iret dL_isTune_422 rfl rfl (by omega) (by omega) ⟨rfl, rfl⟩
    · have h := it_t h hc360
      refine z_aload_n (i := 0) dL_isTune_342 rfl rfl ?_
      refine z_iload_n (i := 2) dL_isTune_343 rfl rfl ?_
      obtain ⟨q362, hq363, h⟩ := bnd h
      refine z_fVi (sX9_longestRest q358.2 x3 hq363) dL_isTune_344 ml_L_105 cd_X9_longestRest mk0 rfl rfl rfl (rmk_r (by decide) (by decide) (by omega) (by omega)) rfl rfl ?_
      refine z_iload (i := 5) dL_isTune_347 rfl ?_
      refine z_icmp_ne (tgt := 381) dL_isTune_349 rfl (fun hc364 => ?_) (fun hc364 => ?_)
      · have h := it_f h hc364
        refine z_iconst (v := (0 : Int32)) dL_isTune_381 kc_0 ?_
        refine z_istore (i := 8) dL_isTune_382 (Nat.le_of_ble_eq_true rfl) rfl ?_
        refine z_iload (i := 8) dL_isTune_384 rfl ?_
        refine z_if_eq (tgt := 421) dL_isTune_386 rfl (fun hc365 => ?_) (fun hc365 => absurd hc365 (by decide))
        refine z_iconst (v := (0 : Int32)) dL_isTune_421 kc_0 ?_
        cases h
        refine z_sub swA ?_
        exact z_iret dL_isTune_422 rfl rfl (by omega) (by omega) ⟨rfl, rfl⟩
      · have h := it_t h hc364
        refine z_aload_n (i := 0) dL_isTune_352 rfl rfl ?_
        refine z_iload_n (i := 2) dL_isTune_353 rfl rfl ?_
        obtain ⟨q366, hq367, h⟩ := bnd h
        refine z_fVd (sX9_meanPitch q362.2 x3 hq367) dL_isTune_354 ml_L_108 cd_X9_meanPitch mk0 rfl rfl rfl (rmk_r (by decide) (by decide) (by omega) (by omega)) rfl rfl ?_
        refine z_iload (i := 6) dL_isTune_357 rfl ?_
        refine z_if_ne (tgt := 366) dL_isTune_359 rfl (fun hc368 => ?_) (fun hc368 => ?_)
        · have h := it_f h hc368
          refine z_iload (i := 4) dL_isTune_366 rfl ?_
          refine z_i2d dL_isTune_368 ?_
          refine z_iload (i := 6) dL_isTune_369 rfl ?_
          refine z_i2d dL_isTune_371 ?_
          obtain ⟨hc369, h⟩ := chk2 h
          refine z_ddiv dL_isTune_372 hc369 ?_
          refine z_dcmp dL_isTune_373 ?_
          refine z_if_ne (tgt := 381) dL_isTune_374 rfl (fun hc370 => ?_) (fun hc370 => ?_)
          · have h := it_f h hc370
            refine z_iconst (v := (0 : Int32)) dL_isTune_381 kc_0 ?_
            refine z_istore (i := 8) dL_isTune_382 (Nat.le_of_ble_eq_true rfl) rfl ?_
            refine z_iload (i := 8) dL_isTune_384 rfl ?_
            refine z_if_eq (tgt := 421) dL_isTune_386 rfl (fun hc371 => ?_) (fun hc371 => absurd hc371 (by decide))
            refine z_iconst (v := (0 : Int32)) dL_isTune_421 kc_0 ?_
            cases h
            refine z_sub swA ?_
            exact z_iret dL_isTune_422 rfl rfl (by omega) (by omega) ⟨rfl, rfl⟩
          · have h := it_t h hc370
            refine z_iconst (v := (1 : Int32)) dL_isTune_377 kc_1 ?_
            refine z_goto (tgt := 382) dL_isTune_378 rfl ?_
            refine z_istore (i := 8) dL_isTune_382 (Nat.le_of_ble_eq_true rfl) rfl ?_
            refine z_iload (i := 8) dL_isTune_384 rfl ?_
            refine z_if_eq (tgt := 421) dL_isTune_386 rfl (fun hc372 => absurd hc372 (by decide)) (fun hc372 => ?_)
            refine z_aload_n (i := 0) dL_isTune_389 rfl rfl ?_
            refine z_iload_n (i := 2) dL_isTune_390 rfl rfl ?_
            obtain ⟨q373, hq374, h⟩ := bnd h
            refine z_fVf (sX9_density q366.2 x3 hq374) dL_isTune_391 ml_L_112 cd_X9_density mk0 rfl rfl rfl (rmk_r (by decide) (by decide) (by omega) (by omega)) rfl rfl ?_
            refine z_fSi (S_fbits q373.2 q373.1) dL_isTune_394 ml_L_116 cd_Jxf58ca_floatToIntBits_5c35a rfl rfl (rmk_r (by decide) (by decide) (by omega) (by omega)) rfl rfl ?_
            refine z_iload (i := 6) dL_isTune_397 rfl ?_
            refine z_i2f dL_isTune_399 ?_
            refine z_aload_n (i := 1) dL_isTune_400 rfl rfl ?_
            refine z_getIG (x := (q373.2.1 (18, k, 0) 0)) dL_isTune_401 fg_L_51 (owU hk).1 rfl rfl ?_
            refine z_aload_n (i := 1) dL_isTune_404 rfl rfl ?_
            refine z_getIG (x := (q373.2.1 (18, k, 0) 3)) dL_isTune_405 fg_L_44 (owU hk).1 rfl rfl ?_
            refine z_imul dL_isTune_408 ?_
            refine z_i2f dL_isTune_409 ?_
            obtain ⟨hc375, h⟩ := chk2 h
            refine z_fdiv dL_isTune_410 hc375 ?_
            refine z_fSi (S_fbits q373.2 (FP.fdiv (FP.i2f q1) (FP.i2f ((q373.2.1 (18, k, 0) 0) * (q373.2.1 (18, k, 0) 3))))) dL_isTune_411 ml_L_116 cd_Jxf58ca_floatToIntBits_5c35a rfl rfl (rmk_r (by decide) (by decide) (by omega) (by omega)) rfl rfl ?_
            refine z_icmp_ne (tgt := 421) dL_isTune_414 rfl (fun hc376 => ?_) (fun hc376 => ?_)
            · have h := it_f h hc376
              refine z_iconst (v := (0 : Int32)) dL_isTune_421 kc_0 ?_
              cases h
              refine z_sub swA ?_
              exact z_iret dL_isTune_422 rfl rfl (by omega) (by omega) ⟨rfl, rfl⟩
            · have h := it_t h hc376
              refine z_iconst (v := (1 : Int32)) dL_isTune_417 kc_1 ?_
              refine z_goto (tgt := 422) dL_isTune_418 rfl ?_
              cases h
              refine z_sub swA ?_
              exact z_iret dL_isTune_422 rfl rfl (by omega) (by omega) ⟨rfl, rfl⟩
        · have h := it_t h hc368
          refine z_dconst0 dL_isTune_362 ?_
          refine z_goto (tgt := 373) dL_isTune_363 rfl ?_
          refine z_dcmp dL_isTune_373 ?_
          refine z_if_ne (tgt := 381) dL_isTune_374 rfl (fun hc377 => ?_) (fun hc377 => ?_)
          · have h := it_f h hc377
            refine z_iconst (v := (0 : Int32)) dL_isTune_381 kc_0 ?_
            refine z_istore (i := 8) dL_isTune_382 (Nat.le_of_ble_eq_true rfl) rfl ?_
            refine z_iload (i := 8) dL_isTune_384 rfl ?_
            refine z_if_eq (tgt := 421) dL_isTune_386 rfl (fun hc378 => ?_) (fun hc378 => absurd hc378 (by decide))
            refine z_iconst (v := (0 : Int32)) dL_isTune_421 kc_0 ?_
            cases h
            refine z_sub swA ?_
            exact z_iret dL_isTune_422 rfl rfl (by omega) (by omega) ⟨rfl, rfl⟩
          · have h := it_t h hc377
            refine z_iconst (v := (1 : Int32)) dL_isTune_377 kc_1 ?_
            refine z_goto (tgt := 382) dL_isTune_378 rfl ?_
            refine z_istore (i := 8) dL_isTune_382 (Nat.le_of_ble_eq_true rfl) rfl ?_
            refine z_iload (i := 8) dL_isTune_384 rfl ?_
            refine z_if_eq (tgt := 421) dL_isTune_386 rfl (fun hc379 => absurd hc379 (by decide)) (fun hc379 => ?_)
            refine z_aload_n (i := 0) dL_isTune_389 rfl rfl ?_
            refine z_iload_n (i := 2) dL_isTune_390 rfl rfl ?_
            obtain ⟨q380, hq381, h⟩ := bnd h
            refine z_fVf (sX9_density q366.2 x3 hq381) dL_isTune_391 ml_L_112 cd_X9_density mk0 rfl rfl rfl (rmk_r (by decide) (by decide) (by omega) (by omega)) rfl rfl ?_
            refine z_fSi (S_fbits q380.2 q380.1) dL_isTune_394 ml_L_116 cd_Jxf58ca_floatToIntBits_5c35a rfl rfl (rmk_r (by decide) (by decide) (by omega) (by omega)) rfl rfl ?_
            refine z_iload (i := 6) dL_isTune_397 rfl ?_
            refine z_i2f dL_isTune_399 ?_
            refine z_aload_n (i := 1) dL_isTune_400 rfl rfl ?_
            refine z_getIG (x := (q380.2.1 (18, k, 0) 0)) dL_isTune_401 fg_L_51 (owU hk).1 rfl rfl ?_
            refine z_aload_n (i := 1) dL_isTune_404 rfl rfl ?_
            refine z_getIG (x := (q380.2.1 (18, k, 0) 3)) dL_isTune_405 fg_L_44 (owU hk).1 rfl rfl ?_
            refine z_imul dL_isTune_408 ?_
            refine z_i2f dL_isTune_409 ?_
            obtain ⟨hc382, h⟩ := chk2 h
            refine z_fdiv dL_isTune_410 hc382 ?_
            refine z_fSi (S_fbits q380.2 (FP.fdiv (FP.i2f q1) (FP.i2f ((q380.2.1 (18, k, 0) 0) * (q380.2.1 (18, k, 0) 3))))) dL_isTune_411 ml_L_116 cd_Jxf58ca_floatToIntBits_5c35a rfl rfl (rmk_r (by decide) (by decide) (by omega) (by omega)) rfl rfl ?_
            refine z_icmp_ne (tgt := 421) dL_isTune_414 rfl (fun hc383 => ?_) (fun hc383 => ?_)
            · have h := it_f h hc383
              refine z_iconst (v := (0 : Int32)) dL_isTune_421 kc_0 ?_
              cases h
              refine z_sub swA ?_
              exact z_iret dL_isTune_422 rfl rfl (by omega) (by omega) ⟨rfl, rfl⟩
            · have h := it_t h hc383
              refine z_iconst (v := (1 : Int32)) dL_isTune_417 kc_1 ?_
              refine z_goto (tgt := 422) dL_isTune_418 rfl ?_
              cases h
              refine z_sub swA ?_
              exact z_iret dL_isTune_422 rfl rfl (by omega) (by omega) ⟨rfl, rfl⟩
