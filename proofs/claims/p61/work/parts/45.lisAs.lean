theorem dL_isAs_0 : decode cL_isAs 0 = .ok (.new 48, 3) := by decide +kernel
theorem dL_isAs_3 : decode cL_isAs 3 = .ok (.dup, 1) := by decide +kernel
theorem dL_isAs_4 : decode cL_isAs 4 = .ok (.invokespecial 50, 3) := by decide +kernel
theorem dL_isAs_7 : decode cL_isAs 7 = .ok (.astore_n 3, 1) := by decide +kernel
theorem dL_isAs_8 : decode cL_isAs 8 = .ok (.iconst 0, 1) := by decide +kernel
theorem dL_isAs_9 : decode cL_isAs 9 = .ok (.istore 4, 2) := by decide +kernel
theorem dL_isAs_11 : decode cL_isAs 11 = .ok (.bipush 60, 2) := by decide +kernel
theorem dL_isAs_13 : decode cL_isAs 13 = .ok (.iconst 4, 1) := by decide +kernel
theorem dL_isAs_14 : decode cL_isAs 14 = .ok (.aload_n 1, 1) := by decide +kernel
theorem dL_isAs_15 : decode cL_isAs 15 = .ok (.getfield 122, 3) := by decide +kernel
theorem dL_isAs_18 : decode cL_isAs 18 = .ok (.imul, 1) := by decide +kernel
theorem dL_isAs_19 : decode cL_isAs 19 = .ok (.iadd, 1) := by decide +kernel
theorem dL_isAs_20 : decode cL_isAs 20 = .ok (.bipush 100, 2) := by decide +kernel
theorem dL_isAs_22 : decode cL_isAs 22 = .ok (.aload_n 1, 1) := by decide +kernel
theorem dL_isAs_23 : decode cL_isAs 23 = .ok (.getfield 125, 3) := by decide +kernel
theorem dL_isAs_26 : decode cL_isAs 26 = .ok (.isub, 1) := by decide +kernel
theorem dL_isAs_27 : decode cL_isAs 27 = .ok (.imul, 1) := by decide +kernel
theorem dL_isAs_28 : decode cL_isAs 28 = .ok (.bipush 100, 2) := by decide +kernel
theorem dL_isAs_30 : decode cL_isAs 30 = .ok (.idiv, 1) := by decide +kernel
theorem dL_isAs_31 : decode cL_isAs 31 = .ok (.istore 5, 2) := by decide +kernel
theorem dL_isAs_33 : decode cL_isAs 33 = .ok (.iconst 0, 1) := by decide +kernel
theorem dL_isAs_34 : decode cL_isAs 34 = .ok (.istore 6, 2) := by decide +kernel
theorem dL_isAs_36 : decode cL_isAs 36 = .ok (.iload 6, 2) := by decide +kernel
theorem dL_isAs_38 : decode cL_isAs 38 = .ok (.aload_n 1, 1) := by decide +kernel
theorem dL_isAs_39 : decode cL_isAs 39 = .ok (.getfield 44, 3) := by decide +kernel
theorem dL_isAs_42 : decode cL_isAs 42 = .ok (.if_icmp .ge 214, 3) := by decide +kernel
theorem dL_isAs_45 : decode cL_isAs 45 = .ok (.iload 4, 2) := by decide +kernel
theorem dL_isAs_47 : decode cL_isAs 47 = .ok (.aload_n 1, 1) := by decide +kernel
theorem dL_isAs_48 : decode cL_isAs 48 = .ok (.iload 6, 2) := by decide +kernel
theorem dL_isAs_50 : decode cL_isAs 50 = .ok (.invokevirtual 128, 3) := by decide +kernel
theorem dL_isAs_53 : decode cL_isAs 53 = .ok (.ifCond .eq 7, 3) := by decide +kernel
theorem dL_isAs_56 : decode cL_isAs 56 = .ok (.iconst 1, 1) := by decide +kernel
theorem dL_isAs_57 : decode cL_isAs 57 = .ok (.goto 4, 3) := by decide +kernel
theorem dL_isAs_60 : decode cL_isAs 60 = .ok (.iconst 0, 1) := by decide +kernel
theorem dL_isAs_61 : decode cL_isAs 61 = .ok (.iadd, 1) := by decide +kernel
theorem dL_isAs_62 : decode cL_isAs 62 = .ok (.istore 4, 2) := by decide +kernel
theorem dL_isAs_64 : decode cL_isAs 64 = .ok (.aload_n 3, 1) := by decide +kernel
theorem dL_isAs_65 : decode cL_isAs 65 = .ok (.iload 6, 2) := by decide +kernel
theorem dL_isAs_67 : decode cL_isAs 67 = .ok (.ifCond .le 8, 3) := by decide +kernel
theorem dL_isAs_70 : decode cL_isAs 70 = .ok (.ldc 132, 2) := by decide +kernel
theorem dL_isAs_72 : decode cL_isAs 72 = .ok (.goto 5, 3) := by decide +kernel
theorem dL_isAs_75 : decode cL_isAs 75 = .ok (.ldc 134, 2) := by decide +kernel
theorem dL_isAs_77 : decode cL_isAs 77 = .ok (.invokevirtual 136, 3) := by decide +kernel
theorem dL_isAs_80 : decode cL_isAs 80 = .ok (.aload_n 1, 1) := by decide +kernel
theorem dL_isAs_81 : decode cL_isAs 81 = .ok (.iload 6, 2) := by decide +kernel
theorem dL_isAs_83 : decode cL_isAs 83 = .ok (.invokevirtual 128, 3) := by decide +kernel
theorem dL_isAs_86 : decode cL_isAs 86 = .ok (.ifCond .eq 8, 3) := by decide +kernel
theorem dL_isAs_89 : decode cL_isAs 89 = .ok (.ldc 139, 2) := by decide +kernel
theorem dL_isAs_91 : decode cL_isAs 91 = .ok (.goto 36, 3) := by decide +kernel
theorem dL_isAs_94 : decode cL_isAs 94 = .ok (.new 48, 3) := by decide +kernel
theorem dL_isAs_97 : decode cL_isAs 97 = .ok (.dup, 1) := by decide +kernel
theorem dL_isAs_98 : decode cL_isAs 98 = .ok (.invokespecial 50, 3) := by decide +kernel
theorem dL_isAs_101 : decode cL_isAs 101 = .ok (.ldc 134, 2) := by decide +kernel
theorem dL_isAs_103 : decode cL_isAs 103 = .ok (.invokevirtual 136, 3) := by decide +kernel
theorem dL_isAs_106 : decode cL_isAs 106 = .ok (.aload_n 1, 1) := by decide +kernel
theorem dL_isAs_107 : decode cL_isAs 107 = .ok (.getfield 58, 3) := by decide +kernel
theorem dL_isAs_110 : decode cL_isAs 110 = .ok (.iload 6, 2) := by decide +kernel
theorem dL_isAs_112 : decode cL_isAs 112 = .ok (.iaload, 1) := by decide +kernel
theorem dL_isAs_113 : decode cL_isAs 113 = .ok (.aload_n 1, 1) := by decide +kernel
theorem dL_isAs_114 : decode cL_isAs 114 = .ok (.getfield 62, 3) := by decide +kernel
theorem dL_isAs_117 : decode cL_isAs 117 = .ok (.iload 6, 2) := by decide +kernel
theorem dL_isAs_119 : decode cL_isAs 119 = .ok (.iaload, 1) := by decide +kernel
theorem dL_isAs_120 : decode cL_isAs 120 = .ok (.iadd, 1) := by decide +kernel
theorem dL_isAs_121 : decode cL_isAs 121 = .ok (.invokevirtual 141, 3) := by decide +kernel
theorem dL_isAs_124 : decode cL_isAs 124 = .ok (.invokevirtual 83, 3) := by decide +kernel
theorem dL_isAs_127 : decode cL_isAs 127 = .ok (.invokevirtual 136, 3) := by decide +kernel
theorem dL_isAs_130 : decode cL_isAs 130 = .ok (.pop, 1) := by decide +kernel
theorem dL_isAs_131 : decode cL_isAs 131 = .ok (.aload_n 0, 1) := by decide +kernel
theorem dL_isAs_132 : decode cL_isAs 132 = .ok (.iload 6, 2) := by decide +kernel
theorem dL_isAs_134 : decode cL_isAs 134 = .ok (.invokevirtual 144, 3) := by decide +kernel
theorem dL_isAs_137 : decode cL_isAs 137 = .ok (.aload_n 1, 1) := by decide +kernel
theorem dL_isAs_138 : decode cL_isAs 138 = .ok (.getfield 58, 3) := by decide +kernel
theorem dL_isAs_141 : decode cL_isAs 141 = .ok (.iload 6, 2) := by decide +kernel
theorem dL_isAs_143 : decode cL_isAs 143 = .ok (.iaload, 1) := by decide +kernel
theorem dL_isAs_144 : decode cL_isAs 144 = .ok (.aload_n 1, 1) := by decide +kernel
theorem dL_isAs_145 : decode cL_isAs 145 = .ok (.getfield 62, 3) := by decide +kernel
theorem dL_isAs_148 : decode cL_isAs 148 = .ok (.iload 6, 2) := by decide +kernel
theorem dL_isAs_150 : decode cL_isAs 150 = .ok (.iaload, 1) := by decide +kernel
theorem dL_isAs_151 : decode cL_isAs 151 = .ok (.iadd, 1) := by decide +kernel
theorem dL_isAs_152 : decode cL_isAs 152 = .ok (.if_icmp .ne 96, 3) := by decide +kernel
theorem dL_isAs_155 : decode cL_isAs 155 = .ok (.aload_n 0, 1) := by decide +kernel
theorem dL_isAs_156 : decode cL_isAs 156 = .ok (.iload 6, 2) := by decide +kernel
theorem dL_isAs_158 : decode cL_isAs 158 = .ok (.invokevirtual 147, 3) := by decide +kernel
theorem dL_isAs_161 : decode cL_isAs 161 = .ok (.aload_n 1, 1) := by decide +kernel
theorem dL_isAs_162 : decode cL_isAs 162 = .ok (.getfield 62, 3) := by decide +kernel
theorem dL_isAs_165 : decode cL_isAs 165 = .ok (.iload 6, 2) := by decide +kernel
theorem dL_isAs_167 : decode cL_isAs 167 = .ok (.iaload, 1) := by decide +kernel
theorem dL_isAs_168 : decode cL_isAs 168 = .ok (.if_icmp .ne 80, 3) := by decide +kernel
theorem dL_isAs_171 : decode cL_isAs 171 = .ok (.aload_n 0, 1) := by decide +kernel
theorem dL_isAs_172 : decode cL_isAs 172 = .ok (.iload 6, 2) := by decide +kernel
theorem dL_isAs_174 : decode cL_isAs 174 = .ok (.invokevirtual 150, 3) := by decide +kernel
theorem dL_isAs_177 : decode cL_isAs 177 = .ok (.aload_n 1, 1) := by decide +kernel
theorem dL_isAs_178 : decode cL_isAs 178 = .ok (.getfield 153, 3) := by decide +kernel
theorem dL_isAs_181 : decode cL_isAs 181 = .ok (.iload 6, 2) := by decide +kernel
theorem dL_isAs_183 : decode cL_isAs 183 = .ok (.iaload, 1) := by decide +kernel
theorem dL_isAs_184 : decode cL_isAs 184 = .ok (.if_icmp .ne 64, 3) := by decide +kernel
theorem dL_isAs_187 : decode cL_isAs 187 = .ok (.aload_n 0, 1) := by decide +kernel
theorem dL_isAs_188 : decode cL_isAs 188 = .ok (.iload 6, 2) := by decide +kernel
theorem dL_isAs_190 : decode cL_isAs 190 = .ok (.invokevirtual 155, 3) := by decide +kernel
theorem dL_isAs_193 : decode cL_isAs 193 = .ok (.aload_n 1, 1) := by decide +kernel
theorem dL_isAs_194 : decode cL_isAs 194 = .ok (.getfield 158, 3) := by decide +kernel
theorem dL_isAs_197 : decode cL_isAs 197 = .ok (.iload 6, 2) := by decide +kernel
theorem dL_isAs_199 : decode cL_isAs 199 = .ok (.iaload, 1) := by decide +kernel
theorem dL_isAs_200 : decode cL_isAs 200 = .ok (.if_icmp .ne 48, 3) := by decide +kernel
theorem dL_isAs_203 : decode cL_isAs 203 = .ok (.aload_n 0, 1) := by decide +kernel
theorem dL_isAs_204 : decode cL_isAs 204 = .ok (.iload 6, 2) := by decide +kernel
theorem dL_isAs_206 : decode cL_isAs 206 = .ok (.invokevirtual 160, 3) := by decide +kernel
theorem dL_isAs_209 : decode cL_isAs 209 = .ok (.aload_n 1, 1) := by decide +kernel
theorem dL_isAs_210 : decode cL_isAs 210 = .ok (.iload 6, 2) := by decide +kernel
theorem dL_isAs_212 : decode cL_isAs 212 = .ok (.invokevirtual 163, 3) := by decide +kernel
theorem dL_isAs_215 : decode cL_isAs 215 = .ok (.if_icmp .ne 33, 3) := by decide +kernel
theorem dL_isAs_218 : decode cL_isAs 218 = .ok (.aload_n 0, 1) := by decide +kernel
theorem dL_isAs_219 : decode cL_isAs 219 = .ok (.iload 6, 2) := by decide +kernel
theorem dL_isAs_221 : decode cL_isAs 221 = .ok (.invokevirtual 164, 3) := by decide +kernel
theorem dL_isAs_224 : decode cL_isAs 224 = .ok (.aload_n 1, 1) := by decide +kernel
theorem dL_isAs_225 : decode cL_isAs 225 = .ok (.iload 6, 2) := by decide +kernel
theorem dL_isAs_227 : decode cL_isAs 227 = .ok (.invokevirtual 128, 3) := by decide +kernel
theorem dL_isAs_230 : decode cL_isAs 230 = .ok (.if_icmp .ne 18, 3) := by decide +kernel
theorem dL_isAs_233 : decode cL_isAs 233 = .ok (.aload_n 0, 1) := by decide +kernel
theorem dL_isAs_234 : decode cL_isAs 234 = .ok (.iload 6, 2) := by decide +kernel
theorem dL_isAs_236 : decode cL_isAs 236 = .ok (.invokevirtual 167, 3) := by decide +kernel
theorem dL_isAs_239 : decode cL_isAs 239 = .ok (.aload_n 1, 1) := by decide +kernel
theorem dL_isAs_240 : decode cL_isAs 240 = .ok (.iload 6, 2) := by decide +kernel
theorem dL_isAs_242 : decode cL_isAs 242 = .ok (.invokevirtual 170, 3) := by decide +kernel
theorem dL_isAs_245 : decode cL_isAs 245 = .ok (.if_icmp .eq 5, 3) := by decide +kernel
theorem dL_isAs_248 : decode cL_isAs 248 = .ok (.iconst 0, 1) := by decide +kernel
theorem dL_isAs_249 : decode cL_isAs 249 = .ok (.ireturn, 1) := by decide +kernel
theorem dL_isAs_250 : decode cL_isAs 250 = .ok (.iinc 6 1, 3) := by decide +kernel
theorem dL_isAs_253 : decode cL_isAs 253 = .ok (.goto (-217), 3) := by decide +kernel
theorem dL_isAs_256 : decode cL_isAs 256 = .ok (.aload_n 0, 1) := by decide +kernel
theorem dL_isAs_257 : decode cL_isAs 257 = .ok (.invokevirtual 173, 3) := by decide +kernel
theorem dL_isAs_260 : decode cL_isAs 260 = .ok (.aload_n 1, 1) := by decide +kernel
theorem dL_isAs_261 : decode cL_isAs 261 = .ok (.getfield 51, 3) := by decide +kernel
theorem dL_isAs_264 : decode cL_isAs 264 = .ok (.if_icmp .ne 104, 3) := by decide +kernel
theorem dL_isAs_267 : decode cL_isAs 267 = .ok (.aload_n 0, 1) := by decide +kernel
theorem dL_isAs_268 : decode cL_isAs 268 = .ok (.invokevirtual 176, 3) := by decide +kernel
theorem dL_isAs_271 : decode cL_isAs 271 = .ok (.aload_n 1, 1) := by decide +kernel
theorem dL_isAs_272 : decode cL_isAs 272 = .ok (.getfield 179, 3) := by decide +kernel
theorem dL_isAs_275 : decode cL_isAs 275 = .ok (.if_icmp .ne 93, 3) := by decide +kernel
theorem dL_isAs_278 : decode cL_isAs 278 = .ok (.aload_n 0, 1) := by decide +kernel
theorem dL_isAs_279 : decode cL_isAs 279 = .ok (.invokevirtual 182, 3) := by decide +kernel
theorem dL_isAs_282 : decode cL_isAs 282 = .ok (.aload_n 1, 1) := by decide +kernel
theorem dL_isAs_283 : decode cL_isAs 283 = .ok (.getfield 185, 3) := by decide +kernel
theorem dL_isAs_286 : decode cL_isAs 286 = .ok (.if_icmp .ne 82, 3) := by decide +kernel
theorem dL_isAs_289 : decode cL_isAs 289 = .ok (.aload_n 0, 1) := by decide +kernel
theorem dL_isAs_290 : decode cL_isAs 290 = .ok (.invokevirtual 188, 3) := by decide +kernel
theorem dL_isAs_293 : decode cL_isAs 293 = .ok (.aload_n 1, 1) := by decide +kernel
theorem dL_isAs_294 : decode cL_isAs 294 = .ok (.getfield 44, 3) := by decide +kernel
theorem dL_isAs_297 : decode cL_isAs 297 = .ok (.if_icmp .ne 71, 3) := by decide +kernel
theorem dL_isAs_300 : decode cL_isAs 300 = .ok (.aload_n 0, 1) := by decide +kernel
theorem dL_isAs_301 : decode cL_isAs 301 = .ok (.invokevirtual 191, 3) := by decide +kernel
theorem dL_isAs_304 : decode cL_isAs 304 = .ok (.aload_n 1, 1) := by decide +kernel
theorem dL_isAs_305 : decode cL_isAs 305 = .ok (.getfield 122, 3) := by decide +kernel
theorem dL_isAs_308 : decode cL_isAs 308 = .ok (.if_icmp .ne 60, 3) := by decide +kernel
theorem dL_isAs_311 : decode cL_isAs 311 = .ok (.aload_n 0, 1) := by decide +kernel
theorem dL_isAs_312 : decode cL_isAs 312 = .ok (.invokevirtual 194, 3) := by decide +kernel
theorem dL_isAs_315 : decode cL_isAs 315 = .ok (.aload_n 1, 1) := by decide +kernel
theorem dL_isAs_316 : decode cL_isAs 316 = .ok (.getfield 125, 3) := by decide +kernel
theorem dL_isAs_319 : decode cL_isAs 319 = .ok (.if_icmp .ne 49, 3) := by decide +kernel
theorem dL_isAs_322 : decode cL_isAs 322 = .ok (.aload_n 0, 1) := by decide +kernel
theorem dL_isAs_323 : decode cL_isAs 323 = .ok (.invokevirtual 197, 3) := by decide +kernel
theorem dL_isAs_326 : decode cL_isAs 326 = .ok (.iload 5, 2) := by decide +kernel
theorem dL_isAs_328 : decode cL_isAs 328 = .ok (.if_icmp .ne 40, 3) := by decide +kernel
theorem dL_isAs_331 : decode cL_isAs 331 = .ok (.aload_n 0, 1) := by decide +kernel
theorem dL_isAs_332 : decode cL_isAs 332 = .ok (.invokevirtual 200, 3) := by decide +kernel
theorem dL_isAs_335 : decode cL_isAs 335 = .ok (.ldc2_w 204, 3) := by decide +kernel
theorem dL_isAs_338 : decode cL_isAs 338 = .ok (.iload 5, 2) := by decide +kernel
theorem dL_isAs_340 : decode cL_isAs 340 = .ok (.i2d, 1) := by decide +kernel
theorem dL_isAs_341 : decode cL_isAs 341 = .ok (.ddiv, 1) := by decide +kernel
theorem dL_isAs_342 : decode cL_isAs 342 = .ok (.dcmp .l, 1) := by decide +kernel
theorem dL_isAs_343 : decode cL_isAs 343 = .ok (.ifCond .ne 25, 3) := by decide +kernel
theorem dL_isAs_346 : decode cL_isAs 346 = .ok (.aload_n 0, 1) := by decide +kernel
theorem dL_isAs_347 : decode cL_isAs 347 = .ok (.invokevirtual 206, 3) := by decide +kernel
theorem dL_isAs_350 : decode cL_isAs 350 = .ok (.ldc2_w 204, 3) := by decide +kernel
theorem dL_isAs_353 : decode cL_isAs 353 = .ok (.iload 5, 2) := by decide +kernel
theorem dL_isAs_355 : decode cL_isAs 355 = .ok (.i2d, 1) := by decide +kernel
theorem dL_isAs_356 : decode cL_isAs 356 = .ok (.ddiv, 1) := by decide +kernel
theorem dL_isAs_357 : decode cL_isAs 357 = .ok (.invokestatic 210, 3) := by decide +kernel
theorem dL_isAs_360 : decode cL_isAs 360 = .ok (.lcmp, 1) := by decide +kernel
theorem dL_isAs_361 : decode cL_isAs 361 = .ok (.ifCond .ne 7, 3) := by decide +kernel
theorem dL_isAs_364 : decode cL_isAs 364 = .ok (.iconst 1, 1) := by decide +kernel
theorem dL_isAs_365 : decode cL_isAs 365 = .ok (.goto 4, 3) := by decide +kernel
theorem dL_isAs_368 : decode cL_isAs 368 = .ok (.iconst 0, 1) := by decide +kernel
theorem dL_isAs_369 : decode cL_isAs 369 = .ok (.istore 6, 2) := by decide +kernel
theorem dL_isAs_371 : decode cL_isAs 371 = .ok (.iload 6, 2) := by decide +kernel
theorem dL_isAs_373 : decode cL_isAs 373 = .ok (.ifCond .eq 88, 3) := by decide +kernel
theorem dL_isAs_376 : decode cL_isAs 376 = .ok (.aload_n 0, 1) := by decide +kernel
theorem dL_isAs_377 : decode cL_isAs 377 = .ok (.invokevirtual 216, 3) := by decide +kernel
theorem dL_isAs_380 : decode cL_isAs 380 = .ok (.aload_n 1, 1) := by decide +kernel
theorem dL_isAs_381 : decode cL_isAs 381 = .ok (.getfield 219, 3) := by decide +kernel
theorem dL_isAs_384 : decode cL_isAs 384 = .ok (.if_icmp .ne 77, 3) := by decide +kernel
theorem dL_isAs_387 : decode cL_isAs 387 = .ok (.aload_n 0, 1) := by decide +kernel
theorem dL_isAs_388 : decode cL_isAs 388 = .ok (.invokevirtual 222, 3) := by decide +kernel
theorem dL_isAs_391 : decode cL_isAs 391 = .ok (.aload_n 1, 1) := by decide +kernel
theorem dL_isAs_392 : decode cL_isAs 392 = .ok (.getfield 225, 3) := by decide +kernel
theorem dL_isAs_395 : decode cL_isAs 395 = .ok (.if_icmp .ne 66, 3) := by decide +kernel
theorem dL_isAs_398 : decode cL_isAs 398 = .ok (.aload_n 0, 1) := by decide +kernel
theorem dL_isAs_399 : decode cL_isAs 399 = .ok (.invokevirtual 228, 3) := by decide +kernel
theorem dL_isAs_402 : decode cL_isAs 402 = .ok (.aload_n 1, 1) := by decide +kernel
theorem dL_isAs_403 : decode cL_isAs 403 = .ok (.getfield 231, 3) := by decide +kernel
theorem dL_isAs_406 : decode cL_isAs 406 = .ok (.if_icmp .ne 55, 3) := by decide +kernel
theorem dL_isAs_409 : decode cL_isAs 409 = .ok (.aload_n 0, 1) := by decide +kernel
theorem dL_isAs_410 : decode cL_isAs 410 = .ok (.invokevirtual 234, 3) := by decide +kernel
theorem dL_isAs_413 : decode cL_isAs 413 = .ok (.iload 4, 2) := by decide +kernel
theorem dL_isAs_415 : decode cL_isAs 415 = .ok (.if_icmp .ne 46, 3) := by decide +kernel
theorem dL_isAs_418 : decode cL_isAs 418 = .ok (.aload_n 0, 1) := by decide +kernel
theorem dL_isAs_419 : decode cL_isAs 419 = .ok (.invokevirtual 237, 3) := by decide +kernel
theorem dL_isAs_422 : decode cL_isAs 422 = .ok (.aload_n 1, 1) := by decide +kernel
theorem dL_isAs_423 : decode cL_isAs 423 = .ok (.getfield 122, 3) := by decide +kernel
theorem dL_isAs_426 : decode cL_isAs 426 = .ok (.ifCond .ne 7, 3) := by decide +kernel
theorem dL_isAs_429 : decode cL_isAs 429 = .ok (.iconst 0, 1) := by decide +kernel
theorem dL_isAs_430 : decode cL_isAs 430 = .ok (.goto 17, 3) := by decide +kernel
theorem dL_isAs_433 : decode cL_isAs 433 = .ok (.aload_n 1, 1) := by decide +kernel
theorem dL_isAs_434 : decode cL_isAs 434 = .ok (.getfield 122, 3) := by decide +kernel
theorem dL_isAs_437 : decode cL_isAs 437 = .ok (.aload_n 1, 1) := by decide +kernel
theorem dL_isAs_438 : decode cL_isAs 438 = .ok (.getfield 51, 3) := by decide +kernel
theorem dL_isAs_441 : decode cL_isAs 441 = .ok (.imul, 1) := by decide +kernel
theorem dL_isAs_442 : decode cL_isAs 442 = .ok (.aload_n 1, 1) := by decide +kernel
theorem dL_isAs_443 : decode cL_isAs 443 = .ok (.getfield 185, 3) := by decide +kernel
theorem dL_isAs_446 : decode cL_isAs 446 = .ok (.isub, 1) := by decide +kernel
theorem dL_isAs_447 : decode cL_isAs 447 = .ok (.if_icmp .ne 14, 3) := by decide +kernel
theorem dL_isAs_450 : decode cL_isAs 450 = .ok (.aload_n 0, 1) := by decide +kernel
theorem dL_isAs_451 : decode cL_isAs 451 = .ok (.invokevirtual 240, 3) := by decide +kernel
theorem dL_isAs_454 : decode cL_isAs 454 = .ok (.ifCond .ne 7, 3) := by decide +kernel
theorem dL_isAs_457 : decode cL_isAs 457 = .ok (.iconst 1, 1) := by decide +kernel
theorem dL_isAs_458 : decode cL_isAs 458 = .ok (.goto 4, 3) := by decide +kernel
theorem dL_isAs_461 : decode cL_isAs 461 = .ok (.iconst 0, 1) := by decide +kernel
theorem dL_isAs_462 : decode cL_isAs 462 = .ok (.istore 6, 2) := by decide +kernel
theorem dL_isAs_464 : decode cL_isAs 464 = .ok (.iload 6, 2) := by decide +kernel
theorem dL_isAs_466 : decode cL_isAs 466 = .ok (.ifCond .eq 31, 3) := by decide +kernel
theorem dL_isAs_469 : decode cL_isAs 469 = .ok (.aload_n 0, 1) := by decide +kernel
theorem dL_isAs_470 : decode cL_isAs 470 = .ok (.aload_n 1, 1) := by decide +kernel
theorem dL_isAs_471 : decode cL_isAs 471 = .ok (.iload_n 2, 1) := by decide +kernel
theorem dL_isAs_472 : decode cL_isAs 472 = .ok (.invokestatic 243, 3) := by decide +kernel
theorem dL_isAs_475 : decode cL_isAs 475 = .ok (.ifCond .eq 22, 3) := by decide +kernel
theorem dL_isAs_478 : decode cL_isAs 478 = .ok (.aload_n 0, 1) := by decide +kernel
theorem dL_isAs_479 : decode cL_isAs 479 = .ok (.aload_n 0, 1) := by decide +kernel
theorem dL_isAs_480 : decode cL_isAs 480 = .ok (.invokevirtual 247, 3) := by decide +kernel
theorem dL_isAs_483 : decode cL_isAs 483 = .ok (.aload_n 3, 1) := by decide +kernel
theorem dL_isAs_484 : decode cL_isAs 484 = .ok (.invokevirtual 83, 3) := by decide +kernel
theorem dL_isAs_487 : decode cL_isAs 487 = .ok (.invokestatic 87, 3) := by decide +kernel
theorem dL_isAs_490 : decode cL_isAs 490 = .ok (.ifCond .eq 7, 3) := by decide +kernel
theorem dL_isAs_493 : decode cL_isAs 493 = .ok (.iconst 1, 1) := by decide +kernel
theorem dL_isAs_494 : decode cL_isAs 494 = .ok (.goto 4, 3) := by decide +kernel
theorem dL_isAs_497 : decode cL_isAs 497 = .ok (.iconst 0, 1) := by decide +kernel
theorem dL_isAs_498 : decode cL_isAs 498 = .ok (.ireturn, 1) := by decide +kernel
def fL_isAs_L36 (k : Nat) (c2 : Int32) (c5 : Int32) (K : Int32 → Int32 → Mm → Option (Int32 × Mm)) : Nat → Int32 → Int32 → Mm → Option (Int32 × Mm)
  | 0, _, _, _ => none
  | n + 1, v4, v6, M => if (M.1 (18, k, 0) 3) ≤ v6 then K v4 v6 M else (fX10_isBad M k v6).bind fun q2 => if q2 = 0 then (if v6 ≤ 0 then ((fJ4_append_15ec4K M 1 8 70).bind fun q6 => (fX10_isBad q6 k v6).bind fun q8 => if q8 = 0 then ((fJ4_append_15ec4K (nSB q6 2) 2 8 16).bind fun q11 => if v6 < 0 ∨ 12 ≤ v6.toNatClampNeg then none else if v6 < 0 ∨ 12 ≤ v6.toNatClampNeg then none else (fJ4_append_bf812 q11 2 ((q11.1 (19, k, 0) v6.toNatClampNeg) + (q11.1 (19, k, 1) v6.toNatClampNeg)) 16).bind fun q15 => (fJ4_toString q15 2 2 16).bind fun q17 => (fJ4_append_15ec4M q17 1 2 70).bind fun q19 => (fX9_soundingPitch q19 v6).bind fun q21 => if v6 < 0 ∨ 12 ≤ v6.toNatClampNeg then none else if v6 < 0 ∨ 12 ≤ v6.toNatClampNeg then none else if q21.1 = ((q21.2.1 (19, k, 0) v6.toNatClampNeg) + (q21.2.1 (19, k, 1) v6.toNatClampNeg)) then ((fX9_bendOf q21.2 v6).bind fun q26 => if v6 < 0 ∨ 12 ≤ v6.toNatClampNeg then none else if q26.1 = (q26.2.1 (19, k, 1) v6.toNatClampNeg) then ((fX9_gap q26.2 v6).bind fun q30 => if v6 < 0 ∨ 12 ≤ v6.toNatClampNeg then none else if q30.1 = (q30.2.1 (19, k, 2) v6.toNatClampNeg) then ((fX9_wear q30.2 v6).bind fun q34 => if v6 < 0 ∨ 12 ≤ v6.toNatClampNeg then none else if q34.1 = (q34.2.1 (19, k, 4) v6.toNatClampNeg) then ((fX9_silence q34.2 v6).bind fun q38 => (fX10_silence q38.2 k v6).bind fun q40 => if q38.1 = q40 then ((fX9_isBroken q38.2 v6).bind fun q43 => (fX10_isBad q43.2 k v6).bind fun q45 => if q43.1 = q45 then ((fX9_nextSound q43.2 v6).bind fun q48 => (fX10_sound q48.2 k v6).bind fun q50 => if q48.1 = q50 then fL_isAs_L36 k c2 c5 K n (v4 + (0 : Int32)) (v6 + (1 : Int32)) q48.2 else some ((0 : Int32), q48.2)) else some ((0 : Int32), q43.2)) else some ((0 : Int32), q38.2)) else some ((0 : Int32), q34.2)) else some ((0 : Int32), q30.2)) else some ((0 : Int32), q26.2)) else some ((0 : Int32), q21.2)) else (fJ4_append_15ec4K q6 1 9 70).bind fun q53 => (fX9_soundingPitch q53 v6).bind fun q55 => if v6 < 0 ∨ 12 ≤ v6.toNatClampNeg then none else if v6 < 0 ∨ 12 ≤ v6.toNatClampNeg then none else if q55.1 = ((q55.2.1 (19, k, 0) v6.toNatClampNeg) + (q55.2.1 (19, k, 1) v6.toNatClampNeg)) then ((fX9_bendOf q55.2 v6).bind fun q60 => if v6 < 0 ∨ 12 ≤ v6.toNatClampNeg then none else if q60.1 = (q60.2.1 (19, k, 1) v6.toNatClampNeg) then ((fX9_gap q60.2 v6).bind fun q64 => if v6 < 0 ∨ 12 ≤ v6.toNatClampNeg then none else if q64.1 = (q64.2.1 (19, k, 2) v6.toNatClampNeg) then ((fX9_wear q64.2 v6).bind fun q68 => if v6 < 0 ∨ 12 ≤ v6.toNatClampNeg then none else if q68.1 = (q68.2.1 (19, k, 4) v6.toNatClampNeg) then ((fX9_silence q68.2 v6).bind fun q72 => (fX10_silence q72.2 k v6).bind fun q74 => if q72.1 = q74 then ((fX9_isBroken q72.2 v6).bind fun q77 => (fX10_isBad q77.2 k v6).bind fun q79 => if q77.1 = q79 then ((fX9_nextSound q77.2 v6).bind fun q82 => (fX10_sound q82.2 k v6).bind fun q84 => if q82.1 = q84 then fL_isAs_L36 k c2 c5 K n (v4 + (0 : Int32)) (v6 + (1 : Int32)) q82.2 else some ((0 : Int32), q82.2)) else some ((0 : Int32), q77.2)) else some ((0 : Int32), q72.2)) else some ((0 : Int32), q68.2)) else some ((0 : Int32), q64.2)) else some ((0 : Int32), q60.2)) else some ((0 : Int32), q55.2)) else (fJ4_append_15ec4K M 1 7 70).bind fun q87 => (fX10_isBad q87 k v6).bind fun q89 => if q89 = 0 then ((fJ4_append_15ec4K (nSB q87 2) 2 8 16).bind fun q92 => if v6 < 0 ∨ 12 ≤ v6.toNatClampNeg then none else if v6 < 0 ∨ 12 ≤ v6.toNatClampNeg then none else (fJ4_append_bf812 q92 2 ((q92.1 (19, k, 0) v6.toNatClampNeg) + (q92.1 (19, k, 1) v6.toNatClampNeg)) 16).bind fun q96 => (fJ4_toString q96 2 2 16).bind fun q98 => (fJ4_append_15ec4M q98 1 2 70).bind fun q100 => (fX9_soundingPitch q100 v6).bind fun q102 => if v6 < 0 ∨ 12 ≤ v6.toNatClampNeg then none else if v6 < 0 ∨ 12 ≤ v6.toNatClampNeg then none else if q102.1 = ((q102.2.1 (19, k, 0) v6.toNatClampNeg) + (q102.2.1 (19, k, 1) v6.toNatClampNeg)) then ((fX9_bendOf q102.2 v6).bind fun q107 => if v6 < 0 ∨ 12 ≤ v6.toNatClampNeg then none else if q107.1 = (q107.2.1 (19, k, 1) v6.toNatClampNeg) then ((fX9_gap q107.2 v6).bind fun q111 => if v6 < 0 ∨ 12 ≤ v6.toNatClampNeg then none else if q111.1 = (q111.2.1 (19, k, 2) v6.toNatClampNeg) then ((fX9_wear q111.2 v6).bind fun q115 => if v6 < 0 ∨ 12 ≤ v6.toNatClampNeg then none else if q115.1 = (q115.2.1 (19, k, 4) v6.toNatClampNeg) then ((fX9_silence q115.2 v6).bind fun q119 => (fX10_silence q119.2 k v6).bind fun q121 => if q119.1 = q121 then ((fX9_isBroken q119.2 v6).bind fun q124 => (fX10_isBad q124.2 k v6).bind fun q126 => if q124.1 = q126 then ((fX9_nextSound q124.2 v6).bind fun q129 => (fX10_sound q129.2 k v6).bind fun q131 => if q129.1 = q131 then fL_isAs_L36 k c2 c5 K n (v4 + (0 : Int32)) (v6 + (1 : Int32)) q129.2 else some ((0 : Int32), q129.2)) else some ((0 : Int32), q124.2)) else some ((0 : Int32), q119.2)) else some ((0 : Int32), q115.2)) else some ((0 : Int32), q111.2)) else some ((0 : Int32), q107.2)) else some ((0 : Int32), q102.2)) else (fJ4_append_15ec4K q87 1 9 70).bind fun q134 => (fX9_soundingPitch q134 v6).bind fun q136 => if v6 < 0 ∨ 12 ≤ v6.toNatClampNeg then none else if v6 < 0 ∨ 12 ≤ v6.toNatClampNeg then none else if q136.1 = ((q136.2.1 (19, k, 0) v6.toNatClampNeg) + (q136.2.1 (19, k, 1) v6.toNatClampNeg)) then ((fX9_bendOf q136.2 v6).bind fun q141 => if v6 < 0 ∨ 12 ≤ v6.toNatClampNeg then none else if q141.1 = (q141.2.1 (19, k, 1) v6.toNatClampNeg) then ((fX9_gap q141.2 v6).bind fun q145 => if v6 < 0 ∨ 12 ≤ v6.toNatClampNeg then none else if q145.1 = (q145.2.1 (19, k, 2) v6.toNatClampNeg) then ((fX9_wear q145.2 v6).bind fun q149 => if v6 < 0 ∨ 12 ≤ v6.toNatClampNeg then none else if q149.1 = (q149.2.1 (19, k, 4) v6.toNatClampNeg) then ((fX9_silence q149.2 v6).bind fun q153 => (fX10_silence q153.2 k v6).bind fun q155 => if q153.1 = q155 then ((fX9_isBroken q153.2 v6).bind fun q158 => (fX10_isBad q158.2 k v6).bind fun q160 => if q158.1 = q160 then ((fX9_nextSound q158.2 v6).bind fun q163 => (fX10_sound q163.2 k v6).bind fun q165 => if q163.1 = q165 then fL_isAs_L36 k c2 c5 K n (v4 + (0 : Int32)) (v6 + (1 : Int32)) q163.2 else some ((0 : Int32), q163.2)) else some ((0 : Int32), q158.2)) else some ((0 : Int32), q153.2)) else some ((0 : Int32), q149.2)) else some ((0 : Int32), q145.2)) else some ((0 : Int32), q141.2)) else some ((0 : Int32), q136.2)) else if v6 ≤ 0 then ((fJ4_append_15ec4K M 1 8 70).bind fun q169 => (fX10_isBad q169 k v6).bind fun q171 => if q171 = 0 then ((fJ4_append_15ec4K (nSB q169 2) 2 8 16).bind fun q174 => if v6 < 0 ∨ 12 ≤ v6.toNatClampNeg then none else if v6 < 0 ∨ 12 ≤ v6.toNatClampNeg then none else (fJ4_append_bf812 q174 2 ((q174.1 (19, k, 0) v6.toNatClampNeg) + (q174.1 (19, k, 1) v6.toNatClampNeg)) 16).bind fun q178 => (fJ4_toString q178 2 2 16).bind fun q180 => (fJ4_append_15ec4M q180 1 2 70).bind fun q182 => (fX9_soundingPitch q182 v6).bind fun q184 => if v6 < 0 ∨ 12 ≤ v6.toNatClampNeg then none else if v6 < 0 ∨ 12 ≤ v6.toNatClampNeg then none else if q184.1 = ((q184.2.1 (19, k, 0) v6.toNatClampNeg) + (q184.2.1 (19, k, 1) v6.toNatClampNeg)) then ((fX9_bendOf q184.2 v6).bind fun q189 => if v6 < 0 ∨ 12 ≤ v6.toNatClampNeg then none else if q189.1 = (q189.2.1 (19, k, 1) v6.toNatClampNeg) then ((fX9_gap q189.2 v6).bind fun q193 => if v6 < 0 ∨ 12 ≤ v6.toNatClampNeg then none else if q193.1 = (q193.2.1 (19, k, 2) v6.toNatClampNeg) then ((fX9_wear q193.2 v6).bind fun q197 => if v6 < 0 ∨ 12 ≤ v6.toNatClampNeg then none else if q197.1 = (q197.2.1 (19, k, 4) v6.toNatClampNeg) then ((fX9_silence q197.2 v6).bind fun q201 => (fX10_silence q201.2 k v6).bind fun q203 => if q201.1 = q203 then ((fX9_isBroken q201.2 v6).bind fun q206 => (fX10_isBad q206.2 k v6).bind fun q208 => if q206.1 = q208 then ((fX9_nextSound q206.2 v6).bind fun q211 => (fX10_sound q211.2 k v6).bind fun q213 => if q211.1 = q213 then fL_isAs_L36 k c2 c5 K n (v4 + (1 : Int32)) (v6 + (1 : Int32)) q211.2 else some ((0 : Int32), q211.2)) else some ((0 : Int32), q206.2)) else some ((0 : Int32), q201.2)) else some ((0 : Int32), q197.2)) else some ((0 : Int32), q193.2)) else some ((0 : Int32), q189.2)) else some ((0 : Int32), q184.2)) else (fJ4_append_15ec4K q169 1 9 70).bind fun q216 => (fX9_soundingPitch q216 v6).bind fun q218 => if v6 < 0 ∨ 12 ≤ v6.toNatClampNeg then none else if v6 < 0 ∨ 12 ≤ v6.toNatClampNeg then none else if q218.1 = ((q218.2.1 (19, k, 0) v6.toNatClampNeg) + (q218.2.1 (19, k, 1) v6.toNatClampNeg)) then ((fX9_bendOf q218.2 v6).bind fun q223 => if v6 < 0 ∨ 12 ≤ v6.toNatClampNeg then none else if q223.1 = (q223.2.1 (19, k, 1) v6.toNatClampNeg) then ((fX9_gap q223.2 v6).bind fun q227 => if v6 < 0 ∨ 12 ≤ v6.toNatClampNeg then none else if q227.1 = (q227.2.1 (19, k, 2) v6.toNatClampNeg) then ((fX9_wear q227.2 v6).bind fun q231 => if v6 < 0 ∨ 12 ≤ v6.toNatClampNeg then none else if q231.1 = (q231.2.1 (19, k, 4) v6.toNatClampNeg) then ((fX9_silence q231.2 v6).bind fun q235 => (fX10_silence q235.2 k v6).bind fun q237 => if q235.1 = q237 then ((fX9_isBroken q235.2 v6).bind fun q240 => (fX10_isBad q240.2 k v6).bind fun q242 => if q240.1 = q242 then ((fX9_nextSound q240.2 v6).bind fun q245 => (fX10_sound q245.2 k v6).bind fun q247 => if q245.1 = q247 then fL_isAs_L36 k c2 c5 K n (v4 + (1 : Int32)) (v6 + (1 : Int32)) q245.2 else some ((0 : Int32), q245.2)) else some ((0 : Int32), q240.2)) else some ((0 : Int32), q235.2)) else some ((0 : Int32), q231.2)) else some ((0 : Int32), q227.2)) else some ((0 : Int32), q223.2)) else some ((0 : Int32), q218.2)) else (fJ4_append_15ec4K M 1 7 70).bind fun q250 => (fX10_isBad q250 k v6).bind fun q252 => if q252 = 0 then ((fJ4_append_15ec4K (nSB q250 2) 2 8 16).bind fun q255 => if v6 < 0 ∨ 12 ≤ v6.toNatClampNeg then none else if v6 < 0 ∨ 12 ≤ v6.toNatClampNeg then none else (fJ4_append_bf812 q255 2 ((q255.1 (19, k, 0) v6.toNatClampNeg) + (q255.1 (19, k, 1) v6.toNatClampNeg)) 16).bind fun q259 => (fJ4_toString q259 2 2 16).bind fun q261 => (fJ4_append_15ec4M q261 1 2 70).bind fun q263 => (fX9_soundingPitch q263 v6).bind fun q265 => if v6 < 0 ∨ 12 ≤ v6.toNatClampNeg then none else if v6 < 0 ∨ 12 ≤ v6.toNatClampNeg then none else if q265.1 = ((q265.2.1 (19, k, 0) v6.toNatClampNeg) + (q265.2.1 (19, k, 1) v6.toNatClampNeg)) then ((fX9_bendOf q265.2 v6).bind fun q270 => if v6 < 0 ∨ 12 ≤ v6.toNatClampNeg then none else if q270.1 = (q270.2.1 (19, k, 1) v6.toNatClampNeg) then ((fX9_gap q270.2 v6).bind fun q274 => if v6 < 0 ∨ 12 ≤ v6.toNatClampNeg then none else if q274.1 = (q274.2.1 (19, k, 2) v6.toNatClampNeg) then ((fX9_wear q274.2 v6).bind fun q278 => if v6 < 0 ∨ 12 ≤ v6.toNatClampNeg then none else if q278.1 = (q278.2.1 (19, k, 4) v6.toNatClampNeg) then ((fX9_silence q278.2 v6).bind fun q282 => (fX10_silence q282.2 k v6).bind fun q284 => if q282.1 = q284 then ((fX9_isBroken q282.2 v6).bind fun q287 => (fX10_isBad q287.2 k v6).bind fun q289 => if q287.1 = q289 then ((fX9_nextSound q287.2 v6).bind fun q292 => (fX10_sound q292.2 k v6).bind fun q294 => if q292.1 = q294 then fL_isAs_L36 k c2 c5 K n (v4 + (1 : Int32)) (v6 + (1 : Int32)) q292.2 else some ((0 : Int32), q292.2)) else some ((0 : Int32), q287.2)) else some ((0 : Int32), q282.2)) else some ((0 : Int32), q278.2)) else some ((0 : Int32), q274.2)) else some ((0 : Int32), q270.2)) else some ((0 : Int32), q265.2)) else (fJ4_append_15ec4K q250 1 9 70).bind fun q297 => (fX9_soundingPitch q297 v6).bind fun q299 => if v6 < 0 ∨ 12 ≤ v6.toNatClampNeg then none else if v6 < 0 ∨ 12 ≤ v6.toNatClampNeg then none else if q299.1 = ((q299.2.1 (19, k, 0) v6.toNatClampNeg) + (q299.2.1 (19, k, 1) v6.toNatClampNeg)) then ((fX9_bendOf q299.2 v6).bind fun q304 => if v6 < 0 ∨ 12 ≤ v6.toNatClampNeg then none else if q304.1 = (q304.2.1 (19, k, 1) v6.toNatClampNeg) then ((fX9_gap q304.2 v6).bind fun q308 => if v6 < 0 ∨ 12 ≤ v6.toNatClampNeg then none else if q308.1 = (q308.2.1 (19, k, 2) v6.toNatClampNeg) then ((fX9_wear q308.2 v6).bind fun q312 => if v6 < 0 ∨ 12 ≤ v6.toNatClampNeg then none else if q312.1 = (q312.2.1 (19, k, 4) v6.toNatClampNeg) then ((fX9_silence q312.2 v6).bind fun q316 => (fX10_silence q316.2 k v6).bind fun q318 => if q316.1 = q318 then ((fX9_isBroken q316.2 v6).bind fun q321 => (fX10_isBad q321.2 k v6).bind fun q323 => if q321.1 = q323 then ((fX9_nextSound q321.2 v6).bind fun q326 => (fX10_sound q326.2 k v6).bind fun q328 => if q326.1 = q328 then fL_isAs_L36 k c2 c5 K n (v4 + (1 : Int32)) (v6 + (1 : Int32)) q326.2 else some ((0 : Int32), q326.2)) else some ((0 : Int32), q321.2)) else some ((0 : Int32), q316.2)) else some ((0 : Int32), q312.2)) else some ((0 : Int32), q308.2)) else some ((0 : Int32), q304.2)) else some ((0 : Int32), q299.2)
def fL_isAs (M : Mm) (k : Nat) (x3 : Int32) : Option (Int32 × Mm) := fL_isAs_L36 k x3 ((((60 : Int32) + ((4 : Int32) * ((nSB M 1).1 (18, k, 0) 1))) * ((100 : Int32) - ((nSB M 1).1 (18, k, 0) 2))) / (100 : Int32)) (fun w331 w332 M333 => if (fX9_stepCount M333) = (M333.1 (18, k, 0) 0) then (if (fX9_selectedTune M333) = (M333.1 (18, k, 0) 4) then (if (fX9_position M333) = (M333.1 (18, k, 0) 5) then (if (fX9_toothCount M333) = (M333.1 (18, k, 0) 3) then (if (fX9_turnsLeft M333) = (M333.1 (18, k, 0) 1) then (if (fX9_vane M333) = (M333.1 (18, k, 0) 2) then (if (fX9_tempo M333) = ((((60 : Int32) + ((4 : Int32) * ((nSB M 1).1 (18, k, 0) 1))) * ((100 : Int32) - ((nSB M 1).1 (18, k, 0) 2))) / (100 : Int32)) then ((fX9_secondsPerStep M333).bind fun q355 => if (FP.ddiv (4633641066610819072 : UInt64) (FP.i2d ((((60 : Int32) + ((4 : Int32) * ((nSB M 1).1 (18, k, 0) 1))) * ((100 : Int32) - ((nSB M 1).1 (18, k, 0) 2))) / (100 : Int32)))) &&& 0x7fffffffffffffff ≤ 0x7ff0000000000000 then if (Op.cmpValue (FP.dcmp q355 (FP.ddiv (4633641066610819072 : UInt64) (FP.i2d ((((60 : Int32) + ((4 : Int32) * ((nSB M 1).1 (18, k, 0) 1))) * ((100 : Int32) - ((nSB M 1).1 (18, k, 0) 2))) / (100 : Int32))))) .l) = 0 then ((fX9_secondsPerStepBits M333).bind fun q361 => if (FP.ddiv (4633641066610819072 : UInt64) (FP.i2d ((((60 : Int32) + ((4 : Int32) * ((nSB M 1).1 (18, k, 0) 1))) * ((100 : Int32) - ((nSB M 1).1 (18, k, 0) 2))) / (100 : Int32)))) &&& 0x7fffffffffffffff ≤ 0x7ff0000000000000 then if (lg_cmp q361 (dbits (FP.ddiv (4633641066610819072 : UInt64) (FP.i2d ((((60 : Int32) + ((4 : Int32) * ((nSB M 1).1 (18, k, 0) 1))) * ((100 : Int32) - ((nSB M 1).1 (18, k, 0) 2))) / (100 : Int32)))))) = 0 then (if (fX9_noteCount M333) = (M333.1 (18, k, 0) 6) then (if (fX9_squeakCount M333) = (M333.1 (18, k, 0) 7) then (if (fX9_stepsPlayed M333) = (M333.1 (18, k, 0) 8) then ((fX9_brokenTeeth M333).bind fun q374 => if q374 = w331 then (if (M333.1 (18, k, 0) 1) = 0 then (if (fX9_stepsLeft M333) = (0 : Int32) then ((fX9_contradictions M333).bind fun q398 => if q398 = 0 then ((fL_isTune M333 k x3).bind fun q403 => if q403.1 = 0 then some ((0 : Int32), q403.2) else (fX9_writeComb q403.2).bind fun q406 => (fJ4_toString q406.2 1 1 70).bind fun q408 => (fL_isOutput q408 q406.1 1).bind fun q410 => if q410.1 = 0 then some ((0 : Int32), q410.2) else some ((1 : Int32), q410.2)) else some ((0 : Int32), M333)) else some ((0 : Int32), M333)) else if (fX9_stepsLeft M333) = (((M333.1 (18, k, 0) 1) * (M333.1 (18, k, 0) 0)) - (M333.1 (18, k, 0) 5)) then ((fX9_contradictions M333).bind fun q381 => if q381 = 0 then ((fL_isTune M333 k x3).bind fun q386 => if q386.1 = 0 then some ((0 : Int32), q386.2) else (fX9_writeComb q386.2).bind fun q389 => (fJ4_toString q389.2 1 1 70).bind fun q391 => (fL_isOutput q391 q389.1 1).bind fun q393 => if q393.1 = 0 then some ((0 : Int32), q393.2) else some ((1 : Int32), q393.2)) else some ((0 : Int32), M333)) else some ((0 : Int32), M333)) else some ((0 : Int32), M333)) else some ((0 : Int32), M333)) else some ((0 : Int32), M333)) else some ((0 : Int32), M333)) else some ((0 : Int32), M333) else none) else some ((0 : Int32), M333) else none) else some ((0 : Int32), M333)) else some ((0 : Int32), M333)) else some ((0 : Int32), M333)) else some ((0 : Int32), M333)) else some ((0 : Int32), M333)) else some ((0 : Int32), M333)) else some ((0 : Int32), M333)) 13 (0 : Int32) (0 : Int32) (nSB M 1)
set_option maxRecDepth 20000 in
set_option maxHeartbeats 4000000 in
theorem sL_isAs_L36 {w0 wv : Wv} (k : Nat) (c2 : Int32) (c5 : Int32) (hw : SubW w0 wv) (owk : OwI wv k) (tb1 : TbI wv 1) (hf : FrI wv [(24, 2, 0), (25, 2, 0), (27, 0, 0), (28, 1, 0), (28, 2, 0), (29, 1, 0), (29, 2, 0)]) (hV : NoV w0 2) (hN : NoV wv 0) {res : (Int32 × Mm)} {K : Int32 → Int32 → Mm → Option (Int32 × Mm)} {CB SB : Nat} (hcb : CB ≤ 1006) (hsb : SB ≤ 63286) : ∀ (n : Nat) (v4 : Int32) (v6 : Int32) (M : Mm) (c s : Nat), c + n * 8 ≤ CB → s + n * 212 ≤ SB → fL_isAs_L36 k c2 c5 K n v4 v6 M = some res →
    (∀ (v4 : Int32) (v6 : Int32) (M : Mm) (c s : Nat), c ≤ CB → s ≤ SB → K v4 v6 M = some res → Z RL cL_isAs 7 (some .boolean) [] "isAs" (rmD 13 1006 63286) (QM SH (allR w0) 1006 63286 (fun v M9 => v = some (.int res.1) ∧ M9 = res.2) (fun _ _ => False)) (allR wv) SH c s 256 [some (.inr (0, 0, 0)), some (.inr (18, k, 0)), some (.inl (.int c2)), some (.inr (24, 1, 0)), some (.inl (.int v4)), some (.inl (.int c5)), some (.inl (.int v6))] [] M) → Z RL cL_isAs 7 (some .boolean) [] "isAs" (rmD 13 1006 63286) (QM SH (allR w0) 1006 63286 (fun v M9 => v = some (.int res.1) ∧ M9 = res.2) (fun _ _ => False)) (allR wv) SH c s 36 [some (.inr (0, 0, 0)), some (.inr (18, k, 0)), some (.inl (.int c2)), some (.inr (24, 1, 0)), some (.inl (.int v4)), some (.inl (.int c5)), some (.inl (.int v6))] [] M := by
  intro n
  induction n with
  | zero => intro v4 v6 M c s _ _ h; cases h
  | succ n ih =>
    intro v4 v6 M c s hc hs h hK
    have qv := qm_N (mc := 1006) (ms := 63286) (sh := SH) (PR := fun v M9 => v = some (.int res.1) ∧ M9 = res.2) (PX := fun _ _ => False) hV
    rw [fL_isAs_L36] at h
    refine z_iload (i := 6) dL_isAs_36 rfl ?_
    refine z_aload_n (i := 1) dL_isAs_38 rfl rfl ?_
    refine z_getIG (x := (M.1 (18, k, 0) 3)) dL_isAs_39 fg_L_44 owk.1 rfl rfl ?_
    refine z_icmp_ge (tgt := 256) dL_isAs_42 rfl (fun hc1 => ?_) (fun hc1 => ?_)
    · have h := it_t h hc1
      exact hK _ _ _ _ _ (by omega) (by omega) h
    · have h := it_f h hc1
      refine z_iload (i := 4) dL_isAs_45 rfl ?_
      refine z_aload_n (i := 1) dL_isAs_47 rfl rfl ?_
      refine z_iload (i := 6) dL_isAs_48 rfl ?_
      obtain ⟨q2, hq3, h⟩ := bnd h
      refine z_fVi (sX10_isBad M k v6 owk hq3) dL_isAs_50 ml_L_128 cd_X10_isBad owk.1 rfl rfl rfl (rmk_r (by decide) (by decide) (by omega) (by omega)) rfl rfl ?_
      refine z_if_eq (tgt := 60) dL_isAs_53 rfl (fun hc4 => ?_) (fun hc4 => ?_)
      · have h := it_t h hc4
        refine z_iconst (v := (0 : Int32)) dL_isAs_60 kc_0 ?_
        refine z_iadd dL_isAs_61 ?_
        refine z_istore (i := 4) dL_isAs_62 (Nat.le_of_ble_eq_true rfl) rfl ?_
        refine z_aload_n (i := 3) dL_isAs_64 rfl rfl ?_
        refine z_iload (i := 6) dL_isAs_65 rfl ?_
        refine z_if_le (tgt := 75) dL_isAs_67 rfl (fun hc5 => ?_) (fun hc5 => ?_)
        · have h := it_t h hc5
          refine z_ldcS (j := 8) dL_isAs_75 sw_RL_134 ?_
          obtain ⟨q6, hq7, h⟩ := bnd h
          refine z_cGV (sJ4_append_15ec4K M 1 8 70 tb1 (Nat.le_of_ble_eq_true rfl) (by decide) (frS hf rfl) hq7) dL_isAs_77 ml_L_136 cd_J4_append_15ec4 tb1.1 rfl rfl rfl (rq_o (by decide) (by decide) (by omega) (by omega)) rfl rfl (qi_N qv rfl) rfl rfl rfl ?_
          refine z_aload_n (i := 1) dL_isAs_80 rfl rfl ?_
          refine z_iload (i := 6) dL_isAs_81 rfl ?_
          obtain ⟨q8, hq9, h⟩ := bnd h
          refine z_fVi (sX10_isBad q6 k v6 owk hq9) dL_isAs_83 ml_L_128 cd_X10_isBad owk.1 rfl rfl rfl (rmk_r (by decide) (by decide) (by omega) (by omega)) rfl rfl ?_
          refine z_if_eq (tgt := 94) dL_isAs_86 rfl (fun hc10 => ?_) (fun hc10 => ?_)
          · have h := it_t h hc10
            refine z_nSB (z := 2) dL_isAs_94 dL_isAs_97 dL_isAs_98 nw_L_48 li_L_50 rfl (frS hf rfl) qv rfl rfl rfl (rq_o (by decide) (by decide) (by omega) (by omega)) ?_
            refine z_ldcS (j := 8) dL_isAs_101 sw_RL_134 ?_
            obtain ⟨q11, hq12, h⟩ := bnd h
            refine z_cGV (sJ4_append_15ec4K (nSB q6 2) 2 8 16 tb0 (Nat.le_of_ble_eq_true rfl) (by decide) (frU (frS hf rfl) rfl) hq12) dL_isAs_103 ml_L_136 cd_J4_append_15ec4 tb0.1 rfl rfl rfl (rq_o (by decide) (by decide) (by omega) (by omega)) rfl rfl (qi_N qv rfl) rfl rfl rfl ?_
            refine z_aload_n (i := 1) dL_isAs_106 rfl rfl ?_
            refine z_getRG (r' := (19, k, 0)) dL_isAs_107 fg_L_58 (owU owk).1 rfl rfl ?_
            refine z_iload (i := 6) dL_isAs_110 rfl ?_
            obtain ⟨hc13, h⟩ := chk h
            refine z_iald (x := (q11.1 (19, k, 0) v6.toNatClampNeg)) dL_isAs_112 ((owU owk).2.2 0 (Nat.le_of_ble_eq_true rfl)) rfl hc13 rfl ?_
            refine z_aload_n (i := 1) dL_isAs_113 rfl rfl ?_
            refine z_getRG (r' := (19, k, 1)) dL_isAs_114 fg_L_62 (owU owk).1 rfl rfl ?_
            refine z_iload (i := 6) dL_isAs_117 rfl ?_
            obtain ⟨hc14, h⟩ := chk h
            refine z_iald (x := (q11.1 (19, k, 1) v6.toNatClampNeg)) dL_isAs_119 ((owU owk).2.2 1 (Nat.le_of_ble_eq_true rfl)) rfl hc14 rfl ?_
            refine z_iadd dL_isAs_120 ?_
            obtain ⟨q15, hq16, h⟩ := bnd h
            refine z_cGV (sJ4_append_bf812 q11 2 ((q11.1 (19, k, 0) v6.toNatClampNeg) + (q11.1 (19, k, 1) v6.toNatClampNeg)) 16 tb0 (by decide) (frU (frS hf rfl) rfl) hq16) dL_isAs_121 ml_L_141 cd_J4_append_bf812 tb0.1 rfl rfl rfl (rq_o (by decide) (by decide) (by omega) (by omega)) rfl rfl (qi_N qv rfl) rfl rfl rfl ?_
            obtain ⟨q17, hq18, h⟩ := bnd h
            refine z_cGV (sJ4_toString q15 2 2 16 tb0 (by decide) (nd_st (frU (frS hf rfl) rfl)) hq18) dL_isAs_124 ml_L_83 cd_J4_toString_0e30d tb0.1 rfl rfl rfl (rq_o (by decide) (by decide) (by omega) (by omega)) rfl rfl (qi_N qv rfl) rfl rfl rfl ?_
            obtain ⟨q19, hq20, h⟩ := bnd h
            refine z_cGV (sJ4_append_15ec4M q17 1 2 70 (tbU (tbU tb1)) st0 (by decide) (frU (frU (frS hf rfl) rfl) rfl) hq20) dL_isAs_127 ml_L_136 cd_J4_append_15ec4 (tbU (tbU tb1)).1 rfl rfl rfl (rq_o (by decide) (by decide) (by omega) (by omega)) rfl rfl (qi_N qv rfl) rfl rfl rfl ?_
            refine z_pop dL_isAs_130 rfl ?_
            refine z_aload_n (i := 0) dL_isAs_131 rfl rfl ?_
            refine z_iload (i := 6) dL_isAs_132 rfl ?_
            obtain ⟨q21, hq22, h⟩ := bnd h
            refine z_fVi (sX9_soundingPitch q19 v6 hq22) dL_isAs_134 ml_L_144 cd_X9_soundingPitch mk0 rfl rfl rfl (rmk_r (by decide) (by decide) (by omega) (by omega)) rfl rfl ?_
            refine z_aload_n (i := 1) dL_isAs_137 rfl rfl ?_
            refine z_getRG (r' := (19, k, 0)) dL_isAs_138 fg_L_58 (owU (owU owk)).1 rfl rfl ?_
            refine z_iload (i := 6) dL_isAs_141 rfl ?_
            obtain ⟨hc23, h⟩ := chk h
            refine z_iald (x := (q21.2.1 (19, k, 0) v6.toNatClampNeg)) dL_isAs_143 ((owU (owU owk)).2.2 0 (Nat.le_of_ble_eq_true rfl)) rfl hc23 rfl ?_
            refine z_aload_n (i := 1) dL_isAs_144 rfl rfl ?_
            refine z_getRG (r' := (19, k, 1)) dL_isAs_145 fg_L_62 (owU (owU owk)).1 rfl rfl ?_
            refine z_iload (i := 6) dL_isAs_148 rfl ?_
            obtain ⟨hc24, h⟩ := chk h
            refine z_iald (x := (q21.2.1 (19, k, 1) v6.toNatClampNeg)) dL_isAs_150 ((owU (owU owk)).2.2 1 (Nat.le_of_ble_eq_true rfl)) rfl hc24 rfl ?_
            refine z_iadd dL_isAs_151 ?_
            refine z_icmp_ne (tgt := 248) dL_isAs_152 rfl (fun hc25 => ?_) (fun hc25 => ?_)
            · have h := it_f h hc25
              refine z_iconst (v := (0 : Int32)) dL_isAs_248 kc_0 ?_
              cases h
              refine z_sub (swU (swU hw)) ?_
              exact z_iret dL_isAs_249 rfl rfl (by omega) (by omega) ⟨rfl, rfl⟩
            · have h := it_t h hc25
              refine z_aload_n (i := 0) dL_isAs_155 rfl rfl ?_
              refine z_iload (i := 6) dL_isAs_156 rfl ?_
              obtain ⟨q26, hq27, h⟩ := bnd h
              refine z_fVi (sX9_bendOf q21.2 v6 hq27) dL_isAs_158 ml_L_147 cd_X9_bendOf mk0 rfl rfl rfl (rmk_r (by decide) (by decide) (by omega) (by omega)) rfl rfl ?_
              refine z_aload_n (i := 1) dL_isAs_161 rfl rfl ?_
              refine z_getRG (r' := (19, k, 1)) dL_isAs_162 fg_L_62 (owU (owU owk)).1 rfl rfl ?_
              refine z_iload (i := 6) dL_isAs_165 rfl ?_
              obtain ⟨hc28, h⟩ := chk h
              refine z_iald (x := (q26.2.1 (19, k, 1) v6.toNatClampNeg)) dL_isAs_167 ((owU (owU owk)).2.2 1 (Nat.le_of_ble_eq_true rfl)) rfl hc28 rfl ?_
              refine z_icmp_ne (tgt := 248) dL_isAs_168 rfl (fun hc29 => ?_) (fun hc29 => ?_)
              · have h := it_f h hc29
                refine z_iconst (v := (0 : Int32)) dL_isAs_248 kc_0 ?_
                cases h
                refine z_sub (swU (swU hw)) ?_
                exact z_iret dL_isAs_249 rfl rfl (by omega) (by omega) ⟨rfl, rfl⟩
              · have h := it_t h hc29
                refine z_aload_n (i := 0) dL_isAs_171 rfl rfl ?_
                refine z_iload (i := 6) dL_isAs_172 rfl ?_
                obtain ⟨q30, hq31, h⟩ := bnd h
                refine z_fVi (sX9_gap q26.2 v6 hq31) dL_isAs_174 ml_L_150 cd_X9_gap mk0 rfl rfl rfl (rmk_r (by decide) (by decide) (by omega) (by omega)) rfl rfl ?_
                refine z_aload_n (i := 1) dL_isAs_177 rfl rfl ?_
                refine z_getRG (r' := (19, k, 2)) dL_isAs_178 fg_L_153 (owU (owU owk)).1 rfl rfl ?_
                refine z_iload (i := 6) dL_isAs_181 rfl ?_
                obtain ⟨hc32, h⟩ := chk h
                refine z_iald (x := (q30.2.1 (19, k, 2) v6.toNatClampNeg)) dL_isAs_183 ((owU (owU owk)).2.2 2 (Nat.le_of_ble_eq_true rfl)) rfl hc32 rfl ?_
                refine z_icmp_ne (tgt := 248) dL_isAs_184 rfl (fun hc33 => ?_) (fun hc33 => ?_)
                · have h := it_f h hc33
                  refine z_iconst (v := (0 : Int32)) dL_isAs_248 kc_0 ?_
                  cases h
                  refine z_sub (swU (swU hw)) ?_
                  exact z_iret dL_isAs_249 rfl rfl (by omega) (by omega) ⟨rfl, rfl⟩
                · have h := it_t h hc33
                  refine z_aload_n (i := 0) dL_isAs_187 rfl rfl ?_
                  refine z_iload (i := 6) dL_isAs_188 rfl ?_
                  obtain ⟨q34, hq35, h⟩ := bnd h
                  refine z_fVi (sX9_wear q30.2 v6 hq35) dL_isAs_190 ml_L_155 cd_X9_wear mk0 rfl rfl rfl (rmk_r (by decide) (by decide) (by omega) (by omega)) rfl rfl ?_
                  refine z_aload_n (i := 1) dL_isAs_193 rfl rfl ?_
                  refine z_getRG (r' := (19, k, 4)) dL_isAs_194 fg_L_158 (owU (owU owk)).1 rfl rfl ?_
                  refine z_iload (i := 6) dL_isAs_197 rfl ?_
                  obtain ⟨hc36, h⟩ := chk h
                  refine z_iald (x := (q34.2.1 (19, k, 4) v6.toNatClampNeg)) dL_isAs_199 ((owU (owU owk)).2.2 4 (Nat.le_of_ble_eq_true rfl)) rfl hc36 rfl ?_
                  refine z_icmp_ne (tgt := 248) dL_isAs_200 rfl (fun hc37 => ?_) (fun hc37 => ?_)
                  · have h := it_f h hc37
                    refine z_iconst (v := (0 : Int32)) dL_isAs_248 kc_0 ?_
                    cases h
                    refine z_sub (swU (swU hw)) ?_
                    exact z_iret dL_isAs_249 rfl rfl (by omega) (by omega) ⟨rfl, rfl⟩
                  · have h := it_t h hc37
                    refine z_aload_n (i := 0) dL_isAs_203 rfl rfl ?_
                    refine z_iload (i := 6) dL_isAs_204 rfl ?_
                    obtain ⟨q38, hq39, h⟩ := bnd h
                    refine z_fVi (sX9_silence q34.2 v6 hq39) dL_isAs_206 ml_L_160 cd_X9_silence mk0 rfl rfl rfl (rmk_r (by decide) (by decide) (by omega) (by omega)) rfl rfl ?_
                    refine z_aload_n (i := 1) dL_isAs_209 rfl rfl ?_
                    refine z_iload (i := 6) dL_isAs_210 rfl ?_
                    obtain ⟨q40, hq41, h⟩ := bnd h
                    refine z_fVi (sX10_silence q38.2 k v6 (owU (owU owk)) hq41) dL_isAs_212 ml_L_163 cd_X10_silence (owU (owU owk)).1 rfl rfl rfl (rmk_r (by decide) (by decide) (by omega) (by omega)) rfl rfl ?_
                    refine z_icmp_ne (tgt := 248) dL_isAs_215 rfl (fun hc42 => ?_) (fun hc42 => ?_)
                    · have h := it_f h hc42
                      refine z_iconst (v := (0 : Int32)) dL_isAs_248 kc_0 ?_
                      cases h
                      refine z_sub (swU (swU hw)) ?_
                      exact z_iret dL_isAs_249 rfl rfl (by omega) (by omega) ⟨rfl, rfl⟩
                    · have h := it_t h hc42
                      refine z_aload_n (i := 0) dL_isAs_218 rfl rfl ?_
                      refine z_iload (i := 6) dL_isAs_219 rfl ?_
                      obtain ⟨q43, hq44, h⟩ := bnd h
                      refine z_fVi (sX9_isBroken q38.2 v6 hq44) dL_isAs_221 ml_L_164 cd_X9_isBroken mk0 rfl rfl rfl (rmk_r (by decide) (by decide) (by omega) (by omega)) rfl rfl ?_
                      refine z_aload_n (i := 1) dL_isAs_224 rfl rfl ?_
                      refine z_iload (i := 6) dL_isAs_225 rfl ?_
                      obtain ⟨q45, hq46, h⟩ := bnd h
                      refine z_fVi (sX10_isBad q43.2 k v6 (owU (owU owk)) hq46) dL_isAs_227 ml_L_128 cd_X10_isBad (owU (owU owk)).1 rfl rfl rfl (rmk_r (by decide) (by decide) (by omega) (by omega)) rfl rfl ?_
                      refine z_icmp_ne (tgt := 248) dL_isAs_230 rfl (fun hc47 => ?_) (fun hc47 => ?_)
                      · have h := it_f h hc47
                        refine z_iconst (v := (0 : Int32)) dL_isAs_248 kc_0 ?_
                        cases h
                        refine z_sub (swU (swU hw)) ?_
                        exact z_iret dL_isAs_249 rfl rfl (by omega) (by omega) ⟨rfl, rfl⟩
                      · have h := it_t h hc47
                        refine z_aload_n (i := 0) dL_isAs_233 rfl rfl ?_
                        refine z_iload (i := 6) dL_isAs_234 rfl ?_
                        obtain ⟨q48, hq49, h⟩ := bnd h
                        refine z_fVi (sX9_nextSound q43.2 v6 hq49) dL_isAs_236 ml_L_167 cd_X9_nextSound mk0 rfl rfl rfl (rmk_r (by decide) (by decide) (by omega) (by omega)) rfl rfl ?_
                        refine z_aload_n (i := 1) dL_isAs_239 rfl rfl ?_
                        refine z_iload (i := 6) dL_isAs_240 rfl ?_
                        obtain ⟨q50, hq51, h⟩ := bnd h
                        refine z_fVi (sX10_sound q48.2 k v6 (owU (owU owk)) hq51) dL_isAs_242 ml_L_170 cd_X10_sound (owU (owU owk)).1 rfl rfl rfl (rmk_r (by decide) (by decide) (by omega) (by omega)) rfl rfl ?_
                        refine z_icmp_eq (tgt := 250) dL_isAs_245 rfl (fun hc52 => ?_) (fun hc52 => ?_)
                        · have h := it_t h hc52
                          refine z_iinc (i := 6) (v := (v6 + (1 : Int32))) dL_isAs_250 rfl (iinc_k kc_1) (Nat.le_of_ble_eq_true rfl) rfl ?_
                          refine z_goto (tgt := 36) dL_isAs_253 rfl ?_
                          refine z_sub (swU swA) ?_
                          exact ih _ _ _ _ _ (by omega) (by omega) h hK
                        · have h := it_f h hc52
                          refine z_iconst (v := (0 : Int32)) dL_isAs_248 kc_0 ?_
                          cases h
                          refine z_sub (swU (swU hw)) ?_
                          exact z_iret dL_isAs_249 rfl rfl (by omega) (by omega) ⟨rfl, rfl⟩
          · have h := it_f h hc10
            refine z_ldcS (j := 9) dL_isAs_89 sw_RL_139 ?_
            refine z_goto (tgt := 127) dL_isAs_91 rfl ?_
            obtain ⟨q53, hq54, h⟩ := bnd h
            refine z_cGV (sJ4_append_15ec4K q6 1 9 70 tb1 (Nat.le_of_ble_eq_true rfl) (by decide) (frS hf rfl) hq54) dL_isAs_127 ml_L_136 cd_J4_append_15ec4 tb1.1 rfl rfl rfl (rq_o (by decide) (by decide) (by omega) (by omega)) rfl rfl (qi_N qv rfl) rfl rfl rfl ?_
            refine z_pop dL_isAs_130 rfl ?_
            refine z_aload_n (i := 0) dL_isAs_131 rfl rfl ?_
            refine z_iload (i := 6) dL_isAs_132 rfl ?_
            obtain ⟨q55, hq56, h⟩ := bnd h
            refine z_fVi (sX9_soundingPitch q53 v6 hq56) dL_isAs_134 ml_L_144 cd_X9_soundingPitch mk0 rfl rfl rfl (rmk_r (by decide) (by decide) (by omega) (by omega)) rfl rfl ?_
            refine z_aload_n (i := 1) dL_isAs_137 rfl rfl ?_
            refine z_getRG (r' := (19, k, 0)) dL_isAs_138 fg_L_58 owk.1 rfl rfl ?_
            refine z_iload (i := 6) dL_isAs_141 rfl ?_
            obtain ⟨hc57, h⟩ := chk h
            refine z_iald (x := (q55.2.1 (19, k, 0) v6.toNatClampNeg)) dL_isAs_143 (owk.2.2 0 (Nat.le_of_ble_eq_true rfl)) rfl hc57 rfl ?_
            refine z_aload_n (i := 1) dL_isAs_144 rfl rfl ?_
            refine z_getRG (r' := (19, k, 1)) dL_isAs_145 fg_L_62 owk.1 rfl rfl ?_
            refine z_iload (i := 6) dL_isAs_148 rfl ?_
            obtain ⟨hc58, h⟩ := chk h
            refine z_iald (x := (q55.2.1 (19, k, 1) v6.toNatClampNeg)) dL_isAs_150 (owk.2.2 1 (Nat.le_of_ble_eq_true rfl)) rfl hc58 rfl ?_
            refine z_iadd dL_isAs_151 ?_
            refine z_icmp_ne (tgt := 248) dL_isAs_152 rfl (fun hc59 => ?_) (fun hc59 => ?_)
            · have h := it_f h hc59
              refine z_iconst (v := (0 : Int32)) dL_isAs_248 kc_0 ?_
              cases h
              refine z_sub hw ?_
              exact z_iret dL_isAs_249 rfl rfl (by omega) (by omega) ⟨rfl, rfl⟩
            · have h := it_t h hc59
              refine z_aload_n (i := 0) dL_isAs_155 rfl rfl ?_
              refine z_iload (i := 6) dL_isAs_156 rfl ?_
              obtain ⟨q60, hq61, h⟩ := bnd h
              refine z_fVi (sX9_bendOf q55.2 v6 hq61) dL_isAs_158 ml_L_147 cd_X9_bendOf mk0 rfl rfl rfl (rmk_r (by decide) (by decide) (by omega) (by omega)) rfl rfl ?_
              refine z_aload_n (i := 1) dL_isAs_161 rfl rfl ?_
              refine z_getRG (r' := (19, k, 1)) dL_isAs_162 fg_L_62 owk.1 rfl rfl ?_
              refine z_iload (i := 6) dL_isAs_165 rfl ?_
              obtain ⟨hc62, h⟩ := chk h
              refine z_iald (x := (q60.2.1 (19, k, 1) v6.toNatClampNeg)) dL_isAs_167 (owk.2.2 1 (Nat.le_of_ble_eq_true rfl)) rfl hc62 rfl ?_
              refine z_icmp_ne (tgt := 248) dL_isAs_168 rfl (fun hc63 => ?_) (fun hc63 => ?_)
              · have h := it_f h hc63
                refine z_iconst (v := (0 : Int32)) dL_isAs_248 kc_0 ?_
                cases h
                refine z_sub hw ?_
                exact z_iret dL_isAs_249 rfl rfl (by omega) (by omega) ⟨rfl, rfl⟩
              · have h := it_t h hc63
                refine z_aload_n (i := 0) dL_isAs_171 rfl rfl ?_
                refine z_iload (i := 6) dL_isAs_172 rfl ?_
                obtain ⟨q64, hq65, h⟩ := bnd h
                refine z_fVi (sX9_gap q60.2 v6 hq65) dL_isAs_174 ml_L_150 cd_X9_gap mk0 rfl rfl rfl (rmk_r (by decide) (by decide) (by omega) (by omega)) rfl rfl ?_
                refine z_aload_n (i := 1) dL_isAs_177 rfl rfl ?_
                refine z_getRG (r' := (19, k, 2)) dL_isAs_178 fg_L_153 owk.1 rfl rfl ?_
                refine z_iload (i := 6) dL_isAs_181 rfl ?_
                obtain ⟨hc66, h⟩ := chk h
                refine z_iald (x := (q64.2.1 (19, k, 2) v6.toNatClampNeg)) dL_isAs_183 (owk.2.2 2 (Nat.le_of_ble_eq_true rfl)) rfl hc66 rfl ?_
                refine z_icmp_ne (tgt := 248) dL_isAs_184 rfl (fun hc67 => ?_) (fun hc67 => ?_)
                · have h := it_f h hc67
                  refine z_iconst (v := (0 : Int32)) dL_isAs_248 kc_0 ?_
                  cases h
                  refine z_sub hw ?_
                  exact z_iret dL_isAs_249 rfl rfl (by omega) (by omega) ⟨rfl, rfl⟩
                · have h := it_t h hc67
                  refine z_aload_n (i := 0) dL_isAs_187 rfl rfl ?_
                  refine z_iload (i := 6) dL_isAs_188 rfl ?_
                  obtain ⟨q68, hq69, h⟩ := bnd h
                  refine z_fVi (sX9_wear q64.2 v6 hq69) dL_isAs_190 ml_L_155 cd_X9_wear mk0 rfl rfl rfl (rmk_r (by decide) (by decide) (by omega) (by omega)) rfl rfl ?_
                  refine z_aload_n (i := 1) dL_isAs_193 rfl rfl ?_
                  refine z_getRG (r' := (19, k, 4)) dL_isAs_194 fg_L_158 owk.1 rfl rfl ?_
                  refine z_iload (i := 6) dL_isAs_197 rfl ?_
                  obtain ⟨hc70, h⟩ := chk h
                  refine z_iald (x := (q68.2.1 (19, k, 4) v6.toNatClampNeg)) dL_isAs_199 (owk.2.2 4 (Nat.le_of_ble_eq_true rfl)) rfl hc70 rfl ?_
                  refine z_icmp_ne (tgt := 248) dL_isAs_200 rfl (fun hc71 => ?_) (fun hc71 => ?_)
                  · have h := it_f h hc71
                    refine z_iconst (v := (0 : Int32)) dL_isAs_248 kc_0 ?_
                    cases h
                    refine z_sub hw ?_
                    exact z_iret dL_isAs_249 rfl rfl (by omega) (by omega) ⟨rfl, rfl⟩
                  · have h := it_t h hc71
                    refine z_aload_n (i := 0) dL_isAs_203 rfl rfl ?_
                    refine z_iload (i := 6) dL_isAs_204 rfl ?_
                    obtain ⟨q72, hq73, h⟩ := bnd h
                    refine z_fVi (sX9_silence q68.2 v6 hq73) dL_isAs_206 ml_L_160 cd_X9_silence mk0 rfl rfl rfl (rmk_r (by decide) (by decide) (by omega) (by omega)) rfl rfl ?_
                    refine z_aload_n (i := 1) dL_isAs_209 rfl rfl ?_
                    refine z_iload (i := 6) dL_isAs_210 rfl ?_
                    obtain ⟨q74, hq75, h⟩ := bnd h
                    refine z_fVi (sX10_silence q72.2 k v6 owk hq75) dL_isAs_212 ml_L_163 cd_X10_silence owk.1 rfl rfl rfl (rmk_r (by decide) (by decide) (by omega) (by omega)) rfl rfl ?_
                    refine z_icmp_ne (tgt := 248) dL_isAs_215 rfl (fun hc76 => ?_) (fun hc76 => ?_)
                    · have h := it_f h hc76
                      refine z_iconst (v := (0 : Int32)) dL_isAs_248 kc_0 ?_
                      cases h
                      refine z_sub hw ?_
                      exact z_iret dL_isAs_249 rfl rfl (by omega) (by omega) ⟨rfl, rfl⟩
                    · have h := it_t h hc76
                      refine z_aload_n (i := 0) dL_isAs_218 rfl rfl ?_
                      refine z_iload (i := 6) dL_isAs_219 rfl ?_
                      obtain ⟨q77, hq78, h⟩ := bnd h
                      refine z_fVi (sX9_isBroken q72.2 v6 hq78) dL_isAs_221 ml_L_164 cd_X9_isBroken mk0 rfl rfl rfl (rmk_r (by decide) (by decide) (by omega) (by omega)) rfl rfl ?_
                      refine z_aload_n (i := 1) dL_isAs_224 rfl rfl ?_
                      refine z_iload (i := 6) dL_isAs_225 rfl ?_
                      obtain ⟨q79, hq80, h⟩ := bnd h
                      refine z_fVi (sX10_isBad q77.2 k v6 owk hq80) dL_isAs_227 ml_L_128 cd_X10_isBad owk.1 rfl rfl rfl (rmk_r (by decide) (by decide) (by omega) (by omega)) rfl rfl ?_
                      refine z_icmp_ne (tgt := 248) dL_isAs_230 rfl (fun hc81 => ?_) (fun hc81 => ?_)
                      · have h := it_f h hc81
                        refine z_iconst (v := (0 : Int32)) dL_isAs_248 kc_0 ?_
                        cases h
                        refine z_sub hw ?_
                        exact z_iret dL_isAs_249 rfl rfl (by omega) (by omega) ⟨rfl, rfl⟩
                      · have h := it_t h hc81
                        refine z_aload_n (i := 0) dL_isAs_233 rfl rfl ?_
                        refine z_iload (i := 6) dL_isAs_234 rfl ?_
                        obtain ⟨q82, hq83, h⟩ := bnd h
                        refine z_fVi (sX9_nextSound q77.2 v6 hq83) dL_isAs_236 ml_L_167 cd_X9_nextSound mk0 rfl rfl rfl (rmk_r (by decide) (by decide) (by omega) (by omega)) rfl rfl ?_
                        refine z_aload_n (i := 1) dL_isAs_239 rfl rfl ?_
                        refine z_iload (i := 6) dL_isAs_240 rfl ?_
                        obtain ⟨q84, hq85, h⟩ := bnd h
                        refine z_fVi (sX10_sound q82.2 k v6 owk hq85) dL_isAs_242 ml_L_170 cd_X10_sound owk.1 rfl rfl rfl (rmk_r (by decide) (by decide) (by omega) (by omega)) rfl rfl ?_
                        refine z_icmp_eq (tgt := 250) dL_isAs_245 rfl (fun hc86 => ?_) (fun hc86 => ?_)
                        · have h := it_t h hc86
                          refine z_iinc (i := 6) (v := (v6 + (1 : Int32))) dL_isAs_250 rfl (iinc_k kc_1) (Nat.le_of_ble_eq_true rfl) rfl ?_
                          refine z_goto (tgt := 36) dL_isAs_253 rfl ?_
                          exact ih _ _ _ _ _ (by omega) (by omega) h hK
                        · have h := it_f h hc86
                          refine z_iconst (v := (0 : Int32)) dL_isAs_248 kc_0 ?_
                          cases h
                          refine z_sub hw ?_
                          exact z_iret dL_isAs_249 rfl rfl (by omega) (by omega) ⟨rfl, rfl⟩
        · have h := it_f h hc5
          refine z_ldcS (j := 7) dL_isAs_70 sw_RL_132 ?_
          refine z_goto (tgt := 77) dL_isAs_72 rfl ?_
          obtain ⟨q87, hq88, h⟩ := bnd h
          refine z_cGV (sJ4_append_15ec4K M 1 7 70 tb1 (Nat.le_of_ble_eq_true rfl) (by decide) (frS hf rfl) hq88) dL_isAs_77 ml_L_136 cd_J4_append_15ec4 tb1.1 rfl rfl rfl (rq_o (by decide) (by decide) (by omega) (by omega)) rfl rfl (qi_N qv rfl) rfl rfl rfl ?_
          refine z_aload_n (i := 1) dL_isAs_80 rfl rfl ?_
          refine z_iload (i := 6) dL_isAs_81 rfl ?_
          obtain ⟨q89, hq90, h⟩ := bnd h
          refine z_fVi (sX10_isBad q87 k v6 owk hq90) dL_isAs_83 ml_L_128 cd_X10_isBad owk.1 rfl rfl rfl (rmk_r (by decide) (by decide) (by omega) (by omega)) rfl rfl ?_
          refine z_if_eq (tgt := 94) dL_isAs_86 rfl (fun hc91 => ?_) (fun hc91 => ?_)
          · have h := it_t h hc91
            refine z_nSB (z := 2) dL_isAs_94 dL_isAs_97 dL_isAs_98 nw_L_48 li_L_50 rfl (frS hf rfl) qv rfl rfl rfl (rq_o (by decide) (by decide) (by omega) (by omega)) ?_
            refine z_ldcS (j := 8) dL_isAs_101 sw_RL_134 ?_
            obtain ⟨q92, hq93, h⟩ := bnd h
            refine z_cGV (sJ4_append_15ec4K (nSB q87 2) 2 8 16 tb0 (Nat.le_of_ble_eq_true rfl) (by decide) (frU (frS hf rfl) rfl) hq93) dL_isAs_103 ml_L_136 cd_J4_append_15ec4 tb0.1 rfl rfl rfl (rq_o (by decide) (by decide) (by omega) (by omega)) rfl rfl (qi_N qv rfl) rfl rfl rfl ?_
            refine z_aload_n (i := 1) dL_isAs_106 rfl rfl ?_
            refine z_getRG (r' := (19, k, 0)) dL_isAs_107 fg_L_58 (owU owk).1 rfl rfl ?_
            refine z_iload (i := 6) dL_isAs_110 rfl ?_
            obtain ⟨hc94, h⟩ := chk h
            refine z_iald (x := (q92.1 (19, k, 0) v6.toNatClampNeg)) dL_isAs_112 ((owU owk).2.2 0 (Nat.le_of_ble_eq_true rfl)) rfl hc94 rfl ?_
            refine z_aload_n (i := 1) dL_isAs_113 rfl rfl ?_
            refine z_getRG (r' := (19, k, 1)) dL_isAs_114 fg_L_62 (owU owk).1 rfl rfl ?_
            refine z_iload (i := 6) dL_isAs_117 rfl ?_
            obtain ⟨hc95, h⟩ := chk h
            refine z_iald (x := (q92.1 (19, k, 1) v6.toNatClampNeg)) dL_isAs_119 ((owU owk).2.2 1 (Nat.le_of_ble_eq_true rfl)) rfl hc95 rfl ?_
            refine z_iadd dL_isAs_120 ?_
            obtain ⟨q96, hq97, h⟩ := bnd h
            refine z_cGV (sJ4_append_bf812 q92 2 ((q92.1 (19, k, 0) v6.toNatClampNeg) + (q92.1 (19, k, 1) v6.toNatClampNeg)) 16 tb0 (by decide) (frU (frS hf rfl) rfl) hq97) dL_isAs_121 ml_L_141 cd_J4_append_bf812 tb0.1 rfl rfl rfl (rq_o (by decide) (by decide) (by omega) (by omega)) rfl rfl (qi_N qv rfl) rfl rfl rfl ?_
            obtain ⟨q98, hq99, h⟩ := bnd h
            refine z_cGV (sJ4_toString q96 2 2 16 tb0 (by decide) (nd_st (frU (frS hf rfl) rfl)) hq99) dL_isAs_124 ml_L_83 cd_J4_toString_0e30d tb0.1 rfl rfl rfl (rq_o (by decide) (by decide) (by omega) (by omega)) rfl rfl (qi_N qv rfl) rfl rfl rfl ?_
            obtain ⟨q100, hq101, h⟩ := bnd h
            refine z_cGV (sJ4_append_15ec4M q98 1 2 70 (tbU (tbU tb1)) st0 (by decide) (frU (frU (frS hf rfl) rfl) rfl) hq101) dL_isAs_127 ml_L_136 cd_J4_append_15ec4 (tbU (tbU tb1)).1 rfl rfl rfl (rq_o (by decide) (by decide) (by omega) (by omega)) rfl rfl (qi_N qv rfl) rfl rfl rfl ?_
            refine z_pop dL_isAs_130 rfl ?_
            refine z_aload_n (i := 0) dL_isAs_131 rfl rfl ?_
            refine z_iload (i := 6) dL_isAs_132 rfl ?_
            obtain ⟨q102, hq103, h⟩ := bnd h
            refine z_fVi (sX9_soundingPitch q100 v6 hq103) dL_isAs_134 ml_L_144 cd_X9_soundingPitch mk0 rfl rfl rfl (rmk_r (by decide) (by decide) (by omega) (by omega)) rfl rfl ?_
            refine z_aload_n (i := 1) dL_isAs_137 rfl rfl ?_
            refine z_getRG (r' := (19, k, 0)) dL_isAs_138 fg_L_58 (owU (owU owk)).1 rfl rfl ?_
            refine z_iload (i := 6) dL_isAs_141 rfl ?_
            obtain ⟨hc104, h⟩ := chk h
            refine z_iald (x := (q102.2.1 (19, k, 0) v6.toNatClampNeg)) dL_isAs_143 ((owU (owU owk)).2.2 0 (Nat.le_of_ble_eq_true rfl)) rfl hc104 rfl ?_
            refine z_aload_n (i := 1) dL_isAs_144 rfl rfl ?_
            refine z_getRG (r' := (19, k, 1)) dL_isAs_145 fg_L_62 (owU (owU owk)).1 rfl rfl ?_
            refine z_iload (i := 6) dL_isAs_148 rfl ?_
            obtain ⟨hc105, h⟩ := chk h
            refine z_iald (x := (q102.2.1 (19, k, 1) v6.toNatClampNeg)) dL_isAs_150 ((owU (owU owk)).2.2 1 (Nat.le_of_ble_eq_true rfl)) rfl hc105 rfl ?_
            refine z_iadd dL_isAs_151 ?_
            refine z_icmp_ne (tgt := 248) dL_isAs_152 rfl (fun hc106 => ?_) (fun hc106 => ?_)
            · have h := it_f h hc106
              refine z_iconst (v := (0 : Int32)) dL_isAs_248 kc_0 ?_
              cases h
              refine z_sub (swU (swU hw)) ?_
              exact z_iret dL_isAs_249 rfl rfl (by omega) (by omega) ⟨rfl, rfl⟩
            · have h := it_t h hc106
              refine z_aload_n (i := 0) dL_isAs_155 rfl rfl ?_
              refine z_iload (i := 6) dL_isAs_156 rfl ?_
              obtain ⟨q107, hq108, h⟩ := bnd h
              refine z_fVi (sX9_bendOf q102.2 v6 hq108) dL_isAs_158 ml_L_147 cd_X9_bendOf mk0 rfl rfl rfl (rmk_r (by decide) (by decide) (by omega) (by omega)) rfl rfl ?_
              refine z_aload_n (i := 1) dL_isAs_161 rfl rfl ?_
              refine z_getRG (r' := (19, k, 1)) dL_isAs_162 fg_L_62 (owU (owU owk)).1 rfl rfl ?_
              refine z_iload (i := 6) dL_isAs_165 rfl ?_
              obtain ⟨hc109, h⟩ := chk h
              refine z_iald (x := (q107.2.1 (19, k, 1) v6.toNatClampNeg)) dL_isAs_167 ((owU (owU owk)).2.2 1 (Nat.le_of_ble_eq_true rfl)) rfl hc109 rfl ?_
              refine z_icmp_ne (tgt := 248) dL_isAs_168 rfl (fun hc110 => ?_) (fun hc110 => ?_)
              · have h := it_f h hc110
                refine z_iconst (v := (0 : Int32)) dL_isAs_248 kc_0 ?_
                cases h
                refine z_sub (swU (swU hw)) ?_
                exact z_iret dL_isAs_249 rfl rfl (by omega) (by omega) ⟨rfl, rfl⟩
              · have h := it_t h hc110
                refine z_aload_n (i := 0) dL_isAs_171 rfl rfl ?_
                refine z_iload (i := 6) dL_isAs_172 rfl ?_
                obtain ⟨q111, hq112, h⟩ := bnd h
                refine z_fVi (sX9_gap q107.2 v6 hq112) dL_isAs_174 ml_L_150 cd_X9_gap mk0 rfl rfl rfl (rmk_r (by decide) (by decide) (by omega) (by omega)) rfl rfl ?_
                refine z_aload_n (i := 1) dL_isAs_177 rfl rfl ?_
                refine z_getRG (r' := (19, k, 2)) dL_isAs_178 fg_L_153 (owU (owU owk)).1 rfl rfl ?_
                refine z_iload (i := 6) dL_isAs_181 rfl ?_
                obtain ⟨hc113, h⟩ := chk h
                refine z_iald (x := (q111.2.1 (19, k, 2) v6.toNatClampNeg)) dL_isAs_183 ((owU (owU owk)).2.2 2 (Nat.le_of_ble_eq_true rfl)) rfl hc113 rfl ?_
                refine z_icmp_ne (tgt := 248) dL_isAs_184 rfl (fun hc114 => ?_) (fun hc114 => ?_)
                · have h := it_f h hc114
                  refine z_iconst (v := (0 : Int32)) dL_isAs_248 kc_0 ?_
                  cases h
                  refine z_sub (swU (swU hw)) ?_
                  exact z_iret dL_isAs_249 rfl rfl (by omega) (by omega) ⟨rfl, rfl⟩
                · have h := it_t h hc114
                  refine z_aload_n (i := 0) dL_isAs_187 rfl rfl ?_
                  refine z_iload (i := 6) dL_isAs_188 rfl ?_
                  obtain ⟨q115, hq116, h⟩ := bnd h
                  refine z_fVi (sX9_wear q111.2 v6 hq116) dL_isAs_190 ml_L_155 cd_X9_wear mk0 rfl rfl rfl (rmk_r (by decide) (by decide) (by omega) (by omega)) rfl rfl ?_
                  refine z_aload_n (i := 1) dL_isAs_193 rfl rfl ?_
                  refine z_getRG (r' := (19, k, 4)) dL_isAs_194 fg_L_158 (owU (owU owk)).1 rfl rfl ?_
                  refine z_iload (i := 6) dL_isAs_197 rfl ?_
                  obtain ⟨hc117, h⟩ := chk h
                  refine z_iald (x := (q115.2.1 (19, k, 4) v6.toNatClampNeg)) dL_isAs_199 ((owU (owU owk)).2.2 4 (Nat.le_of_ble_eq_true rfl)) rfl hc117 rfl ?_
                  refine z_icmp_ne (tgt := 248) dL_isAs_200 rfl (fun hc118 => ?_) (fun hc118 => ?_)
                  · have h := it_f h hc118
                    refine z_iconst (v := (0 : Int32)) dL_isAs_248 kc_0 ?_
                    cases h
                    refine z_sub (swU (swU hw)) ?_
                    exact z_iret dL_isAs_249 rfl rfl (by omega) (by omega) ⟨rfl, rfl⟩
                  · have h := it_t h hc118
                    refine z_aload_n (i := 0) dL_isAs_203 rfl rfl ?_
                    refine z_iload (i := 6) dL_isAs_204 rfl ?_
                    obtain ⟨q119, hq120, h⟩ := bnd h
                    refine z_fVi (sX9_silence q115.2 v6 hq120) dL_isAs_206 ml_L_160 cd_X9_silence mk0 rfl rfl rfl (rmk_r (by decide) (by decide) (by omega) (by omega)) rfl rfl ?_
                    refine z_aload_n (i := 1) dL_isAs_209 rfl rfl ?_
                    refine z_iload (i := 6) dL_isAs_210 rfl ?_
                    obtain ⟨q121, hq122, h⟩ := bnd h
                    refine z_fVi (sX10_silence q119.2 k v6 (owU (owU owk)) hq122) dL_isAs_212 ml_L_163 cd_X10_silence (owU (owU owk)).1 rfl rfl rfl (rmk_r (by decide) (by decide) (by omega) (by omega)) rfl rfl ?_
                    refine z_icmp_ne (tgt := 248) dL_isAs_215 rfl (fun hc123 => ?_) (fun hc123 => ?_)
                    · have h := it_f h hc123
                      refine z_iconst (v := (0 : Int32)) dL_isAs_248 kc_0 ?_
                      cases h
                      refine z_sub (swU (swU hw)) ?_
                      exact z_iret dL_isAs_249 rfl rfl (by omega) (by omega) ⟨rfl, rfl⟩
                    · have h := it_t h hc123
                      refine z_aload_n (i := 0) dL_isAs_218 rfl rfl ?_
                      refine z_iload (i := 6) dL_isAs_219 rfl ?_
                      obtain ⟨q124, hq125, h⟩ := bnd h
                      refine z_fVi (sX9_isBroken q119.2 v6 hq125) dL_isAs_221 ml_L_164 cd_X9_isBroken mk0 rfl rfl rfl (rmk_r (by decide) (by decide) (by omega) (by omega)) rfl rfl ?_
                      refine z_aload_n (i := 1) dL_isAs_224 rfl rfl ?_
                      refine z_iload (i := 6) dL_isAs_225 rfl ?_
                      obtain ⟨q126, hq127, h⟩ := bnd h
                      refine z_fVi (sX10_isBad q124.2 k v6 (owU (owU owk)) hq127) dL_isAs_227 ml_L_128 cd_X10_isBad (owU (owU owk)).1 rfl rfl rfl (rmk_r (by decide) (by decide) (by omega) (by omega)) rfl rfl ?_
                      refine z_icmp_ne (tgt := 248) dL_isAs_230 rfl (fun hc128 => ?_) (fun hc128 => ?_)
                      · have h := it_f h hc128
                        refine z_iconst (v := (0 : Int32)) dL_isAs_248 kc_0 ?_
                        cases h
                        refine z_sub (swU (swU hw)) ?_
                        exact z_iret dL_isAs_249 rfl rfl (by omega) (by omega) ⟨rfl, rfl⟩
                      · have h := it_t h hc128
                        refine z_aload_n (i := 0) dL_isAs_233 rfl rfl ?_
                        refine z_iload (i := 6) dL_isAs_234 rfl ?_
                        obtain ⟨q129, hq130, h⟩ := bnd h
                        refine z_fVi (sX9_nextSound q124.2 v6 hq130) dL_isAs_236 ml_L_167 cd_X9_nextSound mk0 rfl rfl rfl (rmk_r (by decide) (by decide) (by omega) (by omega)) rfl rfl ?_
                        refine z_aload_n (i := 1) dL_isAs_239 rfl rfl ?_
                        refine z_iload (i := 6) dL_isAs_240 rfl ?_
                        obtain ⟨q131, hq132, h⟩ := bnd h
                        refine z_fVi (sX10_sound q129.2 k v6 (owU (owU owk)) hq132) dL_isAs_242 ml_L_170 cd_X10_sound (owU (owU owk)).1 rfl rfl rfl (rmk_r (by decide) (by decide) (by omega) (by omega)) rfl rfl ?_
                        refine z_icmp_eq (tgt := 250) dL_isAs_245 rfl (fun hc133 => ?_) (fun hc133 => ?_)
                        · have h := it_t h hc133
                          refine z_iinc (i := 6) (v := (v6 + (1 : Int32))) dL_isAs_250 rfl (iinc_k kc_1) (Nat.le_of_ble_eq_true rfl) rfl ?_
                          refine z_goto (tgt := 36) dL_isAs_253 rfl ?_
                          refine z_sub (swU swA) ?_
                          exact ih _ _ _ _ _ (by omega) (by omega) h hK
                        · have h := it_f h hc133
                          refine z_iconst (v := (0 : Int32)) dL_isAs_248 kc_0 ?_
                          cases h
                          refine z_sub (swU (swU hw)) ?_
                          exact z_iret dL_isAs_249 rfl rfl (by omega) (by omega) ⟨rfl, rfl⟩
          · have h := it_f h hc91
            refine z_ldcS (j := 9) dL_isAs_89 sw_RL_139 ?_
            refine z_goto (tgt := 127) dL_isAs_91 rfl ?_
            obtain ⟨q134, hq135, h⟩ := bnd h
            refine z_cGV (sJ4_append_15ec4K q87 1 9 70 tb1 (Nat.le_of_ble_eq_true rfl) (by decide) (frS hf rfl) hq135) dL_isAs_127 ml_L_136 cd_J4_append_15ec4 tb1.1 rfl rfl rfl (rq_o (by decide) (by decide) (by omega) (by omega)) rfl rfl (qi_N qv rfl) rfl rfl rfl ?_
            refine z_pop dL_isAs_130 rfl ?_
            refine z_aload_n (i := 0) dL_isAs_131 rfl rfl ?_
            refine z_iload (i := 6) dL_isAs_132 rfl ?_
            obtain ⟨q136, hq137, h⟩ := bnd h
            refine z_fVi (sX9_soundingPitch q134 v6 hq137) dL_isAs_134 ml_L_144 cd_X9_soundingPitch mk0 rfl rfl rfl (rmk_r (by decide) (by decide) (by omega) (by omega)) rfl rfl ?_
            refine z_aload_n (i := 1) dL_isAs_137 rfl rfl ?_
            refine z_getRG (r' := (19, k, 0)) dL_isAs_138 fg_L_58 owk.1 rfl rfl ?_
            refine z_iload (i := 6) dL_isAs_141 rfl ?_
            obtain ⟨hc138, h⟩ := chk h
            refine z_iald (x := (q136.2.1 (19, k, 0) v6.toNatClampNeg)) dL_isAs_143 (owk.2.2 0 (Nat.le_of_ble_eq_true rfl)) rfl hc138 rfl ?_
            refine z_aload_n (i := 1) dL_isAs_144 rfl rfl ?_
            refine z_getRG (r' := (19, k, 1)) dL_isAs_145 fg_L_62 owk.1 rfl rfl ?_
            refine z_iload (i := 6) dL_isAs_148 rfl ?_
            obtain ⟨hc139, h⟩ := chk h
            refine z_iald (x := (q136.2.1 (19, k, 1) v6.toNatClampNeg)) dL_isAs_150 (owk.2.2 1 (Nat.le_of_ble_eq_true rfl)) rfl hc139 rfl ?_
            refine z_iadd dL_isAs_151 ?_
            refine z_icmp_ne (tgt := 248) dL_isAs_152 rfl (fun hc140 => ?_) (fun hc140 => ?_)
            · have h := it_f h hc140
              refine z_iconst (v := (0 : Int32)) dL_isAs_248 kc_0 ?_
              cases h
              refine z_sub hw ?_
              exact z_iret dL_isAs_249 rfl rfl (by omega) (by omega) ⟨rfl, rfl⟩
            · have h := it_t h hc140
              refine z_aload_n (i := 0) dL_isAs_155 rfl rfl ?_
              refine z_iload (i := 6) dL_isAs_156 rfl ?_
              obtain ⟨q141, hq142, h⟩ := bnd h
              refine z_fVi (sX9_bendOf q136.2 v6 hq142) dL_isAs_158 ml_L_147 cd_X9_bendOf mk0 rfl rfl rfl (rmk_r (by decide) (by decide) (by omega) (by omega)) rfl rfl ?_
              refine z_aload_n (i := 1) dL_isAs_161 rfl rfl ?_
              refine z_getRG (r' := (19, k, 1)) dL_isAs_162 fg_L_62 owk.1 rfl rfl ?_
              refine z_iload (i := 6) dL_isAs_165 rfl ?_
              obtain ⟨hc143, h⟩ := chk h
              refine z_iald (x := (q141.2.1 (19, k, 1) v6.toNatClampNeg)) dL_isAs_167 (owk.2.2 1 (Nat.le_of_ble_eq_true rfl)) rfl hc143 rfl ?_
              refine z_icmp_ne (tgt := 248) dL_isAs_168 rfl (fun hc144 => ?_) (fun hc144 => ?_)
              · have h := it_f h hc144
                refine z_iconst (v := (0 : Int32)) dL_isAs_248 kc_0 ?_
                cases h
                refine z_sub hw ?_
                exact z_iret dL_isAs_249 rfl rfl (by omega) (by omega) ⟨rfl, rfl⟩
              · have h := it_t h hc144
                refine z_aload_n (i := 0) dL_isAs_171 rfl rfl ?_
                refine z_iload (i := 6) dL_isAs_172 rfl ?_
                obtain ⟨q145, hq146, h⟩ := bnd h
                refine z_fVi (sX9_gap q141.2 v6 hq146) dL_isAs_174 ml_L_150 cd_X9_gap mk0 rfl rfl rfl (rmk_r (by decide) (by decide) (by omega) (by omega)) rfl rfl ?_
                refine z_aload_n (i := 1) dL_isAs_177 rfl rfl ?_
                refine z_getRG (r' := (19, k, 2)) dL_isAs_178 fg_L_153 owk.1 rfl rfl ?_
                refine z_iload (i := 6) dL_isAs_181 rfl ?_
                obtain ⟨hc147, h⟩ := chk h
                refine z_iald (x := (q145.2.1 (19, k, 2) v6.toNatClampNeg)) dL_isAs_183 (owk.2.2 2 (Nat.le_of_ble_eq_true rfl)) rfl hc147 rfl ?_
                refine z_icmp_ne (tgt := 248) dL_isAs_184 rfl (fun hc148 => ?_) (fun hc148 => ?_)
                · have h := it_f h hc148
                  refine z_iconst (v := (0 : Int32)) dL_isAs_248 kc_0 ?_
                  cases h
                  refine z_sub hw ?_
                  exact z_iret dL_isAs_249 rfl rfl (by omega) (by omega) ⟨rfl, rfl⟩
                · have h := it_t h hc148
                  refine z_aload_n (i := 0) dL_isAs_187 rfl rfl ?_
                  refine z_iload (i := 6) dL_isAs_188 rfl ?_
                  obtain ⟨q149, hq150, h⟩ := bnd h
                  refine z_fVi (sX9_wear q145.2 v6 hq150) dL_isAs_190 ml_L_155 cd_X9_wear mk0 rfl rfl rfl (rmk_r (by decide) (by decide) (by omega) (by omega)) rfl rfl ?_
                  refine z_aload_n (i := 1) dL_isAs_193 rfl rfl ?_
                  refine z_getRG (r' := (19, k, 4)) dL_isAs_194 fg_L_158 owk.1 rfl rfl ?_
                  refine z_iload (i := 6) dL_isAs_197 rfl ?_
                  obtain ⟨hc151, h⟩ := chk h
                  refine z_iald (x := (q149.2.1 (19, k, 4) v6.toNatClampNeg)) dL_isAs_199 (owk.2.2 4 (Nat.le_of_ble_eq_true rfl)) rfl hc151 rfl ?_
                  refine z_icmp_ne (tgt := 248) dL_isAs_200 rfl (fun hc152 => ?_) (fun hc152 => ?_)
                  · have h := it_f h hc152
                    refine z_iconst (v := (0 : Int32)) dL_isAs_248 kc_0 ?_
                    cases h
                    refine z_sub hw ?_
                    exact z_iret dL_isAs_249 rfl rfl (by omega) (by omega) ⟨rfl, rfl⟩
                  · have h := it_t h hc152
                    refine z_aload_n (i := 0) dL_isAs_203 rfl rfl ?_
                    refine z_iload (i := 6) dL_isAs_204 rfl ?_
                    obtain ⟨q153, hq154, h⟩ := bnd h
                    refine z_fVi (sX9_silence q149.2 v6 hq154) dL_isAs_206 ml_L_160 cd_X9_silence mk0 rfl rfl rfl (rmk_r (by decide) (by decide) (by omega) (by omega)) rfl rfl ?_
                    refine z_aload_n (i := 1) dL_isAs_209 rfl rfl ?_
                    refine z_iload (i := 6) dL_isAs_210 rfl ?_
                    obtain ⟨q155, hq156, h⟩ := bnd h
                    refine z_fVi (sX10_silence q153.2 k v6 owk hq156) dL_isAs_212 ml_L_163 cd_X10_silence owk.1 rfl rfl rfl (rmk_r (by decide) (by decide) (by omega) (by omega)) rfl rfl ?_
                    refine z_icmp_ne (tgt := 248) dL_isAs_215 rfl (fun hc157 => ?_) (fun hc157 => ?_)
                    · have h := it_f h hc157
                      refine z_iconst (v := (0 : Int32)) dL_isAs_248 kc_0 ?_
                      cases h
                      refine z_sub hw ?_
                      exact z_iret dL_isAs_249 rfl rfl (by omega) (by omega) ⟨rfl, rfl⟩
                    · have h := it_t h hc157
                      refine z_aload_n (i := 0) dL_isAs_218 rfl rfl ?_
                      refine z_iload (i := 6) dL_isAs_219 rfl ?_
                      obtain ⟨q158, hq159, h⟩ := bnd h
                      refine z_fVi (sX9_isBroken q153.2 v6 hq159) dL_isAs_221 ml_L_164 cd_X9_isBroken mk0 rfl rfl rfl (rmk_r (by decide) (by decide) (by omega) (by omega)) rfl rfl ?_
                      refine z_aload_n (i := 1) dL_isAs_224 rfl rfl ?_
                      refine z_iload (i := 6) dL_isAs_225 rfl ?_
                      obtain ⟨q160, hq161, h⟩ := bnd h
                      refine z_fVi (sX10_isBad q158.2 k v6 owk hq161) dL_isAs_227 ml_L_128 cd_X10_isBad owk.1 rfl rfl rfl (rmk_r (by decide) (by decide) (by omega) (by omega)) rfl rfl ?_
                      refine z_icmp_ne (tgt := 248) dL_isAs_230 rfl (fun hc162 => ?_) (fun hc162 => ?_)
                      · have h := it_f h hc162
                        refine z_iconst (v := (0 : Int32)) dL_isAs_248 kc_0 ?_
                        cases h
                        refine z_sub hw ?_
                        exact z_iret dL_isAs_249 rfl rfl (by omega) (by omega) ⟨rfl, rfl⟩
                      · have h := it_t h hc162
                        refine z_aload_n (i := 0) dL_isAs_233 rfl rfl ?_
                        refine z_iload (i := 6) dL_isAs_234 rfl ?_
                        obtain ⟨q163, hq164, h⟩ := bnd h
                        refine z_fVi (sX9_nextSound q158.2 v6 hq164) dL_isAs_236 ml_L_167 cd_X9_nextSound mk0 rfl rfl rfl (rmk_r (by decide) (by decide) (by omega) (by omega)) rfl rfl ?_
                        refine z_aload_n (i := 1) dL_isAs_239 rfl rfl ?_
                        refine z_iload (i := 6) dL_isAs_240 rfl ?_
                        obtain ⟨q165, hq166, h⟩ := bnd h
                        refine z_fVi (sX10_sound q163.2 k v6 owk hq166) dL_isAs_242 ml_L_170 cd_X10_sound owk.1 rfl rfl rfl (rmk_r (by decide) (by decide) (by omega) (by omega)) rfl rfl ?_
                        refine z_icmp_eq (tgt := 250) dL_isAs_245 rfl (fun hc167 => ?_) (fun hc167 => ?_)
                        · have h := it_t h hc167
                          refine z_iinc (i := 6) (v := (v6 + (1 : Int32))) dL_isAs_250 rfl (iinc_k kc_1) (Nat.le_of_ble_eq_true rfl) rfl ?_
                          refine z_goto (tgt := 36) dL_isAs_253 rfl ?_
                          exact ih _ _ _ _ _ (by omega) (by omega) h hK
                        · have h := it_f h hc167
                          refine z_iconst (v := (0 : Int32)) dL_isAs_248 kc_0 ?_
                          cases h
                          refine z_sub hw ?_
                          exact z_iret dL_isAs_249 rfl rfl (by omega) (by omega) ⟨rfl, rfl⟩
      · have h := it_f h hc4
        refine z_iconst (v := (1 : Int32)) dL_isAs_56 kc_1 ?_
        refine z_goto (tgt := 61) dL_isAs_57 rfl ?_
        refine z_iadd dL_isAs_61 ?_
        refine z_istore (i := 4) dL_isAs_62 (Nat.le_of_ble_eq_true rfl) rfl ?_
        refine z_aload_n (i := 3) dL_isAs_64 rfl rfl ?_
        refine z_iload (i := 6) dL_isAs_65 rfl ?_
        refine z_if_le (tgt := 75) dL_isAs_67 rfl (fun hc168 => ?_) (fun hc168 => ?_)
        · have h := it_t h hc168
          refine z_ldcS (j := 8) dL_isAs_75 sw_RL_134 ?_
          obtain ⟨q169, hq170, h⟩ := bnd h
          refine z_cGV (sJ4_append_15ec4K M 1 8 70 tb1 (Nat.le_of_ble_eq_true rfl) (by decide) (frS hf rfl) hq170) dL_isAs_77 ml_L_136 cd_J4_append_15ec4 tb1.1 rfl rfl rfl (rq_o (by decide) (by decide) (by omega) (by omega)) rfl rfl (qi_N qv rfl) rfl rfl rfl ?_
          refine z_aload_n (i := 1) dL_isAs_80 rfl rfl ?_
          refine z_iload (i := 6) dL_isAs_81 rfl ?_
          obtain ⟨q171, hq172, h⟩ := bnd h
          refine z_fVi (sX10_isBad q169 k v6 owk hq172) dL_isAs_83 ml_L_128 cd_X10_isBad owk.1 rfl rfl rfl (rmk_r (by decide) (by decide) (by omega) (by omega)) rfl rfl ?_
          refine z_if_eq (tgt := 94) dL_isAs_86 rfl (fun hc173 => ?_) (fun hc173 => ?_)
          · have h := it_t h hc173
            refine z_nSB (z := 2) dL_isAs_94 dL_isAs_97 dL_isAs_98 nw_L_48 li_L_50 rfl (frS hf rfl) qv rfl rfl rfl (rq_o (by decide) (by decide) (by omega) (by omega)) ?_
            refine z_ldcS (j := 8) dL_isAs_101 sw_RL_134 ?_
            obtain ⟨q174, hq175, h⟩ := bnd h
            refine z_cGV (sJ4_append_15ec4K (nSB q169 2) 2 8 16 tb0 (Nat.le_of_ble_eq_true rfl) (by decide) (frU (frS hf rfl) rfl) hq175) dL_isAs_103 ml_L_136 cd_J4_append_15ec4 tb0.1 rfl rfl rfl (rq_o (by decide) (by decide) (by omega) (by omega)) rfl rfl (qi_N qv rfl) rfl rfl rfl ?_
            refine z_aload_n (i := 1) dL_isAs_106 rfl rfl ?_
            refine z_getRG (r' := (19, k, 0)) dL_isAs_107 fg_L_58 (owU owk).1 rfl rfl ?_
            refine z_iload (i := 6) dL_isAs_110 rfl ?_
            obtain ⟨hc176, h⟩ := chk h
            refine z_iald (x := (q174.1 (19, k, 0) v6.toNatClampNeg)) dL_isAs_112 ((owU owk).2.2 0 (Nat.le_of_ble_eq_true rfl)) rfl hc176 rfl ?_
            refine z_aload_n (i := 1) dL_isAs_113 rfl rfl ?_
            refine z_getRG (r' := (19, k, 1)) dL_isAs_114 fg_L_62 (owU owk).1 rfl rfl ?_
            refine z_iload (i := 6) dL_isAs_117 rfl ?_
            obtain ⟨hc177, h⟩ := chk h
            refine z_iald (x := (q174.1 (19, k, 1) v6.toNatClampNeg)) dL_isAs_119 ((owU owk).2.2 1 (Nat.le_of_ble_eq_true rfl)) rfl hc177 rfl ?_
            refine z_iadd dL_isAs_120 ?_
            obtain ⟨q178, hq179, h⟩ := bnd h
            refine z_cGV (sJ4_append_bf812 q174 2 ((q174.1 (19, k, 0) v6.toNatClampNeg) + (q174.1 (19, k, 1) v6.toNatClampNeg)) 16 tb0 (by decide) (frU (frS hf rfl) rfl) hq179) dL_isAs_121 ml_L_141 cd_J4_append_bf812 tb0.1 rfl rfl rfl (rq_o (by decide) (by decide) (by omega) (by omega)) rfl rfl (qi_N qv rfl) rfl rfl rfl ?_
            obtain ⟨q180, hq181, h⟩ := bnd h
            refine z_cGV (sJ4_toString q178 2 2 16 tb0 (by decide) (nd_st (frU (frS hf rfl) rfl)) hq181) dL_isAs_124 ml_L_83 cd_J4_toString_0e30d tb0.1 rfl rfl rfl (rq_o (by decide) (by decide) (by omega) (by omega)) rfl rfl (qi_N qv rfl) rfl rfl rfl ?_
            obtain ⟨q182, hq183, h⟩ := bnd h
            refine z_cGV (sJ4_append_15ec4M q180 1 2 70 (tbU (tbU tb1)) st0 (by decide) (frU (frU (frS hf rfl) rfl) rfl) hq183) dL_isAs_127 ml_L_136 cd_J4_append_15ec4 (tbU (tbU tb1)).1 rfl rfl rfl (rq_o (by decide) (by decide) (by omega) (by omega)) rfl rfl (qi_N qv rfl) rfl rfl rfl ?_
            refine z_pop dL_isAs_130 rfl ?_
            refine z_aload_n (i := 0) dL_isAs_131 rfl rfl ?_
            refine z_iload (i := 6) dL_isAs_132 rfl ?_
            obtain ⟨q184, hq185, h⟩ := bnd h
            refine z_fVi (sX9_soundingPitch q182 v6 hq185) dL_isAs_134 ml_L_144 cd_X9_soundingPitch mk0 rfl rfl rfl (rmk_r (by decide) (by decide) (by omega) (by omega)) rfl rfl ?_
            refine z_aload_n (i := 1) dL_isAs_137 rfl rfl ?_
            refine z_getRG (r' := (19, k, 0)) dL_isAs_138 fg_L_58 (owU (owU owk)).1 rfl rfl ?_
            refine z_iload (i := 6) dL_isAs_141 rfl ?_
            obtain ⟨hc186, h⟩ := chk h
            refine z_iald (x := (q184.2.1 (19, k, 0) v6.toNatClampNeg)) dL_isAs_143 ((owU (owU owk)).2.2 0 (Nat.le_of_ble_eq_true rfl)) rfl hc186 rfl ?_
            refine z_aload_n (i := 1) dL_isAs_144 rfl rfl ?_
            refine z_getRG (r' := (19, k, 1)) dL_isAs_145 fg_L_62 (owU (owU owk)).1 rfl rfl ?_
            refine z_iload (i := 6) dL_isAs_148 rfl ?_
            obtain ⟨hc187, h⟩ := chk h
            refine z_iald (x := (q184.2.1 (19, k, 1) v6.toNatClampNeg)) dL_isAs_150 ((owU (owU owk)).2.2 1 (Nat.le_of_ble_eq_true rfl)) rfl hc187 rfl ?_
            refine z_iadd dL_isAs_151 ?_
            refine z_icmp_ne (tgt := 248) dL_isAs_152 rfl (fun hc188 => ?_) (fun hc188 => ?_)
            · have h := it_f h hc188
              refine z_iconst (v := (0 : Int32)) dL_isAs_248 kc_0 ?_
              cases h
              refine z_sub (swU (swU hw)) ?_
              exact z_iret dL_isAs_249 rfl rfl (by omega) (by omega) ⟨rfl, rfl⟩
            · have h := it_t h hc188
              refine z_aload_n (i := 0) dL_isAs_155 rfl rfl ?_
              refine z_iload (i := 6) dL_isAs_156 rfl ?_
              obtain ⟨q189, hq190, h⟩ := bnd h
              refine z_fVi (sX9_bendOf q184.2 v6 hq190) dL_isAs_158 ml_L_147 cd_X9_bendOf mk0 rfl rfl rfl (rmk_r (by decide) (by decide) (by omega) (by omega)) rfl rfl ?_
              refine z_aload_n (i := 1) dL_isAs_161 rfl rfl ?_
              refine z_getRG (r' := (19, k, 1)) dL_isAs_162 fg_L_62 (owU (owU owk)).1 rfl rfl ?_
              refine z_iload (i := 6) dL_isAs_165 rfl ?_
              obtain ⟨hc191, h⟩ := chk h
              refine z_iald (x := (q189.2.1 (19, k, 1) v6.toNatClampNeg)) dL_isAs_167 ((owU (owU owk)).2.2 1 (Nat.le_of_ble_eq_true rfl)) rfl hc191 rfl ?_
              refine z_icmp_ne (tgt := 248) dL_isAs_168 rfl (fun hc192 => ?_) (fun hc192 => ?_)
              · have h := it_f h hc192
                refine z_iconst (v := (0 : Int32)) dL_isAs_248 kc_0 ?_
                cases h
                refine z_sub (swU (swU hw)) ?_
                exact z_iret dL_isAs_249 rfl rfl (by omega) (by omega) ⟨rfl, rfl⟩
              · have h := it_t h hc192
                refine z_aload_n (i := 0) dL_isAs_171 rfl rfl ?_
                refine z_iload (i := 6) dL_isAs_172 rfl ?_
                obtain ⟨q193, hq194, h⟩ := bnd h
                refine z_fVi (sX9_gap q189.2 v6 hq194) dL_isAs_174 ml_L_150 cd_X9_gap mk0 rfl rfl rfl (rmk_r (by decide) (by decide) (by omega) (by omega)) rfl rfl ?_
                refine z_aload_n (i := 1) dL_isAs_177 rfl rfl ?_
                refine z_getRG (r' := (19, k, 2)) dL_isAs_178 fg_L_153 (owU (owU owk)).1 rfl rfl ?_
                refine z_iload (i := 6) dL_isAs_181 rfl ?_
                obtain ⟨hc195, h⟩ := chk h
                refine z_iald (x := (q193.2.1 (19, k, 2) v6.toNatClampNeg)) dL_isAs_183 ((owU (owU owk)).2.2 2 (Nat.le_of_ble_eq_true rfl)) rfl hc195 rfl ?_
                refine z_icmp_ne (tgt := 248) dL_isAs_184 rfl (fun hc196 => ?_) (fun hc196 => ?_)
                · have h := it_f h hc196
                  refine z_iconst (v := (0 : Int32)) dL_isAs_248 kc_0 ?_
                  cases h
                  refine z_sub (swU (swU hw)) ?_
                  exact z_iret dL_isAs_249 rfl rfl (by omega) (by omega) ⟨rfl, rfl⟩
                · have h := it_t h hc196
                  refine z_aload_n (i := 0) dL_isAs_187 rfl rfl ?_
                  refine z_iload (i := 6) dL_isAs_188 rfl ?_
                  obtain ⟨q197, hq198, h⟩ := bnd h
                  refine z_fVi (sX9_wear q193.2 v6 hq198) dL_isAs_190 ml_L_155 cd_X9_wear mk0 rfl rfl rfl (rmk_r (by decide) (by decide) (by omega) (by omega)) rfl rfl ?_
                  refine z_aload_n (i := 1) dL_isAs_193 rfl rfl ?_
                  refine z_getRG (r' := (19, k, 4)) dL_isAs_194 fg_L_158 (owU (owU owk)).1 rfl rfl ?_
                  refine z_iload (i := 6) dL_isAs_197 rfl ?_
                  obtain ⟨hc199, h⟩ := chk h
                  refine z_iald (x := (q197.2.1 (19, k, 4) v6.toNatClampNeg)) dL_isAs_199 ((owU (owU owk)).2.2 4 (Nat.le_of_ble_eq_true rfl)) rfl hc199 rfl ?_
                  refine z_icmp_ne (tgt := 248) dL_isAs_200 rfl (fun hc200 => ?_) (fun hc200 => ?_)
                  · have h := it_f h hc200
                    refine z_iconst (v := (0 : Int32)) dL_isAs_248 kc_0 ?_
                    cases h
                    refine z_sub (swU (swU hw)) ?_
                    exact z_iret dL_isAs_249 rfl rfl (by omega) (by omega) ⟨rfl, rfl⟩
                  · have h := it_t h hc200
                    refine z_aload_n (i := 0) dL_isAs_203 rfl rfl ?_
                    refine z_iload (i := 6) dL_isAs_204 rfl ?_
                    obtain ⟨q201, hq202, h⟩ := bnd h
                    refine z_fVi (sX9_silence q197.2 v6 hq202) dL_isAs_206 ml_L_160 cd_X9_silence mk0 rfl rfl rfl (rmk_r (by decide) (by decide) (by omega) (by omega)) rfl rfl ?_
                    refine z_aload_n (i := 1) dL_isAs_209 rfl rfl ?_
                    refine z_iload (i := 6) dL_isAs_210 rfl ?_
                    obtain ⟨q203, hq204, h⟩ := bnd h
                    refine z_fVi (sX10_silence q201.2 k v6 (owU (owU owk)) hq204) dL_isAs_212 ml_L_163 cd_X10_silence (owU (owU owk)).1 rfl rfl rfl (rmk_r (by decide) (by decide) (by omega) (by omega)) rfl rfl ?_
                    refine z_icmp_ne (tgt := 248) dL_isAs_215 rfl (fun hc205 => ?_) (fun hc205 => ?_)
                    · have h := it_f h hc205
                      refine z_iconst (v := (0 : Int32)) dL_isAs_248 kc_0 ?_
                      cases h
                      refine z_sub (swU (swU hw)) ?_
                      exact z_iret dL_isAs_249 rfl rfl (by omega) (by omega) ⟨rfl, rfl⟩
                    · have h := it_t h hc205
                      refine z_aload_n (i := 0) dL_isAs_218 rfl rfl ?_
                      refine z_iload (i := 6) dL_isAs_219 rfl ?_
                      obtain ⟨q206, hq207, h⟩ := bnd h
                      refine z_fVi (sX9_isBroken q201.2 v6 hq207) dL_isAs_221 ml_L_164 cd_X9_isBroken mk0 rfl rfl rfl (rmk_r (by decide) (by decide) (by omega) (by omega)) rfl rfl ?_
                      refine z_aload_n (i := 1) dL_isAs_224 rfl rfl ?_
                      refine z_iload (i := 6) dL_isAs_225 rfl ?_
                      obtain ⟨q208, hq209, h⟩ := bnd h
                      refine z_fVi (sX10_isBad q206.2 k v6 (owU (owU owk)) hq209) dL_isAs_227 ml_L_128 cd_X10_isBad (owU (owU owk)).1 rfl rfl rfl (rmk_r (by decide) (by decide) (by omega) (by omega)) rfl rfl ?_
                      refine z_icmp_ne (tgt := 248) dL_isAs_230 rfl (fun hc210 => ?_) (fun hc210 => ?_)
                      · have h := it_f h hc210
                        refine z_iconst (v := (0 : Int32)) dL_isAs_248 kc_0 ?_
                        cases h
                        refine z_sub (swU (swU hw)) ?_
                        exact z_iret dL_isAs_249 rfl rfl (by omega) (by omega) ⟨rfl, rfl⟩
                      · have h := it_t h hc210
                        refine z_aload_n (i := 0) dL_isAs_233 rfl rfl ?_
                        refine z_iload (i := 6) dL_isAs_234 rfl ?_
                        obtain ⟨q211, hq212, h⟩ := bnd h
                        refine z_fVi (sX9_nextSound q206.2 v6 hq212) dL_isAs_236 ml_L_167 cd_X9_nextSound mk0 rfl rfl rfl (rmk_r (by decide) (by decide) (by omega) (by omega)) rfl rfl ?_
                        refine z_aload_n (i := 1) dL_isAs_239 rfl rfl ?_
                        refine z_iload (i := 6) dL_isAs_240 rfl ?_
                        obtain ⟨q213, hq214, h⟩ := bnd h
                        refine z_fVi (sX10_sound q211.2 k v6 (owU (owU owk)) hq214) dL_isAs_242 ml_L_170 cd_X10_sound (owU (owU owk)).1 rfl rfl rfl (rmk_r (by decide) (by decide) (by omega) (by omega)) rfl rfl ?_
                        refine z_icmp_eq (tgt := 250) dL_isAs_245 rfl (fun hc215 => ?_) (fun hc215 => ?_)
                        · have h := it_t h hc215
                          refine z_iinc (i := 6) (v := (v6 + (1 : Int32))) dL_isAs_250 rfl (iinc_k kc_1) (Nat.le_of_ble_eq_true rfl) rfl ?_
                          refine z_goto (tgt := 36) dL_isAs_253 rfl ?_
                          refine z_sub (swU swA) ?_
                          exact ih _ _ _ _ _ (by omega) (by omega) h hK
                        · have h := it_f h hc215
                          refine z_iconst (v := (0 : Int32)) dL_isAs_248 kc_0 ?_
                          cases h
                          refine z_sub (swU (swU hw)) ?_
                          exact z_iret dL_isAs_249 rfl rfl (by omega) (by omega) ⟨rfl, rfl⟩
          · have h := it_f h hc173
            refine z_ldcS (j := 9) dL_isAs_89 sw_RL_139 ?_
            refine z_goto (tgt := 127) dL_isAs_91 rfl ?_
            obtain ⟨q216, hq217, h⟩ := bnd h
            refine z_cGV (sJ4_append_15ec4K q169 1 9 70 tb1 (Nat.le_of_ble_eq_true rfl) (by decide) (frS hf rfl) hq217) dL_isAs_127 ml_L_136 cd_J4_append_15ec4 tb1.1 rfl rfl rfl (rq_o (by decide) (by decide) (by omega) (by omega)) rfl rfl (qi_N qv rfl) rfl rfl rfl ?_
            refine z_pop dL_isAs_130 rfl ?_
            refine z_aload_n (i := 0) dL_isAs_131 rfl rfl ?_
            refine z_iload (i := 6) dL_isAs_132 rfl ?_
            obtain ⟨q218, hq219, h⟩ := bnd h
            refine z_fVi (sX9_soundingPitch q216 v6 hq219) dL_isAs_134 ml_L_144 cd_X9_soundingPitch mk0 rfl rfl rfl (rmk_r (by decide) (by decide) (by omega) (by omega)) rfl rfl ?_
            refine z_aload_n (i := 1) dL_isAs_137 rfl rfl ?_
            refine z_getRG (r' := (19, k, 0)) dL_isAs_138 fg_L_58 owk.1 rfl rfl ?_
            refine z_iload (i := 6) dL_isAs_141 rfl ?_
            obtain ⟨hc220, h⟩ := chk h
            refine z_iald (x := (q218.2.1 (19, k, 0) v6.toNatClampNeg)) dL_isAs_143 (owk.2.2 0 (Nat.le_of_ble_eq_true rfl)) rfl hc220 rfl ?_
            refine z_aload_n (i := 1) dL_isAs_144 rfl rfl ?_
            refine z_getRG (r' := (19, k, 1)) dL_isAs_145 fg_L_62 owk.1 rfl rfl ?_
            refine z_iload (i := 6) dL_isAs_148 rfl ?_
            obtain ⟨hc221, h⟩ := chk h
            refine z_iald (x := (q218.2.1 (19, k, 1) v6.toNatClampNeg)) dL_isAs_150 (owk.2.2 1 (Nat.le_of_ble_eq_true rfl)) rfl hc221 rfl ?_
            refine z_iadd dL_isAs_151 ?_
            refine z_icmp_ne (tgt := 248) dL_isAs_152 rfl (fun hc222 => ?_) (fun hc222 => ?_)
            · have h := it_f h hc222
              refine z_iconst (v := (0 : Int32)) dL_isAs_248 kc_0 ?_
              cases h
              refine z_sub hw ?_
              exact z_iret dL_isAs_249 rfl rfl (by omega) (by omega) ⟨rfl, rfl⟩
            · have h := it_t h hc222
              refine z_aload_n (i := 0) dL_isAs_155 rfl rfl ?_
              refine z_iload (i := 6) dL_isAs_156 rfl ?_
              obtain ⟨q223, hq224, h⟩ := bnd h
              refine z_fVi (sX9_bendOf q218.2 v6 hq224) dL_isAs_158 ml_L_147 cd_X9_bendOf mk0 rfl rfl rfl (rmk_r (by decide) (by decide) (by omega) (by omega)) rfl rfl ?_
              refine z_aload_n (i := 1) dL_isAs_161 rfl rfl ?_
              refine z_getRG (r' := (19, k, 1)) dL_isAs_162 fg_L_62 owk.1 rfl rfl ?_
              refine z_iload (i := 6) dL_isAs_165 rfl ?_
              obtain ⟨hc225, h⟩ := chk h
              refine z_iald (x := (q223.2.1 (19, k, 1) v6.toNatClampNeg)) dL_isAs_167 (owk.2.2 1 (Nat.le_of_ble_eq_true rfl)) rfl hc225 rfl ?_
              refine z_icmp_ne (tgt := 248) dL_isAs_168 rfl (fun hc226 => ?_) (fun hc226 => ?_)
              · have h := it_f h hc226
                refine z_iconst (v := (0 : Int32)) dL_isAs_248 kc_0 ?_
                cases h
                refine z_sub hw ?_
                exact z_iret dL_isAs_249 rfl rfl (by omega) (by omega) ⟨rfl, rfl⟩
              · have h := it_t h hc226
                refine z_aload_n (i := 0) dL_isAs_171 rfl rfl ?_
                refine z_iload (i := 6) dL_isAs_172 rfl ?_
                obtain ⟨q227, hq228, h⟩ := bnd h
                refine z_fVi (sX9_gap q223.2 v6 hq228) dL_isAs_174 ml_L_150 cd_X9_gap mk0 rfl rfl rfl (rmk_r (by decide) (by decide) (by omega) (by omega)) rfl rfl ?_
                refine z_aload_n (i := 1) dL_isAs_177 rfl rfl ?_
                refine z_getRG (r' := (19, k, 2)) dL_isAs_178 fg_L_153 owk.1 rfl rfl ?_
                refine z_iload (i := 6) dL_isAs_181 rfl ?_
                obtain ⟨hc229, h⟩ := chk h
                refine z_iald (x := (q227.2.1 (19, k, 2) v6.toNatClampNeg)) dL_isAs_183 (owk.2.2 2 (Nat.le_of_ble_eq_true rfl)) rfl hc229 rfl ?_
                refine z_icmp_ne (tgt := 248) dL_isAs_184 rfl (fun hc230 => ?_) (fun hc230 => ?_)
                · have h := it_f h hc230
                  refine z_iconst (v := (0 : Int32)) dL_isAs_248 kc_0 ?_
                  cases h
                  refine z_sub hw ?_
                  exact z_iret dL_isAs_249 rfl rfl (by omega) (by omega) ⟨rfl, rfl⟩
                · have h := it_t h hc230
                  refine z_aload_n (i := 0) dL_isAs_187 rfl rfl ?_
                  refine z_iload (i := 6) dL_isAs_188 rfl ?_
                  obtain ⟨q231, hq232, h⟩ := bnd h
                  refine z_fVi (sX9_wear q227.2 v6 hq232) dL_isAs_190 ml_L_155 cd_X9_wear mk0 rfl rfl rfl (rmk_r (by decide) (by decide) (by omega) (by omega)) rfl rfl ?_
                  refine z_aload_n (i := 1) dL_isAs_193 rfl rfl ?_
                  refine z_getRG (r' := (19, k, 4)) dL_isAs_194 fg_L_158 owk.1 rfl rfl ?_
                  refine z_iload (i := 6) dL_isAs_197 rfl ?_
                  obtain ⟨hc233, h⟩ := chk h
                  refine z_iald (x := (q231.2.1 (19, k, 4) v6.toNatClampNeg)) dL_isAs_199 (owk.2.2 4 (Nat.le_of_ble_eq_true rfl)) rfl hc233 rfl ?_
                  refine z_icmp_ne (tgt := 248) dL_isAs_200 rfl (fun hc234 => ?_) (fun hc234 => ?_)
                  · have h := it_f h hc234
                    refine z_iconst (v := (0 : Int32)) dL_isAs_248 kc_0 ?_
                    cases h
                    refine z_sub hw ?_
                    exact z_iret dL_isAs_249 rfl rfl (by omega) (by omega) ⟨rfl, rfl⟩
                  · have h := it_t h hc234
                    refine z_aload_n (i := 0) dL_isAs_203 rfl rfl ?_
                    refine z_iload (i := 6) dL_isAs_204 rfl ?_
                    obtain ⟨q235, hq236, h⟩ := bnd h
                    refine z_fVi (sX9_silence q231.2 v6 hq236) dL_isAs_206 ml_L_160 cd_X9_silence mk0 rfl rfl rfl (rmk_r (by decide) (by decide) (by omega) (by omega)) rfl rfl ?_
                    refine z_aload_n (i := 1) dL_isAs_209 rfl rfl ?_
                    refine z_iload (i := 6) dL_isAs_210 rfl ?_
                    obtain ⟨q237, hq238, h⟩ := bnd h
                    refine z_fVi (sX10_silence q235.2 k v6 owk hq238) dL_isAs_212 ml_L_163 cd_X10_silence owk.1 rfl rfl rfl (rmk_r (by decide) (by decide) (by omega) (by omega)) rfl rfl ?_
                    refine z_icmp_ne (tgt := 248) dL_isAs_215 rfl (fun hc239 => ?_) (fun hc239 => ?_)
                    · have h := it_f h hc239
                      refine z_iconst (v := (0 : Int32)) dL_isAs_248 kc_0 ?_
                      cases h
                      refine z_sub hw ?_
                      exact z_iret dL_isAs_249 rfl rfl (by omega) (by omega) ⟨rfl, rfl⟩
                    · have h := it_t h hc239
                      refine z_aload_n (i := 0) dL_isAs_218 rfl rfl ?_
                      refine z_iload (i := 6) dL_isAs_219 rfl ?_
                      obtain ⟨q240, hq241, h⟩ := bnd h
                      refine z_fVi (sX9_isBroken q235.2 v6 hq241) dL_isAs_221 ml_L_164 cd_X9_isBroken mk0 rfl rfl rfl (rmk_r (by decide) (by decide) (by omega) (by omega)) rfl rfl ?_
                      refine z_aload_n (i := 1) dL_isAs_224 rfl rfl ?_
                      refine z_iload (i := 6) dL_isAs_225 rfl ?_
                      obtain ⟨q242, hq243, h⟩ := bnd h
                      refine z_fVi (sX10_isBad q240.2 k v6 owk hq243) dL_isAs_227 ml_L_128 cd_X10_isBad owk.1 rfl rfl rfl (rmk_r (by decide) (by decide) (by omega) (by omega)) rfl rfl ?_
                      refine z_icmp_ne (tgt := 248) dL_isAs_230 rfl (fun hc244 => ?_) (fun hc244 => ?_)
                      · have h := it_f h hc244
                        refine z_iconst (v := (0 : Int32)) dL_isAs_248 kc_0 ?_
                        cases h
                        refine z_sub hw ?_
                        exact z_iret dL_isAs_249 rfl rfl (by omega) (by omega) ⟨rfl, rfl⟩
                      · have h := it_t h hc244
                        refine z_aload_n (i := 0) dL_isAs_233 rfl rfl ?_
                        refine z_iload (i := 6) dL_isAs_234 rfl ?_
                        obtain ⟨q245, hq246, h⟩ := bnd h
                        refine z_fVi (sX9_nextSound q240.2 v6 hq246) dL_isAs_236 ml_L_167 cd_X9_nextSound mk0 rfl rfl rfl (rmk_r (by decide) (by decide) (by omega) (by omega)) rfl rfl ?_
                        refine z_aload_n (i := 1) dL_isAs_239 rfl rfl ?_
                        refine z_iload (i := 6) dL_isAs_240 rfl ?_
                        obtain ⟨q247, hq248, h⟩ := bnd h
                        refine z_fVi (sX10_sound q245.2 k v6 owk hq248) dL_isAs_242 ml_L_170 cd_X10_sound owk.1 rfl rfl rfl (rmk_r (by decide) (by decide) (by omega) (by omega)) rfl rfl ?_
                        refine z_icmp_eq (tgt := 250) dL_isAs_245 rfl (fun hc249 => ?_) (fun hc249 => ?_)
                        · have h := it_t h hc249
                          refine z_iinc (i := 6) (v := (v6 + (1 : Int32))) dL_isAs_250 rfl (iinc_k kc_1) (Nat.le_of_ble_eq_true rfl) rfl ?_
                          refine z_goto (tgt := 36) dL_isAs_253 rfl ?_
                          exact ih _ _ _ _ _ (by omega) (by omega) h hK
                        · have h := it_f h hc249
                          refine z_iconst (v := (0 : Int32)) dL_isAs_248 kc_0 ?_
                          cases h
                          refine z_sub hw ?_
                          exact z_iret dL_isAs_249 rfl rfl (by omega) (by omega) ⟨rfl, rfl⟩
        · have h := it_f h hc168
          refine z_ldcS (j := 7) dL_isAs_70 sw_RL_132 ?_
          refine z_goto (tgt := 77) dL_isAs_72 rfl ?_
          obtain ⟨q250, hq251, h⟩ := bnd h
          refine z_cGV (sJ4_append_15ec4K M 1 7 70 tb1 (Nat.le_of_ble_eq_true rfl) (by decide) (frS hf rfl) hq251) dL_isAs_77 ml_L_136 cd_J4_append_15ec4 tb1.1 rfl rfl rfl (rq_o (by decide) (by decide) (by omega) (by omega)) rfl rfl (qi_N qv rfl) rfl rfl rfl ?_
          refine z_aload_n (i := 1) dL_isAs_80 rfl rfl ?_
          refine z_iload (i := 6) dL_isAs_81 rfl ?_
          obtain ⟨q252, hq253, h⟩ := bnd h
          refine z_fVi (sX10_isBad q250 k v6 owk hq253) dL_isAs_83 ml_L_128 cd_X10_isBad owk.1 rfl rfl rfl (rmk_r (by decide) (by decide) (by omega) (by omega)) rfl rfl ?_
          refine z_if_eq (tgt := 94) dL_isAs_86 rfl (fun hc254 => ?_) (fun hc254 => ?_)
          · have h := it_t h hc254
            refine z_nSB (z := 2) dL_isAs_94 dL_isAs_97 dL_isAs_98 nw_L_48 li_L_50 rfl (frS hf rfl) qv rfl rfl rfl (rq_o (by decide) (by decide) (by omega) (by omega)) ?_
            refine z_ldcS (j := 8) dL_isAs_101 sw_RL_134 ?_
            obtain ⟨q255, hq256, h⟩ := bnd h
            refine z_cGV (sJ4_append_15ec4K (nSB q250 2) 2 8 16 tb0 (Nat.le_of_ble_eq_true rfl) (by decide) (frU (frS hf rfl) rfl) hq256) dL_isAs_103 ml_L_136 cd_J4_append_15ec4 tb0.1 rfl rfl rfl (rq_o (by decide) (by decide) (by omega) (by omega)) rfl rfl (qi_N qv rfl) rfl rfl rfl ?_
            refine z_aload_n (i := 1) dL_isAs_106 rfl rfl ?_
            refine z_getRG (r' := (19, k, 0)) dL_isAs_107 fg_L_58 (owU owk).1 rfl rfl ?_
            refine z_iload (i := 6) dL_isAs_110 rfl ?_
            obtain ⟨hc257, h⟩ := chk h
            refine z_iald (x := (q255.1 (19, k, 0) v6.toNatClampNeg)) dL_isAs_112 ((owU owk).2.2 0 (Nat.le_of_ble_eq_true rfl)) rfl hc257 rfl ?_
            refine z_aload_n (i := 1) dL_isAs_113 rfl rfl ?_
            refine z_getRG (r' := (19, k, 1)) dL_isAs_114 fg_L_62 (owU owk).1 rfl rfl ?_
            refine z_iload (i := 6) dL_isAs_117 rfl ?_
            obtain ⟨hc258, h⟩ := chk h
            refine z_iald (x := (q255.1 (19, k, 1) v6.toNatClampNeg)) dL_isAs_119 ((owU owk).2.2 1 (Nat.le_of_ble_eq_true rfl)) rfl hc258 rfl ?_
            refine z_iadd dL_isAs_120 ?_
            obtain ⟨q259, hq260, h⟩ := bnd h
            refine z_cGV (sJ4_append_bf812 q255 2 ((q255.1 (19, k, 0) v6.toNatClampNeg) + (q255.1 (19, k, 1) v6.toNatClampNeg)) 16 tb0 (by decide) (frU (frS hf rfl) rfl) hq260) dL_isAs_121 ml_L_141 cd_J4_append_bf812 tb0.1 rfl rfl rfl (rq_o (by decide) (by decide) (by omega) (by omega)) rfl rfl (qi_N qv rfl) rfl rfl rfl ?_
            obtain ⟨q261, hq262, h⟩ := bnd h
            refine z_cGV (sJ4_toString q259 2 2 16 tb0 (by decide) (nd_st (frU (frS hf rfl) rfl)) hq262) dL_isAs_124 ml_L_83 cd_J4_toString_0e30d tb0.1 rfl rfl rfl (rq_o (by decide) (by decide) (by omega) (by omega)) rfl rfl (qi_N qv rfl) rfl rfl rfl ?_
            obtain ⟨q263, hq264, h⟩ := bnd h
            refine z_cGV (sJ4_append_15ec4M q261 1 2 70 (tbU (tbU tb1)) st0 (by decide) (frU (frU (frS hf rfl) rfl) rfl) hq264) dL_isAs_127 ml_L_136 cd_J4_append_15ec4 (tbU (tbU tb1)).1 rfl rfl rfl (rq_o (by decide) (by decide) (by omega) (by omega)) rfl rfl (qi_N qv rfl) rfl rfl rfl ?_
            refine z_pop dL_isAs_130 rfl ?_
            refine z_aload_n (i := 0) dL_isAs_131 rfl rfl ?_
            refine z_iload (i := 6) dL_isAs_132 rfl ?_
            obtain ⟨q265, hq266, h⟩ := bnd h
            refine z_fVi (sX9_soundingPitch q263 v6 hq266) dL_isAs_134 ml_L_144 cd_X9_soundingPitch mk0 rfl rfl rfl (rmk_r (by decide) (by decide) (by omega) (by omega)) rfl rfl ?_
            refine z_aload_n (i := 1) dL_isAs_137 rfl rfl ?_
            refine z_getRG (r' := (19, k, 0)) dL_isAs_138 fg_L_58 (owU (owU owk)).1 rfl rfl ?_
            refine z_iload (i := 6) dL_isAs_141 rfl ?_
            obtain ⟨hc267, h⟩ := chk h
            refine z_iald (x := (q265.2.1 (19, k, 0) v6.toNatClampNeg)) dL_isAs_143 ((owU (owU owk)).2.2 0 (Nat.le_of_ble_eq_true rfl)) rfl hc267 rfl ?_
            refine z_aload_n (i := 1) dL_isAs_144 rfl rfl ?_
            refine z_getRG (r' := (19, k, 1)) dL_isAs_145 fg_L_62 (owU (owU owk)).1 rfl rfl ?_
            refine z_iload (i := 6) dL_isAs_148 rfl ?_
            obtain ⟨hc268, h⟩ := chk h
            refine z_iald (x := (q265.2.1 (19, k, 1) v6.toNatClampNeg)) dL_isAs_150 ((owU (owU owk)).2.2 1 (Nat.le_of_ble_eq_true rfl)) rfl hc268 rfl ?_
            refine z_iadd dL_isAs_151 ?_
            refine z_icmp_ne (tgt := 248) dL_isAs_152 rfl (fun hc269 => ?_) (fun hc269 => ?_)
            · have h := it_f h hc269
              refine z_iconst (v := (0 : Int32)) dL_isAs_248 kc_0 ?_
              cases h
              refine z_sub (swU (swU hw)) ?_
              exact z_iret dL_isAs_249 rfl rfl (by omega) (by omega) ⟨rfl, rfl⟩
            · have h := it_t h hc269
              refine z_aload_n (i := 0) dL_isAs_155 rfl rfl ?_
              refine z_iload (i := 6) dL_isAs_156 rfl ?_
              obtain ⟨q270, hq271, h⟩ := bnd h
              refine z_fVi (sX9_bendOf q265.2 v6 hq271) dL_isAs_158 ml_L_147 cd_X9_bendOf mk0 rfl rfl rfl (rmk_r (by decide) (by decide) (by omega) (by omega)) rfl rfl ?_
              refine z_aload_n (i := 1) dL_isAs_161 rfl rfl ?_
              refine z_getRG (r' := (19, k, 1)) dL_isAs_162 fg_L_62 (owU (owU owk)).1 rfl rfl ?_
              refine z_iload (i := 6) dL_isAs_165 rfl ?_
              obtain ⟨hc272, h⟩ := chk h
              refine z_iald (x := (q270.2.1 (19, k, 1) v6.toNatClampNeg)) dL_isAs_167 ((owU (owU owk)).2.2 1 (Nat.le_of_ble_eq_true rfl)) rfl hc272 rfl ?_
              refine z_icmp_ne (tgt := 248) dL_isAs_168 rfl (fun hc273 => ?_) (fun hc273 => ?_)
              · have h := it_f h hc273
                refine z_iconst (v := (0 : Int32)) dL_isAs_248 kc_0 ?_
                cases h
                refine z_sub (swU (swU hw)) ?_
                exact z_iret dL_isAs_249 rfl rfl (by omega) (by omega) ⟨rfl, rfl⟩
              · have h := it_t h hc273
                refine z_aload_n (i := 0) dL_isAs_171 rfl rfl ?_
                refine z_iload (i := 6) dL_isAs_172 rfl ?_
                obtain ⟨q274, hq275, h⟩ := bnd h
                refine z_fVi (sX9_gap q270.2 v6 hq275) dL_isAs_174 ml_L_150 cd_X9_gap mk0 rfl rfl rfl (rmk_r (by decide) (by decide) (by omega) (by omega)) rfl rfl ?_
                refine z_aload_n (i := 1) dL_isAs_177 rfl rfl ?_
                refine z_getRG (r' := (19, k, 2)) dL_isAs_178 fg_L_153 (owU (owU owk)).1 rfl rfl ?_
                refine z_iload (i := 6) dL_isAs_181 rfl ?_
                obtain ⟨hc276, h⟩ := chk h
                refine z_iald (x := (q274.2.1 (19, k, 2) v6.toNatClampNeg)) dL_isAs_183 ((owU (owU owk)).2.2 2 (Nat.le_of_ble_eq_true rfl)) rfl hc276 rfl ?_
                refine z_icmp_ne (tgt := 248) dL_isAs_184 rfl (fun hc277 => ?_) (fun hc277 => ?_)
                · have h := it_f h hc277
                  refine z_iconst (v := (0 : Int32)) dL_isAs_248 kc_0 ?_
                  cases h
                  refine z_sub (swU (swU hw)) ?_
                  exact z_iret dL_isAs_249 rfl rfl (by omega) (by omega) ⟨rfl, rfl⟩
                · have h := it_t h hc277
                  refine z_aload_n (i := 0) dL_isAs_187 rfl rfl ?_
                  refine z_iload (i := 6) dL_isAs_188 rfl ?_
                  obtain ⟨q278, hq279, h⟩ := bnd h
                  refine z_fVi (sX9_wear q274.2 v6 hq279) dL_isAs_190 ml_L_155 cd_X9_wear mk0 rfl rfl rfl (rmk_r (by decide) (by decide) (by omega) (by omega)) rfl rfl ?_
                  refine z_aload_n (i := 1) dL_isAs_193 rfl rfl ?_
                  refine z_getRG (r' := (19, k, 4)) dL_isAs_194 fg_L_158 (owU (owU owk)).1 rfl rfl ?_
                  refine z_iload (i := 6) dL_isAs_197 rfl ?_
                  obtain ⟨hc280, h⟩ := chk h
                  refine z_iald (x := (q278.2.1 (19, k, 4) v6.toNatClampNeg)) dL_isAs_199 ((owU (owU owk)).2.2 4 (Nat.le_of_ble_eq_true rfl)) rfl hc280 rfl ?_
                  refine z_icmp_ne (tgt := 248) dL_isAs_200 rfl (fun hc281 => ?_) (fun hc281 => ?_)
                  · have h := it_f h hc281
                    refine z_iconst (v := (0 : Int32)) dL_isAs_248 kc_0 ?_
                    cases h
                    refine z_sub (swU (swU hw)) ?_
                    exact z_iret dL_isAs_249 rfl rfl (by omega) (by omega) ⟨rfl, rfl⟩
                  · have h := it_t h hc281
                    refine z_aload_n (i := 0) dL_isAs_203 rfl rfl ?_
                    refine z_iload (i := 6) dL_isAs_204 rfl ?_
                    obtain ⟨q282, hq283, h⟩ := bnd h
                    refine z_fVi (sX9_silence q278.2 v6 hq283) dL_isAs_206 ml_L_160 cd_X9_silence mk0 rfl rfl rfl (rmk_r (by decide) (by decide) (by omega) (by omega)) rfl rfl ?_
                    refine z_aload_n (i := 1) dL_isAs_209 rfl rfl ?_
                    refine z_iload (i := 6) dL_isAs_210 rfl ?_
                    obtain ⟨q284, hq285, h⟩ := bnd h
                    refine z_fVi (sX10_silence q282.2 k v6 (owU (owU owk)) hq285) dL_isAs_212 ml_L_163 cd_X10_silence (owU (owU owk)).1 rfl rfl rfl (rmk_r (by decide) (by decide) (by omega) (by omega)) rfl rfl ?_
                    refine z_icmp_ne (tgt := 248) dL_isAs_215 rfl (fun hc286 => ?_) (fun hc286 => ?_)
                    · have h := it_f h hc286
                      refine z_iconst (v := (0 : Int32)) dL_isAs_248 kc_0 ?_
                      cases h
                      refine z_sub (swU (swU hw)) ?_
                      exact z_iret dL_isAs_249 rfl rfl (by omega) (by omega) ⟨rfl, rfl⟩
                    · have h := it_t h hc286
                      refine z_aload_n (i := 0) dL_isAs_218 rfl rfl ?_
                      refine z_iload (i := 6) dL_isAs_219 rfl ?_
                      obtain ⟨q287, hq288, h⟩ := bnd h
                      refine z_fVi (sX9_isBroken q282.2 v6 hq288) dL_isAs_221 ml_L_164 cd_X9_isBroken mk0 rfl rfl rfl (rmk_r (by decide) (by decide) (by omega) (by omega)) rfl rfl ?_
                      refine z_aload_n (i := 1) dL_isAs_224 rfl rfl ?_
                      refine z_iload (i := 6) dL_isAs_225 rfl ?_
                      obtain ⟨q289, hq290, h⟩ := bnd h
                      refine z_fVi (sX10_isBad q287.2 k v6 (owU (owU owk)) hq290) dL_isAs_227 ml_L_128 cd_X10_isBad (owU (owU owk)).1 rfl rfl rfl (rmk_r (by decide) (by decide) (by omega) (by omega)) rfl rfl ?_
                      refine z_icmp_ne (tgt := 248) dL_isAs_230 rfl (fun hc291 => ?_) (fun hc291 => ?_)
                      · have h := it_f h hc291
                        refine z_iconst (v := (0 : Int32)) dL_isAs_248 kc_0 ?_
                        cases h
                        refine z_sub (swU (swU hw)) ?_
                        exact z_iret dL_isAs_249 rfl rfl (by omega) (by omega) ⟨rfl, rfl⟩
                      · have h := it_t h hc291
                        refine z_aload_n (i := 0) dL_isAs_233 rfl rfl ?_
                        refine z_iload (i := 6) dL_isAs_234 rfl ?_
                        obtain ⟨q292, hq293, h⟩ := bnd h
                        refine z_fVi (sX9_nextSound q287.2 v6 hq293) dL_isAs_236 ml_L_167 cd_X9_nextSound mk0 rfl rfl rfl (rmk_r (by decide) (by decide) (by omega) (by omega)) rfl rfl ?_
                        refine z_aload_n (i := 1) dL_isAs_239 rfl rfl ?_
                        refine z_iload (i := 6) dL_isAs_240 rfl ?_
                        obtain ⟨q294, hq295, h⟩ := bnd h
                        refine z_fVi (sX10_sound q292.2 k v6 (owU (owU owk)) hq295) dL_isAs_242 ml_L_170 cd_X10_sound (owU (owU owk)).1 rfl rfl rfl (rmk_r (by decide) (by decide) (by omega) (by omega)) rfl rfl ?_
                        refine z_icmp_eq (tgt := 250) dL_isAs_245 rfl (fun hc296 => ?_) (fun hc296 => ?_)
                        · have h := it_t h hc296
                          refine z_iinc (i := 6) (v := (v6 + (1 : Int32))) dL_isAs_250 rfl (iinc_k kc_1) (Nat.le_of_ble_eq_true rfl) rfl ?_
                          refine z_goto (tgt := 36) dL_isAs_253 rfl ?_
                          refine z_sub (swU swA) ?_
                          exact ih _ _ _ _ _ (by omega) (by omega) h hK
                        · have h := it_f h hc296
                          refine z_iconst (v := (0 : Int32)) dL_isAs_248 kc_0 ?_
                          cases h
                          refine z_sub (swU (swU hw)) ?_
                          exact z_iret dL_isAs_249 rfl rfl (by omega) (by omega) ⟨rfl, rfl⟩
          · have h := it_f h hc254
            refine z_ldcS (j := 9) dL_isAs_89 sw_RL_139 ?_
            refine z_goto (tgt := 127) dL_isAs_91 rfl ?_
            obtain ⟨q297, hq298, h⟩ := bnd h
            refine z_cGV (sJ4_append_15ec4K q250 1 9 70 tb1 (Nat.le_of_ble_eq_true rfl) (by decide) (frS hf rfl) hq298) dL_isAs_127 ml_L_136 cd_J4_append_15ec4 tb1.1 rfl rfl rfl (rq_o (by decide) (by decide) (by omega) (by omega)) rfl rfl (qi_N qv rfl) rfl rfl rfl ?_
            refine z_pop dL_isAs_130 rfl ?_
            refine z_aload_n (i := 0) dL_isAs_131 rfl rfl ?_
            refine z_iload (i := 6) dL_isAs_132 rfl ?_
            obtain ⟨q299, hq300, h⟩ := bnd h
            refine z_fVi (sX9_soundingPitch q297 v6 hq300) dL_isAs_134 ml_L_144 cd_X9_soundingPitch mk0 rfl rfl rfl (rmk_r (by decide) (by decide) (by omega) (by omega)) rfl rfl ?_
            refine z_aload_n (i := 1) dL_isAs_137 rfl rfl ?_
            refine z_getRG (r' := (19, k, 0)) dL_isAs_138 fg_L_58 owk.1 rfl rfl ?_
            refine z_iload (i := 6) dL_isAs_141 rfl ?_
            obtain ⟨hc301, h⟩ := chk h
            refine z_iald (x := (q299.2.1 (19, k, 0) v6.toNatClampNeg)) dL_isAs_143 (owk.2.2 0 (Nat.le_of_ble_eq_true rfl)) rfl hc301 rfl ?_
            refine z_aload_n (i := 1) dL_isAs_144 rfl rfl ?_
            refine z_getRG (r' := (19, k, 1)) dL_isAs_145 fg_L_62 owk.1 rfl rfl ?_
            refine z_iload (i := 6) dL_isAs_148 rfl ?_
            obtain ⟨hc302, h⟩ := chk h
            refine z_iald (x := (q299.2.1 (19, k, 1) v6.toNatClampNeg)) dL_isAs_150 (owk.2.2 1 (Nat.le_of_ble_eq_true rfl)) rfl hc302 rfl ?_
            refine z_iadd dL_isAs_151 ?_
            refine z_icmp_ne (tgt := 248) dL_isAs_152 rfl (fun hc303 => ?_) (fun hc303 => ?_)
            · have h := it_f h hc303
              refine z_iconst (v := (0 : Int32)) dL_isAs_248 kc_0 ?_
              cases h
              refine z_sub hw ?_
              exact z_iret dL_isAs_249 rfl rfl (by omega) (by omega) ⟨rfl, rfl⟩
            · have h := it_t h hc303
              refine z_aload_n (i := 0) dL_isAs_155 rfl rfl ?_
              refine z_iload (i := 6) dL_isAs_156 rfl ?_
              obtain ⟨q304, hq305, h⟩ := bnd h
              refine z_fVi (sX9_bendOf q299.2 v6 hq305) dL_isAs_158 ml_L_147 cd_X9_bendOf mk0 rfl rfl rfl (rmk_r (by decide) (by decide) (by omega) (by omega)) rfl rfl ?_
              refine z_aload_n (i := 1) dL_isAs_161 rfl rfl ?_
              refine z_getRG (r' := (19, k, 1)) dL_isAs_162 fg_L_62 owk.1 rfl rfl ?_
              refine z_iload (i := 6) dL_isAs_165 rfl ?_
              obtain ⟨hc306, h⟩ := chk h
              refine z_iald (x := (q304.2.1 (19, k, 1) v6.toNatClampNeg)) dL_isAs_167 (owk.2.2 1 (Nat.le_of_ble_eq_true rfl)) rfl hc306 rfl ?_
              refine z_icmp_ne (tgt := 248) dL_isAs_168 rfl (fun hc307 => ?_) (fun hc307 => ?_)
              · have h := it_f h hc307
                refine z_iconst (v := (0 : Int32)) dL_isAs_248 kc_0 ?_
                cases h
                refine z_sub hw ?_
                exact z_iret dL_isAs_249 rfl rfl (by omega) (by omega) ⟨rfl, rfl⟩
              · have h := it_t h hc307
                refine z_aload_n (i := 0) dL_isAs_171 rfl rfl ?_
                refine z_iload (i := 6) dL_isAs_172 rfl ?_
                obtain ⟨q308, hq309, h⟩ := bnd h
                refine z_fVi (sX9_gap q304.2 v6 hq309) dL_isAs_174 ml_L_150 cd_X9_gap mk0 rfl rfl rfl (rmk_r (by decide) (by decide) (by omega) (by omega)) rfl rfl ?_
                refine z_aload_n (i := 1) dL_isAs_177 rfl rfl ?_
                refine z_getRG (r' := (19, k, 2)) dL_isAs_178 fg_L_153 owk.1 rfl rfl ?_
                refine z_iload (i := 6) dL_isAs_181 rfl ?_
                obtain ⟨hc310, h⟩ := chk h
                refine z_iald (x := (q308.2.1 (19, k, 2) v6.toNatClampNeg)) dL_isAs_183 (owk.2.2 2 (Nat.le_of_ble_eq_true rfl)) rfl hc310 rfl ?_
                refine z_icmp_ne (tgt := 248) dL_isAs_184 rfl (fun hc311 => ?_) (fun hc311 => ?_)
                · have h := it_f h hc311
                  refine z_iconst (v := (0 : Int32)) dL_isAs_248 kc_0 ?_
                  cases h
                  refine z_sub hw ?_
                  exact z_iret dL_isAs_249 rfl rfl (by omega) (by omega) ⟨rfl, rfl⟩
                · have h := it_t h hc311
                  refine z_aload_n (i := 0) dL_isAs_187 rfl rfl ?_
                  refine z_iload (i := 6) dL_isAs_188 rfl ?_
                  obtain ⟨q312, hq313, h⟩ := bnd h
                  refine z_fVi (sX9_wear q308.2 v6 hq313) dL_isAs_190 ml_L_155 cd_X9_wear mk0 rfl rfl rfl (rmk_r (by decide) (by decide) (by omega) (by omega)) rfl rfl ?_
                  refine z_aload_n (i := 1) dL_isAs_193 rfl rfl ?_
                  refine z_getRG (r' := (19, k, 4)) dL_isAs_194 fg_L_158 owk.1 rfl rfl ?_
                  refine z_iload (i := 6) dL_isAs_197 rfl ?_
                  obtain ⟨hc314, h⟩ := chk h
                  refine z_iald (x := (q312.2.1 (19, k, 4) v6.toNatClampNeg)) dL_isAs_199 (owk.2.2 4 (Nat.le_of_ble_eq_true rfl)) rfl hc314 rfl ?_
                  refine z_icmp_ne (tgt := 248) dL_isAs_200 rfl (fun hc315 => ?_) (fun hc315 => ?_)
                  · have h := it_f h hc315
                    refine z_iconst (v := (0 : Int32)) dL_isAs_248 kc_0 ?_
                    cases h
                    refine z_sub hw ?_
                    exact z_iret dL_isAs_249 rfl rfl (by omega) (by omega) ⟨rfl, rfl⟩
                  · have h := it_t h hc315
                    refine z_aload_n (i := 0) dL_isAs_203 rfl rfl ?_
                    refine z_iload (i := 6) dL_isAs_204 rfl ?_
                    obtain ⟨q316, hq317, h⟩ := bnd h
                    refine z_fVi (sX9_silence q312.2 v6 hq317) dL_isAs_206 ml_L_160 cd_X9_silence mk0 rfl rfl rfl (rmk_r (by decide) (by decide) (by omega) (by omega)) rfl rfl ?_
                    refine z_aload_n (i := 1) dL_isAs_209 rfl rfl ?_
                    refine z_iload (i := 6) dL_isAs_210 rfl ?_
                    obtain ⟨q318, hq319, h⟩ := bnd h
                    refine z_fVi (sX10_silence q316.2 k v6 owk hq319) dL_isAs_212 ml_L_163 cd_X10_silence owk.1 rfl rfl rfl (rmk_r (by decide) (by decide) (by omega) (by omega)) rfl rfl ?_
                    refine z_icmp_ne (tgt := 248) dL_isAs_215 rfl (fun hc320 => ?_) (fun hc320 => ?_)
                    · have h := it_f h hc320
                      refine z_iconst (v := (0 : Int32)) dL_isAs_248 kc_0 ?_
                      cases h
                      refine z_sub hw ?_
                      exact z_iret dL_isAs_249 rfl rfl (by omega) (by omega) ⟨rfl, rfl⟩
                    · have h := it_t h hc320
                      refine z_aload_n (i := 0) dL_isAs_218 rfl rfl ?_
                      refine z_iload (i := 6) dL_isAs_219 rfl ?_
                      obtain ⟨q321, hq322, h⟩ := bnd h
                      refine z_fVi (sX9_isBroken q316.2 v6 hq322) dL_isAs_221 ml_L_164 cd_X9_isBroken mk0 rfl rfl rfl (rmk_r (by decide) (by decide) (by omega) (by omega)) rfl rfl ?_
                      refine z_aload_n (i := 1) dL_isAs_224 rfl rfl ?_
                      refine z_iload (i := 6) dL_isAs_225 rfl ?_
                      obtain ⟨q323, hq324, h⟩ := bnd h
                      refine z_fVi (sX10_isBad q321.2 k v6 owk hq324) dL_isAs_227 ml_L_128 cd_X10_isBad owk.1 rfl rfl rfl (rmk_r (by decide) (by decide) (by omega) (by omega)) rfl rfl ?_
                      refine z_icmp_ne (tgt := 248) dL_isAs_230 rfl (fun hc325 => ?_) (fun hc325 => ?_)
                      · have h := it_f h hc325
                        refine z_iconst (v := (0 : Int32)) dL_isAs_248 kc_0 ?_
                        cases h
                        refine z_sub hw ?_
                        exact z_iret dL_isAs_249 rfl rfl (by omega) (by omega) ⟨rfl, rfl⟩
                      · have h := it_t h hc325
                        refine z_aload_n (i := 0) dL_isAs_233 rfl rfl ?_
                        refine z_iload (i := 6) dL_isAs_234 rfl ?_
                        obtain ⟨q326, hq327, h⟩ := bnd h
                        refine z_fVi (sX9_nextSound q321.2 v6 hq327) dL_isAs_236 ml_L_167 cd_X9_nextSound mk0 rfl rfl rfl (rmk_r (by decide) (by decide) (by omega) (by omega)) rfl rfl ?_
                        refine z_aload_n (i := 1) dL_isAs_239 rfl rfl ?_
                        refine z_iload (i := 6) dL_isAs_240 rfl ?_
                        obtain ⟨q328, hq329, h⟩ := bnd h
                        refine z_fVi (sX10_sound q326.2 k v6 owk hq329) dL_isAs_242 ml_L_170 cd_X10_sound owk.1 rfl rfl rfl (rmk_r (by decide) (by decide) (by omega) (by omega)) rfl rfl ?_
                        refine z_icmp_eq (tgt := 250) dL_isAs_245 rfl (fun hc330 => ?_) (fun hc330 => ?_)
                        · have h := it_t h hc330
                          refine z_iinc (i := 6) (v := (v6 + (1 : Int32))) dL_isAs_250 rfl (iinc_k kc_1) (Nat.le_of_ble_eq_true rfl) rfl ?_
                          refine z_goto (tgt := 36) dL_isAs_253 rfl ?_
                          exact ih _ _ _ _ _ (by omega) (by omega) h hK
                        · have h := it_f h hc330
                          refine z_iconst (v := (0 : Int32)) dL_isAs_248 kc_0 ?_
                          cases h
                          refine z_sub hw ?_
                          exact z_iret dL_isAs_249 rfl rfl (by omega) (by omega) ⟨rfl, rfl⟩
set_option maxRecDepth 20000 in
set_option maxHeartbeats 4000000 in
theorem sL_isAs {wv : Wv} (M : Mm) (k : Nat) (x3 : Int32) (hk : OwI wv k) (hV : NoV wv 2) {res : (Int32 × Mm)} (h : fL_isAs M k x3 = some res) : TC wv yL_isAs cL_isAs 7 (some .boolean) 13 1006 63286 [.inr (0, 0, 0), .inr (18, k, 0), .inl (.int x3)] M (some (.int res.1)) res.2 := by
  have qv := qm_N (mc := 1006) (ms := 63286) (sh := SH) (PR := fun v M9 => v = some (.int res.1) ∧ M9 = res.2) (PX := fun _ _ => False) hV
  have hN := nv_0 hV
  rw [fL_isAs] at h
  refine TC.go (n := 4) (ls := [some (.inr (0, 0, 0)), some (.inr (18, k, 0)), some (.inl (.int x3)), none, none, none, none]) (by decide +kernel) rfl rfl rfl rfl ?_
  refine z_nSB (z := 1) dL_isAs_0 dL_isAs_3 dL_isAs_4 nw_L_48 li_L_50 rfl (fr_of hV rfl) qv rfl rfl rfl (rq_o (by decide) (by decide) (by omega) (by omega)) ?_
  refine z_astore_n (i := 3) dL_isAs_7 rfl (Nat.le_of_ble_eq_true rfl) rfl ?_
  refine z_iconst (v := (0 : Int32)) dL_isAs_8 kc_0 ?_
  refine z_istore (i := 4) dL_isAs_9 (Nat.le_of_ble_eq_true rfl) rfl ?_
  refine z_bipush (v := (60 : Int32)) dL_isAs_11 kb_60 ?_
  refine z_iconst (v := (4 : Int32)) dL_isAs_13 kc_4 ?_
  refine z_aload_n (i := 1) dL_isAs_14 rfl rfl ?_
  refine z_getIG (x := ((nSB M 1).1 (18, k, 0) 1)) dL_isAs_15 fg_L_122 (owU hk).1 rfl rfl ?_
  refine z_imul dL_isAs_18 ?_
  refine z_iadd dL_isAs_19 ?_
  refine z_bipush (v := (100 : Int32)) dL_isAs_20 kb_100 ?_
  refine z_aload_n (i := 1) dL_isAs_22 rfl rfl ?_
  refine z_getIG (x := ((nSB M 1).1 (18, k, 0) 2)) dL_isAs_23 fg_L_125 (owU hk).1 rfl rfl ?_
  refine z_isub dL_isAs_26 ?_
  refine z_imul dL_isAs_27 ?_
  refine z_bipush (v := (100 : Int32)) dL_isAs_28 kb_100 ?_
  refine z_idiv dL_isAs_30 (by decide) ?_
  refine z_istore (i := 5) dL_isAs_31 (Nat.le_of_ble_eq_true rfl) rfl ?_
  refine z_iconst (v := (0 : Int32)) dL_isAs_33 kc_0 ?_
  refine z_istore (i := 6) dL_isAs_34 (Nat.le_of_ble_eq_true rfl) rfl ?_
  refine sL_isAs_L36 k x3 ((((60 : Int32) + ((4 : Int32) * ((nSB M 1).1 (18, k, 0) 1))) * ((100 : Int32) - ((nSB M 1).1 (18, k, 0) 2))) / (100 : Int32)) (swA) (owU hk) tb0 (frU (fr_of hV rfl) rfl) hV (nvA hN rfl) (CB := 0 + 106) (SB := 0 + 2776) (by omega) (by omega) 13 _ _ _ _ _ (by omega) (by omega) h (fun w331 w332 M333 c8 s8 hc8 hs8 h => z_wid hc8 hs8 ?_)
  refine z_aload_n (i := 0) dL_isAs_256 rfl rfl ?_
  refine z_fVi (sX9_stepCount M333) dL_isAs_257 ml_L_173 cd_X9_stepCount mk0 rfl rfl rfl (rmk_r (by decide) (by decide) (by omega) (by omega)) rfl rfl ?_
  refine z_aload_n (i := 1) dL_isAs_260 rfl rfl ?_
  refine z_getIG (x := (M333.1 (18, k, 0) 0)) dL_isAs_261 fg_L_51 (owU hk).1 rfl rfl ?_
  refine z_icmp_ne (tgt := 368) dL_isAs_264 rfl (fun hc334 => ?_) (fun hc334 => ?_)
  · have h := it_f h hc334
    refine z_iconst (v := (0 : Int32)) dL_isAs_368 kc_0 ?_
    refine z_istore (i := 6) dL_isAs_369 (Nat.le_of_ble_eq_true rfl) rfl ?_
    refine z_iload (i := 6) dL_isAs_371 rfl ?_
    refine z_if_eq (tgt := 461) dL_isAs_373 rfl (fun hc335 => ?_) (fun hc335 => absurd hc335 (by decide))
    refine z_iconst (v := (0 : Int32)) dL_isAs_461 kc_0 ?_
    refine z_istore (i := 6) dL_isAs_462 (Nat.le_of_ble_eq_true rfl) rfl ?_
    refine z_iload (i := 6) dL_isAs_464 rfl ?_
    refine z_if_eq (tgt := 497) dL_isAs_466 rfl (fun hc336 => ?_) (fun hc336 => absurd hc336 (by decide))
    refine z_iconst (v := (0 : Int32)) dL_isAs_497 kc_0 ?_
    cases h
    refine z_sub swA ?_
    exact z_iret dL_isAs_498 rfl rfl (by omega) (by omega) ⟨rfl, rfl⟩
  · have h := it_t h hc334
    refine z_aload_n (i := 0) dL_isAs_267 rfl rfl ?_
    refine z_fVi (sX9_selectedTune M333) dL_isAs_268 ml_L_176 cd_X9_selectedTune mk0 rfl rfl rfl (rmk_r (by decide) (by decide) (by omega) (by omega)) rfl rfl ?_
    refine z_aload_n (i := 1) dL_isAs_271 rfl rfl ?_
    refine z_getIG (x := (M333.1 (18, k, 0) 4)) dL_isAs_272 fg_L_179 (owU hk).1 rfl rfl ?_
    refine z_icmp_ne (tgt := 368) dL_isAs_275 rfl (fun hc337 => ?_) (fun hc337 => ?_)
    · have h := it_f h hc337
      refine z_iconst (v := (0 : Int32)) dL_isAs_368 kc_0 ?_
      refine z_istore (i := 6) dL_isAs_369 (Nat.le_of_ble_eq_true rfl) rfl ?_
      refine z_iload (i := 6) dL_isAs_371 rfl ?_
      refine z_if_eq (tgt := 461) dL_isAs_373 rfl (fun hc338 => ?_) (fun hc338 => absurd hc338 (by decide))
      refine z_iconst (v := (0 : Int32)) dL_isAs_461 kc_0 ?_
      refine z_istore (i := 6) dL_isAs_462 (Nat.le_of_ble_eq_true rfl) rfl ?_
      refine z_iload (i := 6) dL_isAs_464 rfl ?_
      refine z_if_eq (tgt := 497) dL_isAs_466 rfl (fun hc339 => ?_) (fun hc339 => absurd hc339 (by decide))
      refine z_iconst (v := (0 : Int32)) dL_isAs_497 kc_0 ?_
      cases h
      refine z_sub swA ?_
      exact z_iret dL_isAs_498 rfl rfl (by omega) (by omega) ⟨rfl, rfl⟩
    · have h := it_t h hc337
      refine z_aload_n (i := 0) dL_isAs_278 rfl rfl ?_
      refine z_fVi (sX9_position M333) dL_isAs_279 ml_L_182 cd_X9_position mk0 rfl rfl rfl (rmk_r (by decide) (by decide) (by omega) (by omega)) rfl rfl ?_
      refine z_aload_n (i := 1) dL_isAs_282 rfl rfl ?_
      refine z_getIG (x := (M333.1 (18, k, 0) 5)) dL_isAs_283 fg_L_185 (owU hk).1 rfl rfl ?_
      refine z_icmp_ne (tgt := 368) dL_isAs_286 rfl (fun hc340 => ?_) (fun hc340 => ?_)
      · have h := it_f h hc340
        refine z_iconst (v := (0 : Int32)) dL_isAs_368 kc_0 ?_
        refine z_istore (i := 6) dL_isAs_369 (Nat.le_of_ble_eq_true rfl) rfl ?_
        refine z_iload (i := 6) dL_isAs_371 rfl ?_
        refine z_if_eq (tgt := 461) dL_isAs_373 rfl (fun hc341 => ?_) (fun hc341 => absurd hc341 (by decide))
        refine z_iconst (v := (0 : Int32)) dL_isAs_461 kc_0 ?_
        refine z_istore (i := 6) dL_isAs_462 (Nat.le_of_ble_eq_true rfl) rfl ?_
        refine z_iload (i := 6) dL_isAs_464 rfl ?_
        refine z_if_eq (tgt := 497) dL_isAs_466 rfl (fun hc342 => ?_) (fun hc342 => absurd hc342 (by decide))
        refine z_iconst (v := (0 : Int32)) dL_isAs_497 kc_0 ?_
        cases h
        refine z_sub swA ?_
        exact z_iret dL_isAs_498 rfl rfl (by omega) (by omega) ⟨rfl, rfl⟩
      · have h := it_t h hc340
        refine z_aload_n (i := 0) dL_isAs_289 rfl rfl ?_
        refine z_fVi (sX9_toothCount M333) dL_isAs_290 ml_L_188 cd_X9_toothCount mk0 rfl rfl rfl (rmk_r (by decide) (by decide) (by omega) (by omega)) rfl rfl ?_
        refine z_aload_n (i := 1) dL_isAs_293 rfl rfl ?_
        refine z_getIG (x := (M333.1 (18, k, 0) 3)) dL_isAs_294 fg_L_44 (owU hk).1 rfl rfl ?_
        refine z_icmp_ne (tgt := 368) dL_isAs_297 rfl (fun hc343 => ?_) (fun hc343 => ?_)
        · have h := it_f h hc343
          refine z_iconst (v := (0 : Int32)) dL_isAs_368 kc_0 ?_
          refine z_istore (i := 6) dL_isAs_369 (Nat.le_of_ble_eq_true rfl) rfl ?_
          refine z_iload (i := 6) dL_isAs_371 rfl ?_
          refine z_if_eq (tgt := 461) dL_isAs_373 rfl (fun hc344 => ?_) (fun hc344 => absurd hc344 (by decide))
          refine z_iconst (v := (0 : Int32)) dL_isAs_461 kc_0 ?_
          refine z_istore (i := 6) dL_isAs_462 (Nat.le_of_ble_eq_true rfl) rfl ?_
          refine z_iload (i := 6) dL_isAs_464 rfl ?_
          refine z_if_eq (tgt := 497) dL_isAs_466 rfl (fun hc345 => ?_) (fun hc345 => absurd hc345 (by decide))
          refine z_iconst (v := (0 : Int32)) dL_isAs_497 kc_0 ?_
          cases h
          refine z_sub swA ?_
          exact z_iret dL_isAs_498 rfl rfl (by omega) (by omega) ⟨rfl, rfl⟩
        · have h := it_t h hc343
          refine z_aload_n (i := 0) dL_isAs_300 rfl rfl ?_
          refine z_fVi (sX9_turnsLeft M333) dL_isAs_301 ml_L_191 cd_X9_turnsLeft mk0 rfl rfl rfl (rmk_r (by decide) (by decide) (by omega) (by omega)) rfl rfl ?_
          refine z_aload_n (i := 1) dL_isAs_304 rfl rfl ?_
          refine z_getIG (x := (M333.1 (18, k, 0) 1)) dL_isAs_305 fg_L_122 (owU hk).1 rfl rfl ?_
          refine z_icmp_ne (tgt := 368) dL_isAs_308 rfl (fun hc346 => ?_) (fun hc346 => ?_)
          · have h := it_f h hc346
            refine z_iconst (v := (0 : Int32)) dL_isAs_368 kc_0 ?_
            refine z_istore (i := 6) dL_isAs_369 (Nat.le_of_ble_eq_true rfl) rfl ?_
            refine z_iload (i := 6) dL_isAs_371 rfl ?_
            refine z_if_eq (tgt := 461) dL_isAs_373 rfl (fun hc347 => ?_) (fun hc347 => absurd hc347 (by decide))
            refine z_iconst (v := (0 : Int32)) dL_isAs_461 kc_0 ?_
            refine z_istore (i := 6) dL_isAs_462 (Nat.le_of_ble_eq_true rfl) rfl ?_
            refine z_iload (i := 6) dL_isAs_464 rfl ?_
            refine z_if_eq (tgt := 497) dL_isAs_466 rfl (fun hc348 => ?_) (fun hc348 => absurd hc348 (by decide))
            refine z_iconst (v := (0 : Int32)) dL_isAs_497 kc_0 ?_
            cases h
            refine z_sub swA ?_
            exact z_iret dL_isAs_498 rfl rfl (by omega) (by omega) ⟨rfl, rfl⟩
          · have h := it_t h hc346
            refine z_aload_n (i := 0) dL_isAs_311 rfl rfl ?_
            refine z_fVi (sX9_vane M333) dL_isAs_312 ml_L_194 cd_X9_vane mk0 rfl rfl rfl (rmk_r (by decide) (by decide) (by omega) (by omega)) rfl rfl ?_
            refine z_aload_n (i := 1) dL_isAs_315 rfl rfl ?_
            refine z_getIG (x := (M333.1 (18, k, 0) 2)) dL_isAs_316 fg_L_125 (owU hk).1 rfl rfl ?_
            refine z_icmp_ne (tgt := 368) dL_isAs_319 rfl (fun hc349 => ?_) (fun hc349 => ?_)
            · have h := it_f h hc349
              refine z_iconst (v := (0 : Int32)) dL_isAs_368 kc_0 ?_
              refine z_istore (i := 6) dL_isAs_369 (Nat.le_of_ble_eq_true rfl) rfl ?_
              refine z_iload (i := 6) dL_isAs_371 rfl ?_
              refine z_if_eq (tgt := 461) dL_isAs_373 rfl (fun hc350 => ?_) (fun hc350 => absurd hc350 (by decide))
              refine z_iconst (v := (0 : Int32)) dL_isAs_461 kc_0 ?_
              refine z_istore (i := 6) dL_isAs_462 (Nat.le_of_ble_eq_true rfl) rfl ?_
              refine z_iload (i := 6) dL_isAs_464 rfl ?_
              refine z_if_eq (tgt := 497) dL_isAs_466 rfl (fun hc351 => ?_) (fun hc351 => absurd hc351 (by decide))
              refine z_iconst (v := (0 : Int32)) dL_isAs_497 kc_0 ?_
              cases h
              refine z_sub swA ?_
              exact z_iret dL_isAs_498 rfl rfl (by omega) (by omega) ⟨rfl, rfl⟩
            · have h := it_t h hc349
              refine z_aload_n (i := 0) dL_isAs_322 rfl rfl ?_
              refine z_fVi (sX9_tempo M333) dL_isAs_323 ml_L_197 cd_X9_tempo mk0 rfl rfl rfl (rmk_r (by decide) (by decide) (by omega) (by omega)) rfl rfl ?_
              refine z_iload (i := 5) dL_isAs_326 rfl ?_
              refine z_icmp_ne (tgt := 368) dL_isAs_328 rfl (fun hc352 => ?_) (fun hc352 => ?_)
              · have h := it_f h hc352
                refine z_iconst (v := (0 : Int32)) dL_isAs_368 kc_0 ?_
                refine z_istore (i := 6) dL_isAs_369 (Nat.le_of_ble_eq_true rfl) rfl ?_
                refine z_iload (i := 6) dL_isAs_371 rfl ?_
                refine z_if_eq (tgt := 461) dL_isAs_373 rfl (fun hc353 => ?_) (fun hc353 => absurd hc353 (by decide))
                refine z_iconst (v := (0 : Int32)) dL_isAs_461 kc_0 ?_
                refine z_istore (i := 6) dL_isAs_462 (Nat.le_of_ble_eq_true rfl) rfl ?_
                refine z_iload (i := 6) dL_isAs_464 rfl ?_
                refine z_if_eq (tgt := 497) dL_isAs_466 rfl (fun hc354 => ?_) (fun hc354 => absurd hc354 (by decide))
                refine z_iconst (v := (0 : Int32)) dL_isAs_497 kc_0 ?_
                cases h
                refine z_sub swA ?_
                exact z_iret dL_isAs_498 rfl rfl (by omega) (by omega) ⟨rfl, rfl⟩
              · have h := it_t h hc352
                refine z_aload_n (i := 0) dL_isAs_331 rfl rfl ?_
                obtain ⟨q355, hq356, h⟩ := bnd h
                refine z_fVd (sX9_secondsPerStep M333 hq356) dL_isAs_332 ml_L_200 cd_X9_secondsPerStep mk0 rfl rfl rfl (rmk_r (by decide) (by decide) (by omega) (by omega)) rfl rfl ?_
                refine z_ldc2d (v := (4633641066610819072 : UInt64)) dL_isAs_335 (al_mem 1051 (by decide +kernel) rfl) ?_
                refine z_iload (i := 5) dL_isAs_338 rfl ?_
                refine z_i2d dL_isAs_340 ?_
                obtain ⟨hc357, h⟩ := chk2 h
                refine z_ddiv dL_isAs_341 hc357 ?_
                refine z_dcmp dL_isAs_342 ?_
                refine z_if_ne (tgt := 368) dL_isAs_343 rfl (fun hc358 => ?_) (fun hc358 => ?_)
                · have h := it_f h hc358
                  refine z_iconst (v := (0 : Int32)) dL_isAs_368 kc_0 ?_
                  refine z_istore (i := 6) dL_isAs_369 (Nat.le_of_ble_eq_true rfl) rfl ?_
                  refine z_iload (i := 6) dL_isAs_371 rfl ?_
                  refine z_if_eq (tgt := 461) dL_isAs_373 rfl (fun hc359 => ?_) (fun hc359 => absurd hc359 (by decide))
                  refine z_iconst (v := (0 : Int32)) dL_isAs_461 kc_0 ?_
                  refine z_istore (i := 6) dL_isAs_462 (Nat.le_of_ble_eq_true rfl) rfl ?_
                  refine z_iload (i := 6) dL_isAs_464 rfl ?_
                  refine z_if_eq (tgt := 497) dL_isAs_466 rfl (fun hc360 => ?_) (fun hc360 => absurd hc360 (by decide))
                  refine z_iconst (v := (0 : Int32)) dL_isAs_497 kc_0 ?_
                  cases h
                  refine z_sub swA ?_
                  exact z_iret dL_isAs_498 rfl rfl (by omega) (by omega) ⟨rfl, rfl⟩
                · have h := it_t h hc358
                  refine z_aload_n (i := 0) dL_isAs_346 rfl rfl ?_
                  obtain ⟨q361, hq362, h⟩ := bnd h
                  refine z_fVl (sX9_secondsPerStepBits M333 hq362) dL_isAs_347 ml_L_206 cd_X9_secondsPerStepBits mk0 rfl rfl rfl (rmk_r (by decide) (by decide) (by omega) (by omega)) rfl rfl ?_
                  refine z_ldc2d (v := (4633641066610819072 : UInt64)) dL_isAs_350 (al_mem 1051 (by decide +kernel) rfl) ?_
                  refine z_iload (i := 5) dL_isAs_353 rfl ?_
                  refine z_i2d dL_isAs_355 ?_
                  obtain ⟨hc363, h⟩ := chk2 h
                  refine z_ddiv dL_isAs_356 hc363 ?_
                  refine z_fSl (S_dbits M333 (FP.ddiv (4633641066610819072 : UInt64) (FP.i2d ((((60 : Int32) + ((4 : Int32) * ((nSB M 1).1 (18, k, 0) 1))) * ((100 : Int32) - ((nSB M 1).1 (18, k, 0) 2))) / (100 : Int32))))) dL_isAs_357 ml_L_210 cd_Jxe99ae_doubleToLongBits_ccdee rfl rfl (rmk_r (by decide) (by decide) (by omega) (by omega)) rfl rfl ?_
                  refine z_lcmp dL_isAs_360 ?_
                  refine z_if_ne (tgt := 368) dL_isAs_361 rfl (fun hc364 => ?_) (fun hc364 => ?_)
                  · have h := it_f h hc364
                    refine z_iconst (v := (0 : Int32)) dL_isAs_368 kc_0 ?_
                    refine z_istore (i := 6) dL_isAs_369 (Nat.le_of_ble_eq_true rfl) rfl ?_
                    refine z_iload (i := 6) dL_isAs_371 rfl ?_
                    refine z_if_eq (tgt := 461) dL_isAs_373 rfl (fun hc365 => ?_) (fun hc365 => absurd hc365 (by decide))
                    refine z_iconst (v := (0 : Int32)) dL_isAs_461 kc_0 ?_
                    refine z_istore (i := 6) dL_isAs_462 (Nat.le_of_ble_eq_true rfl) rfl ?_
                    refine z_iload (i := 6) dL_isAs_464 rfl ?_
                    refine z_if_eq (tgt := 497) dL_isAs_466 rfl (fun hc366 => ?_) (fun hc366 => absurd hc366 (by decide))
                    refine z_iconst (v := (0 : Int32)) dL_isAs_497 kc_0 ?_
                    cases h
                    refine z_sub swA ?_
                    exact z_iret dL_isAs_498 rfl rfl (by omega) (by omega) ⟨rfl, rfl⟩
                  · have h := it_t h hc364
                    refine z_iconst (v := (1 : Int32)) dL_isAs_364 kc_1 ?_
                    refine z_goto (tgt := 369) dL_isAs_365 rfl ?_
                    refine z_istore (i := 6) dL_isAs_369 (Nat.le_of_ble_eq_true rfl) rfl ?_
                    refine z_iload (i := 6) dL_isAs_371 rfl ?_
                    refine z_if_eq (tgt := 461) dL_isAs_373 rfl (fun hc367 => absurd hc367 (by decide)) (fun hc367 => ?_)
                    refine z_aload_n (i := 0) dL_isAs_376 rfl rfl ?_
                    refine z_fVi (sX9_noteCount M333) dL_isAs_377 ml_L_216 cd_X9_noteCount mk0 rfl rfl rfl (rmk_r (by decide) (by decide) (by omega) (by omega)) rfl rfl ?_
                    refine z_aload_n (i := 1) dL_isAs_380 rfl rfl ?_
                    refine z_getIG (x := (M333.1 (18, k, 0) 6)) dL_isAs_381 fg_L_219 (owU hk).1 rfl rfl ?_
                    refine z_icmp_ne (tgt := 461) dL_isAs_384 rfl (fun hc368 => ?_) (fun hc368 => ?_)
                    · have h := it_f h hc368
                      refine z_iconst (v := (0 : Int32)) dL_isAs_461 kc_0 ?_
                      refine z_istore (i := 6) dL_isAs_462 (Nat.le_of_ble_eq_true rfl) rfl ?_
                      refine z_iload (i := 6) dL_isAs_464 rfl ?_
                      refine z_if_eq (tgt := 497) dL_isAs_466 rfl (fun hc369 => ?_) (fun hc369 => absurd hc369 (by decide))
                      refine z_iconst (v := (0 : Int32)) dL_isAs_497 kc_0 ?_
                      cases h
                      refine z_sub swA ?_
                      exact z_iret dL_isAs_498 rfl rfl (by omega) (by omega) ⟨rfl, rfl⟩
                    · have h := it_t h hc368
                      refine z_aload_n (i := 0) dL_isAs_387 rfl rfl ?_
                      refine z_fVi (sX9_squeakCount M333) dL_isAs_388 ml_L_222 cd_X9_squeakCount mk0 rfl rfl rfl (rmk_r (by decide) (by decide) (by omega) (by omega)) rfl rfl ?_
                      refine z_aload_n (i := 1) dL_isAs_391 rfl rfl ?_
                      refine z_getIG (x := (M333.1 (18, k, 0) 7)) dL_isAs_392 fg_L_225 (owU hk).1 rfl rfl ?_
                      refine z_icmp_ne (tgt := 461) dL_isAs_395 rfl (fun hc370 => ?_) (fun hc370 => ?_)
                      · have h := it_f h hc370
                        refine z_iconst (v := (0 : Int32)) dL_isAs_461 kc_0 ?_
                        refine z_istore (i := 6) dL_isAs_462 (Nat.le_of_ble_eq_true rfl) rfl ?_
                        refine z_iload (i := 6) dL_isAs_464 rfl ?_
                        refine z_if_eq (tgt := 497) dL_isAs_466 rfl (fun hc371 => ?_) (fun hc371 => absurd hc371 (by decide))
                        refine z_iconst (v := (0 : Int32)) dL_isAs_497 kc_0 ?_
                        cases h
                        refine z_sub swA ?_
                        exact z_iret dL_isAs_498 rfl rfl (by omega) (by omega) ⟨rfl, rfl⟩
                      · have h := it_t h hc370
                        refine z_aload_n (i := 0) dL_isAs_398 rfl rfl ?_
                        refine z_fVi (sX9_stepsPlayed M333) dL_isAs_399 ml_L_228 cd_X9_stepsPlayed mk0 rfl rfl rfl (rmk_r (by decide) (by decide) (by omega) (by omega)) rfl rfl ?_
                        refine z_aload_n (i := 1) dL_isAs_402 rfl rfl ?_
                        refine z_getIG (x := (M333.1 (18, k, 0) 8)) dL_isAs_403 fg_L_231 (owU hk).1 rfl rfl ?_
                        refine z_icmp_ne (tgt := 461) dL_isAs_406 rfl (fun hc372 => ?_) (fun hc372 => ?_)
                        · have h := it_f h hc372
                          refine z_iconst (v := (0 : Int32)) dL_isAs_461 kc_0 ?_
                          refine z_istore (i := 6) dL_isAs_462 (Nat.le_of_ble_eq_true rfl) rfl ?_
                          refine z_iload (i := 6) dL_isAs_464 rfl ?_
                          refine z_if_eq (tgt := 497) dL_isAs_466 rfl (fun hc373 => ?_) (fun hc373 => absurd hc373 (by decide))
                          refine z_iconst (v := (0 : Int32)) dL_isAs_497 kc_0 ?_
                          cases h
                          refine z_sub swA ?_
                          exact z_iret dL_isAs_498 rfl rfl (by omega) (by omega) ⟨rfl, rfl⟩
                        · have h := it_t h hc372
                          refine z_aload_n (i := 0) dL_isAs_409 rfl rfl ?_
                          obtain ⟨q374, hq375, h⟩ := bnd h
                          refine z_fVi (sX9_brokenTeeth M333 hq375) dL_isAs_410 ml_L_234 cd_X9_brokenTeeth mk0 rfl rfl rfl (rmk_r (by decide) (by decide) (by omega) (by omega)) rfl rfl ?_
                          refine z_iload (i := 4) dL_isAs_413 rfl ?_
                          refine z_icmp_ne (tgt := 461) dL_isAs_415 rfl (fun hc376 => ?_) (fun hc376 => ?_)
                          · have h := it_f h hc376
                            refine z_iconst (v := (0 : Int32)) dL_isAs_461 kc_0 ?_
                            refine z_istore (i := 6) dL_isAs_462 (Nat.le_of_ble_eq_true rfl) rfl ?_
                            refine z_iload (i := 6) dL_isAs_464 rfl ?_
                            refine z_if_eq (tgt := 497) dL_isAs_466 rfl (fun hc377 => ?_) (fun hc377 => absurd hc377 (by decide))
                            refine z_iconst (v := (0 : Int32)) dL_isAs_497 kc_0 ?_
                            cases h
                            refine z_sub swA ?_
                            exact z_iret dL_isAs_498 rfl rfl (by omega) (by omega) ⟨rfl, rfl⟩
                          · have h := it_t h hc376
                            refine z_aload_n (i := 0) dL_isAs_418 rfl rfl ?_
                            refine z_fVi (sX9_stepsLeft M333) dL_isAs_419 ml_L_237 cd_X9_stepsLeft mk0 rfl rfl rfl (rmk_r (by decide) (by decide) (by omega) (by omega)) rfl rfl ?_
                            refine z_aload_n (i := 1) dL_isAs_422 rfl rfl ?_
                            refine z_getIG (x := (M333.1 (18, k, 0) 1)) dL_isAs_423 fg_L_122 (owU hk).1 rfl rfl ?_
                            refine z_if_ne (tgt := 433) dL_isAs_426 rfl (fun hc378 => ?_) (fun hc378 => ?_)
                            · have h := it_f h hc378
                              refine z_aload_n (i := 1) dL_isAs_433 rfl rfl ?_
                              refine z_getIG (x := (M333.1 (18, k, 0) 1)) dL_isAs_434 fg_L_122 (owU hk).1 rfl rfl ?_
                              refine z_aload_n (i := 1) dL_isAs_437 rfl rfl ?_
                              refine z_getIG (x := (M333.1 (18, k, 0) 0)) dL_isAs_438 fg_L_51 (owU hk).1 rfl rfl ?_
                              refine z_imul dL_isAs_441 ?_
                              refine z_aload_n (i := 1) dL_isAs_442 rfl rfl ?_
                              refine z_getIG (x := (M333.1 (18, k, 0) 5)) dL_isAs_443 fg_L_185 (owU hk).1 rfl rfl ?_
                              refine z_isub dL_isAs_446 ?_
                              refine z_icmp_ne (tgt := 461) dL_isAs_447 rfl (fun hc379 => ?_) (fun hc379 => ?_)
                              · have h := it_f h hc379
                                refine z_iconst (v := (0 : Int32)) dL_isAs_461 kc_0 ?_
                                refine z_istore (i := 6) dL_isAs_462 (Nat.le_of_ble_eq_true rfl) rfl ?_
                                refine z_iload (i := 6) dL_isAs_464 rfl ?_
                                refine z_if_eq (tgt := 497) dL_isAs_466 rfl (fun hc380 => ?_) (fun hc380 => absurd hc380 (by decide))
                                refine z_iconst (v := (0 : Int32)) dL_isAs_497 kc_0 ?_
                                cases h
                                refine z_sub swA ?_
                                exact z_iret dL_isAs_498 rfl rfl (by omega) (by omega) ⟨rfl, rfl⟩
                              · have h := it_t h hc379
                                refine z_aload_n (i := 0) dL_isAs_450 rfl rfl ?_
                                obtain ⟨q381, hq382, h⟩ := bnd h
                                refine z_fVi (sX9_contradictions M333 hq382) dL_isAs_451 ml_L_240 cd_X9_contradictions mk0 rfl rfl rfl (rmk_r (by decide) (by decide) (by omega) (by omega)) rfl rfl ?_
                                refine z_if_ne (tgt := 461) dL_isAs_454 rfl (fun hc383 => ?_) (fun hc383 => ?_)
                                · have h := it_f h hc383
                                  refine z_iconst (v := (0 : Int32)) dL_isAs_461 kc_0 ?_
                                  refine z_istore (i := 6) dL_isAs_462 (Nat.le_of_ble_eq_true rfl) rfl ?_
                                  refine z_iload (i := 6) dL_isAs_464 rfl ?_
                                  refine z_if_eq (tgt := 497) dL_isAs_466 rfl (fun hc384 => ?_) (fun hc384 => absurd hc384 (by decide))
                                  refine z_iconst (v := (0 : Int32)) dL_isAs_497 kc_0 ?_
                                  cases h
                                  refine z_sub swA ?_
                                  exact z_iret dL_isAs_498 rfl rfl (by omega) (by omega) ⟨rfl, rfl⟩
                                · have h := it_t h hc383
                                  refine z_iconst (v := (1 : Int32)) dL_isAs_457 kc_1 ?_
                                  refine z_goto (tgt := 462) dL_isAs_458 rfl ?_
                                  refine z_istore (i := 6) dL_isAs_462 (Nat.le_of_ble_eq_true rfl) rfl ?_
                                  refine z_iload (i := 6) dL_isAs_464 rfl ?_
                                  refine z_if_eq (tgt := 497) dL_isAs_466 rfl (fun hc385 => absurd hc385 (by decide)) (fun hc385 => ?_)
                                  refine z_aload_n (i := 0) dL_isAs_469 rfl rfl ?_
                                  refine z_aload_n (i := 1) dL_isAs_470 rfl rfl ?_
                                  refine z_iload_n (i := 2) dL_isAs_471 rfl rfl ?_
                                  obtain ⟨q386, hq387, h⟩ := bnd h
                                  refine z_gSi (sL_isTune  M333 k x3 (owU hk) (nvS (nvA hN rfl)) hq387) dL_isAs_472 ml_L_243 cd_L_isTune rfl rfl (rq_o (by decide) (by decide) (by omega) (by omega)) rfl rfl ?_
                                  refine z_if_eq (tgt := 497) dL_isAs_475 rfl (fun hc388 => ?_) (fun hc388 => ?_)
                                  · have h := it_t h hc388
                                    refine z_iconst (v := (0 : Int32)) dL_isAs_497 kc_0 ?_
                                    cases h
                                    refine z_sub swA ?_
                                    exact z_iret dL_isAs_498 rfl rfl (by omega) (by omega) ⟨rfl, rfl⟩
                                  · have h := it_f h hc388
                                    refine z_aload_n (i := 0) dL_isAs_478 rfl rfl ?_
                                    refine z_aload_n (i := 0) dL_isAs_479 rfl rfl ?_
                                    obtain ⟨q389, hq390, h⟩ := bnd h
                                    refine z_fVi (sX9_writeComb q386.2 hq390) dL_isAs_480 ml_L_247 cd_X9_writeComb mk0 rfl rfl rfl (rmk_r (by decide) (by decide) (by omega) (by omega)) rfl rfl ?_
                                    refine z_aload_n (i := 3) dL_isAs_483 rfl rfl ?_
                                    obtain ⟨q391, hq392, h⟩ := bnd h
                                    refine z_cGV (sJ4_toString q389.2 1 1 70 tb0 (by decide) (nd_st (frU (fr_of hV rfl) rfl)) hq392) dL_isAs_484 ml_L_83 cd_J4_toString_0e30d tb0.1 rfl rfl rfl (rq_o (by decide) (by decide) (by omega) (by omega)) rfl rfl (qi_N qv rfl) rfl rfl rfl ?_
                                    obtain ⟨q393, hq394, h⟩ := bnd h
                                    refine z_gSi (sL_isOutput  q391 q389.1 1 st0 hq394) dL_isAs_487 ml_L_87 cd_L_isOutput rfl rfl (rq_o (by decide) (by decide) (by omega) (by omega)) rfl rfl ?_
                                    refine z_if_eq (tgt := 497) dL_isAs_490 rfl (fun hc395 => ?_) (fun hc395 => ?_)
                                    · have h := it_t h hc395
                                      refine z_iconst (v := (0 : Int32)) dL_isAs_497 kc_0 ?_
                                      cases h
                                      refine z_sub (swU swA) ?_
                                      exact z_iret dL_isAs_498 rfl rfl (by omega) (by omega) ⟨rfl, rfl⟩
                                    · have h := it_f h hc395
                                      refine z_iconst (v := (1 : Int32)) dL_isAs_493 kc_1 ?_
                                      refine z_goto (tgt := 498) dL_isAs_494 rfl ?_
                                      cases h
                                      refine z_sub (swU swA) ?_
                                      exact z_iret dL_isAs_498 rfl rfl (by omega) (by omega) ⟨rfl, rfl⟩
                            · have h := it_t h hc378
                              refine z_iconst (v := (0 : Int32)) dL_isAs_429 kc_0 ?_
                              refine z_goto (tgt := 447) dL_isAs_430 rfl ?_
                              refine z_icmp_ne (tgt := 461) dL_isAs_447 rfl (fun hc396 => ?_) (fun hc396 => ?_)
                              · have h := it_f h hc396
                                refine z_iconst (v := (0 : Int32)) dL_isAs_461 kc_0 ?_
                                refine z_istore (i := 6) dL_isAs_462 (Nat.le_of_ble_eq_true rfl) rfl ?_
                                refine z_iload (i := 6) dL_isAs_464 rfl ?_
                                refine z_if_eq (tgt := 497) dL_isAs_466 rfl (fun hc397 => ?_) (fun hc397 => absurd hc397 (by decide))
                                refine z_iconst (v := (0 : Int32)) dL_isAs_497 kc_0 ?_
                                cases h
                                refine z_sub swA ?_
                                exact z_iret dL_isAs_498 rfl rfl (by omega) (by omega) ⟨rfl, rfl⟩
                              · have h := it_t h hc396
                                refine z_aload_n (i := 0) dL_isAs_450 rfl rfl ?_
                                obtain ⟨q398, hq399, h⟩ := bnd h
                                refine z_fVi (sX9_contradictions M333 hq399) dL_isAs_451 ml_L_240 cd_X9_contradictions mk0 rfl rfl rfl (rmk_r (by decide) (by decide) (by omega) (by omega)) rfl rfl ?_
                                refine z_if_ne (tgt := 461) dL_isAs_454 rfl (fun hc400 => ?_) (fun hc400 => ?_)
                                · have h := it_f h hc400
                                  refine z_iconst (v := (0 : Int32)) dL_isAs_461 kc_0 ?_
                                  refine z_istore (i := 6) dL_isAs_462 (Nat.le_of_ble_eq_true rfl) rfl ?_
                                  refine z_iload (i := 6) dL_isAs_464 rfl ?_
                                  refine z_if_eq (tgt := 497) dL_isAs_466 rfl (fun hc401 => ?_) (fun hc401 => absurd hc401 (by decide))
                                  refine z_iconst (v := (0 : Int32)) dL_isAs_497 kc_0 ?_
                                  cases h
                                  refine z_sub swA ?_
                                  exact z_iret dL_isAs_498 rfl rfl (by omega) (by omega) ⟨rfl, rfl⟩
                                · have h := it_t h hc400
                                  refine z_iconst (v := (1 : Int32)) dL_isAs_457 kc_1 ?_
                                  refine z_goto (tgt := 462) dL_isAs_458 rfl ?_
                                  refine z_istore (i := 6) dL_isAs_462 (Nat.le_of_ble_eq_true rfl) rfl ?_
                                  refine z_iload (i := 6) dL_isAs_464 rfl ?_
                                  refine z_if_eq (tgt := 497) dL_isAs_466 rfl (fun hc402 => absurd hc402 (by decide)) (fun hc402 => ?_)
                                  refine z_aload_n (i := 0) dL_isAs_469 rfl rfl ?_
                                  refine z_aload_n (i := 1) dL_isAs_470 rfl rfl ?_
                                  refine z_iload_n (i := 2) dL_isAs_471 rfl rfl ?_
                                  obtain ⟨q403, hq404, h⟩ := bnd h
                                  refine z_gSi (sL_isTune  M333 k x3 (owU hk) (nvS (nvA hN rfl)) hq404) dL_isAs_472 ml_L_243 cd_L_isTune rfl rfl (rq_o (by decide) (by decide) (by omega) (by omega)) rfl rfl ?_
                                  refine z_if_eq (tgt := 497) dL_isAs_475 rfl (fun hc405 => ?_) (fun hc405 => ?_)
                                  · have h := it_t h hc405
                                    refine z_iconst (v := (0 : Int32)) dL_isAs_497 kc_0 ?_
                                    cases h
                                    refine z_sub swA ?_
                                    exact z_iret dL_isAs_498 rfl rfl (by omega) (by omega) ⟨rfl, rfl⟩
                                  · have h := it_f h hc405
                                    refine z_aload_n (i := 0) dL_isAs_478 rfl rfl ?_
                                    refine z_aload_n (i := 0) dL_isAs_479 rfl rfl ?_
                                    obtain ⟨q406, hq407, h⟩ := bnd h
                                    refine z_fVi (sX9_writeComb q403.2 hq407) dL_isAs_480 ml_L_247 cd_X9_writeComb mk0 rfl rfl rfl (rmk_r (by decide) (by decide) (by omega) (by omega)) rfl rfl ?_
                                    refine z_aload_n (i := 3) dL_isAs_483 rfl rfl ?_
                                    obtain ⟨q408, hq409, h⟩ := bnd h
                                    refine z_cGV (sJ4_toString q406.2 1 1 70 tb0 (by decide) (nd_st (frU (fr_of hV rfl) rfl)) hq409) dL_isAs_484 ml_L_83 cd_J4_toString_0e30d tb0.1 rfl rfl rfl (rq_o (by decide) (by decide) (by omega) (by omega)) rfl rfl (qi_N qv rfl) rfl rfl rfl ?_
                                    obtain ⟨q410, hq411, h⟩ := bnd h
                                    refine z_gSi (sL_isOutput  q408 q406.1 1 st0 hq411) dL_isAs_487 ml_L_87 cd_L_isOutput rfl rfl (rq_o (by decide) (by decide) (by omega) (by omega)) rfl rfl ?_
                                    refine z_if_eq (tgt := 497) dL_isAs_490 rfl (fun hc412 => ?_) (fun hc412 => ?_)
                                    · have h := it_t h hc412
                                      refine z_iconst (v := (0 : Int32)) dL_isAs_497 kc_0 ?_
                                      cases h
                                      refine z_sub (swU swA) ?_
                                      exact z_iret dL_isAs_498 rfl rfl (by omega) (by omega) ⟨rfl, rfl⟩
                                    · have h := it_f h hc412
                                      refine z_iconst (v := (1 : Int32)) dL_isAs_493 kc_1 ?_
                                      refine z_goto (tgt := 498) dL_isAs_494 rfl ?_
                                      cases h
                                      refine z_sub (swU swA) ?_
                                      exact z_iret dL_isAs_498 rfl rfl (by omega) (by omega) ⟨rfl, rfl⟩
