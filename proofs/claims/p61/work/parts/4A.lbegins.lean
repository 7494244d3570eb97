theorem dL_begins_0 : decode cL_begins 0 = .ok (.aload_n 1, 1) := by decide +kernel
theorem dL_begins_1 : decode cL_begins 1 = .ok (.iconst 4, 1) := by decide +kernel
theorem dL_begins_2 : decode cL_begins 2 = .ok (.aload_n 2, 1) := by decide +kernel
theorem dL_begins_3 : decode cL_begins 3 = .ok (.iconst 0, 1) := by decide +kernel
theorem dL_begins_4 : decode cL_begins 4 = .ok (.aload_n 2, 1) := by decide +kernel
theorem dL_begins_5 : decode cL_begins 5 = .ok (.iconst 0, 1) := by decide +kernel
theorem dL_begins_6 : decode cL_begins 6 = .ok (.iconst 2, 1) := by decide +kernel
theorem dL_begins_7 : decode cL_begins 7 = .ok (.invokestatic 316, 3) := by decide +kernel
theorem dL_begins_10 : decode cL_begins 10 = .ok (.ifCond .ne 8, 3) := by decide +kernel
theorem dL_begins_13 : decode cL_begins 13 = .ok (.bipush 61, 2) := by decide +kernel
theorem dL_begins_15 : decode cL_begins 15 = .ok (.goto 5, 3) := by decide +kernel
theorem dL_begins_18 : decode cL_begins 18 = .ok (.bipush 13, 2) := by decide +kernel
theorem dL_begins_20 : decode cL_begins 20 = .ok (.invokestatic 316, 3) := by decide +kernel
theorem dL_begins_23 : decode cL_begins 23 = .ok (.iadd, 1) := by decide +kernel
theorem dL_begins_24 : decode cL_begins 24 = .ok (.putfield 51, 3) := by decide +kernel
theorem dL_begins_27 : decode cL_begins 27 = .ok (.aload_n 1, 1) := by decide +kernel
theorem dL_begins_28 : decode cL_begins 28 = .ok (.aload_n 2, 1) := by decide +kernel
theorem dL_begins_29 : decode cL_begins 29 = .ok (.iconst 1, 1) := by decide +kernel
theorem dL_begins_30 : decode cL_begins 30 = .ok (.bipush 21, 2) := by decide +kernel
theorem dL_begins_32 : decode cL_begins 32 = .ok (.invokestatic 316, 3) := by decide +kernel
theorem dL_begins_35 : decode cL_begins 35 = .ok (.putfield 122, 3) := by decide +kernel
theorem dL_begins_38 : decode cL_begins 38 = .ok (.aload_n 1, 1) := by decide +kernel
theorem dL_begins_39 : decode cL_begins 39 = .ok (.aload_n 2, 1) := by decide +kernel
theorem dL_begins_40 : decode cL_begins 40 = .ok (.iconst 2, 1) := by decide +kernel
theorem dL_begins_41 : decode cL_begins 41 = .ok (.bipush 91, 2) := by decide +kernel
theorem dL_begins_43 : decode cL_begins 43 = .ok (.invokestatic 316, 3) := by decide +kernel
theorem dL_begins_46 : decode cL_begins 46 = .ok (.putfield 125, 3) := by decide +kernel
theorem dL_begins_49 : decode cL_begins 49 = .ok (.aload_n 1, 1) := by decide +kernel
theorem dL_begins_50 : decode cL_begins 50 = .ok (.iconst 1, 1) := by decide +kernel
theorem dL_begins_51 : decode cL_begins 51 = .ok (.aload_n 2, 1) := by decide +kernel
theorem dL_begins_52 : decode cL_begins 52 = .ok (.iconst 3, 1) := by decide +kernel
theorem dL_begins_53 : decode cL_begins 53 = .ok (.bipush 12, 2) := by decide +kernel
theorem dL_begins_55 : decode cL_begins 55 = .ok (.invokestatic 316, 3) := by decide +kernel
theorem dL_begins_58 : decode cL_begins 58 = .ok (.iadd, 1) := by decide +kernel
theorem dL_begins_59 : decode cL_begins 59 = .ok (.putfield 44, 3) := by decide +kernel
theorem dL_begins_62 : decode cL_begins 62 = .ok (.new 48, 3) := by decide +kernel
theorem dL_begins_65 : decode cL_begins 65 = .ok (.dup, 1) := by decide +kernel
theorem dL_begins_66 : decode cL_begins 66 = .ok (.ldc_w 336, 3) := by decide +kernel
theorem dL_begins_69 : decode cL_begins 69 = .ok (.invokespecial 338, 3) := by decide +kernel
theorem dL_begins_72 : decode cL_begins 72 = .ok (.aload_n 1, 1) := by decide +kernel
theorem dL_begins_73 : decode cL_begins 73 = .ok (.getfield 51, 3) := by decide +kernel
theorem dL_begins_76 : decode cL_begins 76 = .ok (.invokevirtual 141, 3) := by decide +kernel
theorem dL_begins_79 : decode cL_begins 79 = .ok (.bipush 32, 2) := by decide +kernel
theorem dL_begins_81 : decode cL_begins 81 = .ok (.invokevirtual 68, 3) := by decide +kernel
theorem dL_begins_84 : decode cL_begins 84 = .ok (.aload_n 1, 1) := by decide +kernel
theorem dL_begins_85 : decode cL_begins 85 = .ok (.getfield 122, 3) := by decide +kernel
theorem dL_begins_88 : decode cL_begins 88 = .ok (.invokevirtual 141, 3) := by decide +kernel
theorem dL_begins_91 : decode cL_begins 91 = .ok (.bipush 32, 2) := by decide +kernel
theorem dL_begins_93 : decode cL_begins 93 = .ok (.invokevirtual 68, 3) := by decide +kernel
theorem dL_begins_96 : decode cL_begins 96 = .ok (.aload_n 1, 1) := by decide +kernel
theorem dL_begins_97 : decode cL_begins 97 = .ok (.getfield 125, 3) := by decide +kernel
theorem dL_begins_100 : decode cL_begins 100 = .ok (.invokevirtual 141, 3) := by decide +kernel
theorem dL_begins_103 : decode cL_begins 103 = .ok (.bipush 59, 2) := by decide +kernel
theorem dL_begins_105 : decode cL_begins 105 = .ok (.invokevirtual 68, 3) := by decide +kernel
theorem dL_begins_108 : decode cL_begins 108 = .ok (.astore_n 3, 1) := by decide +kernel
theorem dL_begins_109 : decode cL_begins 109 = .ok (.iconst 0, 1) := by decide +kernel
theorem dL_begins_110 : decode cL_begins 110 = .ok (.istore 4, 2) := by decide +kernel
theorem dL_begins_112 : decode cL_begins 112 = .ok (.iload 4, 2) := by decide +kernel
theorem dL_begins_114 : decode cL_begins 114 = .ok (.aload_n 1, 1) := by decide +kernel
theorem dL_begins_115 : decode cL_begins 115 = .ok (.getfield 44, 3) := by decide +kernel
theorem dL_begins_118 : decode cL_begins 118 = .ok (.if_icmp .ge 155, 3) := by decide +kernel
theorem dL_begins_121 : decode cL_begins 121 = .ok (.aload_n 1, 1) := by decide +kernel
theorem dL_begins_122 : decode cL_begins 122 = .ok (.getfield 58, 3) := by decide +kernel
theorem dL_begins_125 : decode cL_begins 125 = .ok (.iload 4, 2) := by decide +kernel
theorem dL_begins_127 : decode cL_begins 127 = .ok (.aload_n 2, 1) := by decide +kernel
theorem dL_begins_128 : decode cL_begins 128 = .ok (.iconst 4, 1) := by decide +kernel
theorem dL_begins_129 : decode cL_begins 129 = .ok (.iconst 3, 1) := by decide +kernel
theorem dL_begins_130 : decode cL_begins 130 = .ok (.iload 4, 2) := by decide +kernel
theorem dL_begins_132 : decode cL_begins 132 = .ok (.imul, 1) := by decide +kernel
theorem dL_begins_133 : decode cL_begins 133 = .ok (.iadd, 1) := by decide +kernel
theorem dL_begins_134 : decode cL_begins 134 = .ok (.bipush 61, 2) := by decide +kernel
theorem dL_begins_136 : decode cL_begins 136 = .ok (.invokestatic 316, 3) := by decide +kernel
theorem dL_begins_139 : decode cL_begins 139 = .ok (.iastore, 1) := by decide +kernel
theorem dL_begins_140 : decode cL_begins 140 = .ok (.aload_n 1, 1) := by decide +kernel
theorem dL_begins_141 : decode cL_begins 141 = .ok (.getfield 153, 3) := by decide +kernel
theorem dL_begins_144 : decode cL_begins 144 = .ok (.iload 4, 2) := by decide +kernel
theorem dL_begins_146 : decode cL_begins 146 = .ok (.iconst 1, 1) := by decide +kernel
theorem dL_begins_147 : decode cL_begins 147 = .ok (.aload_n 2, 1) := by decide +kernel
theorem dL_begins_148 : decode cL_begins 148 = .ok (.iconst 5, 1) := by decide +kernel
theorem dL_begins_149 : decode cL_begins 149 = .ok (.iconst 3, 1) := by decide +kernel
theorem dL_begins_150 : decode cL_begins 150 = .ok (.iload 4, 2) := by decide +kernel
theorem dL_begins_152 : decode cL_begins 152 = .ok (.imul, 1) := by decide +kernel
theorem dL_begins_153 : decode cL_begins 153 = .ok (.iadd, 1) := by decide +kernel
theorem dL_begins_154 : decode cL_begins 154 = .ok (.bipush 9, 2) := by decide +kernel
theorem dL_begins_156 : decode cL_begins 156 = .ok (.invokestatic 316, 3) := by decide +kernel
theorem dL_begins_159 : decode cL_begins 159 = .ok (.iadd, 1) := by decide +kernel
theorem dL_begins_160 : decode cL_begins 160 = .ok (.iastore, 1) := by decide +kernel
theorem dL_begins_161 : decode cL_begins 161 = .ok (.aload_n 1, 1) := by decide +kernel
theorem dL_begins_162 : decode cL_begins 162 = .ok (.getfield 341, 3) := by decide +kernel
theorem dL_begins_165 : decode cL_begins 165 = .ok (.iload 4, 2) := by decide +kernel
theorem dL_begins_167 : decode cL_begins 167 = .ok (.bipush 10, 2) := by decide +kernel
theorem dL_begins_169 : decode cL_begins 169 = .ok (.aload_n 2, 1) := by decide +kernel
theorem dL_begins_170 : decode cL_begins 170 = .ok (.bipush 6, 2) := by decide +kernel
theorem dL_begins_172 : decode cL_begins 172 = .ok (.iconst 3, 1) := by decide +kernel
theorem dL_begins_173 : decode cL_begins 173 = .ok (.iload 4, 2) := by decide +kernel
theorem dL_begins_175 : decode cL_begins 175 = .ok (.imul, 1) := by decide +kernel
theorem dL_begins_176 : decode cL_begins 176 = .ok (.iadd, 1) := by decide +kernel
theorem dL_begins_177 : decode cL_begins 177 = .ok (.aload_n 2, 1) := by decide +kernel
theorem dL_begins_178 : decode cL_begins 178 = .ok (.bipush 6, 2) := by decide +kernel
theorem dL_begins_180 : decode cL_begins 180 = .ok (.iconst 3, 1) := by decide +kernel
theorem dL_begins_181 : decode cL_begins 181 = .ok (.iload 4, 2) := by decide +kernel
theorem dL_begins_183 : decode cL_begins 183 = .ok (.imul, 1) := by decide +kernel
theorem dL_begins_184 : decode cL_begins 184 = .ok (.iadd, 1) := by decide +kernel
theorem dL_begins_185 : decode cL_begins 185 = .ok (.iconst 2, 1) := by decide +kernel
theorem dL_begins_186 : decode cL_begins 186 = .ok (.invokestatic 316, 3) := by decide +kernel
theorem dL_begins_189 : decode cL_begins 189 = .ok (.ifCond .ne 9, 3) := by decide +kernel
theorem dL_begins_192 : decode cL_begins 192 = .ok (.sipush 990, 3) := by decide +kernel
theorem dL_begins_195 : decode cL_begins 195 = .ok (.goto 5, 3) := by decide +kernel
theorem dL_begins_198 : decode cL_begins 198 = .ok (.bipush 40, 2) := by decide +kernel
theorem dL_begins_200 : decode cL_begins 200 = .ok (.invokestatic 316, 3) := by decide +kernel
theorem dL_begins_203 : decode cL_begins 203 = .ok (.iadd, 1) := by decide +kernel
theorem dL_begins_204 : decode cL_begins 204 = .ok (.iastore, 1) := by decide +kernel
theorem dL_begins_205 : decode cL_begins 205 = .ok (.aload_n 1, 1) := by decide +kernel
theorem dL_begins_206 : decode cL_begins 206 = .ok (.getfield 310, 3) := by decide +kernel
theorem dL_begins_209 : decode cL_begins 209 = .ok (.iload 4, 2) := by decide +kernel
theorem dL_begins_211 : decode cL_begins 211 = .ok (.bipush (-99), 2) := by decide +kernel
theorem dL_begins_213 : decode cL_begins 213 = .ok (.iastore, 1) := by decide +kernel
theorem dL_begins_214 : decode cL_begins 214 = .ok (.aload_n 3, 1) := by decide +kernel
theorem dL_begins_215 : decode cL_begins 215 = .ok (.ldc_w 344, 3) := by decide +kernel
theorem dL_begins_218 : decode cL_begins 218 = .ok (.invokevirtual 136, 3) := by decide +kernel
theorem dL_begins_221 : decode cL_begins 221 = .ok (.aload_n 1, 1) := by decide +kernel
theorem dL_begins_222 : decode cL_begins 222 = .ok (.getfield 58, 3) := by decide +kernel
theorem dL_begins_225 : decode cL_begins 225 = .ok (.iload 4, 2) := by decide +kernel
theorem dL_begins_227 : decode cL_begins 227 = .ok (.iaload, 1) := by decide +kernel
theorem dL_begins_228 : decode cL_begins 228 = .ok (.invokevirtual 141, 3) := by decide +kernel
theorem dL_begins_231 : decode cL_begins 231 = .ok (.bipush 32, 2) := by decide +kernel
theorem dL_begins_233 : decode cL_begins 233 = .ok (.invokevirtual 68, 3) := by decide +kernel
theorem dL_begins_236 : decode cL_begins 236 = .ok (.aload_n 1, 1) := by decide +kernel
theorem dL_begins_237 : decode cL_begins 237 = .ok (.getfield 153, 3) := by decide +kernel
theorem dL_begins_240 : decode cL_begins 240 = .ok (.iload 4, 2) := by decide +kernel
theorem dL_begins_242 : decode cL_begins 242 = .ok (.iaload, 1) := by decide +kernel
theorem dL_begins_243 : decode cL_begins 243 = .ok (.invokevirtual 141, 3) := by decide +kernel
theorem dL_begins_246 : decode cL_begins 246 = .ok (.bipush 32, 2) := by decide +kernel
theorem dL_begins_248 : decode cL_begins 248 = .ok (.invokevirtual 68, 3) := by decide +kernel
theorem dL_begins_251 : decode cL_begins 251 = .ok (.aload_n 1, 1) := by decide +kernel
theorem dL_begins_252 : decode cL_begins 252 = .ok (.getfield 341, 3) := by decide +kernel
theorem dL_begins_255 : decode cL_begins 255 = .ok (.iload 4, 2) := by decide +kernel
theorem dL_begins_257 : decode cL_begins 257 = .ok (.iaload, 1) := by decide +kernel
theorem dL_begins_258 : decode cL_begins 258 = .ok (.invokevirtual 141, 3) := by decide +kernel
theorem dL_begins_261 : decode cL_begins 261 = .ok (.bipush 59, 2) := by decide +kernel
theorem dL_begins_263 : decode cL_begins 263 = .ok (.invokevirtual 68, 3) := by decide +kernel
theorem dL_begins_266 : decode cL_begins 266 = .ok (.pop, 1) := by decide +kernel
theorem dL_begins_267 : decode cL_begins 267 = .ok (.iinc 4 1, 3) := by decide +kernel
theorem dL_begins_270 : decode cL_begins 270 = .ok (.goto (-158), 3) := by decide +kernel
theorem dL_begins_273 : decode cL_begins 273 = .ok (.iconst 0, 1) := by decide +kernel
theorem dL_begins_274 : decode cL_begins 274 = .ok (.istore 4, 2) := by decide +kernel
theorem dL_begins_276 : decode cL_begins 276 = .ok (.iload 4, 2) := by decide +kernel
theorem dL_begins_278 : decode cL_begins 278 = .ok (.bipush 28, 2) := by decide +kernel
theorem dL_begins_280 : decode cL_begins 280 = .ok (.if_icmp .ge 128, 3) := by decide +kernel
theorem dL_begins_283 : decode cL_begins 283 = .ok (.aload_n 2, 1) := by decide +kernel
theorem dL_begins_284 : decode cL_begins 284 = .ok (.bipush 40, 2) := by decide +kernel
theorem dL_begins_286 : decode cL_begins 286 = .ok (.iconst 3, 1) := by decide +kernel
theorem dL_begins_287 : decode cL_begins 287 = .ok (.iload 4, 2) := by decide +kernel
theorem dL_begins_289 : decode cL_begins 289 = .ok (.imul, 1) := by decide +kernel
theorem dL_begins_290 : decode cL_begins 290 = .ok (.iadd, 1) := by decide +kernel
theorem dL_begins_291 : decode cL_begins 291 = .ok (.iconst 4, 1) := by decide +kernel
theorem dL_begins_292 : decode cL_begins 292 = .ok (.invokestatic 316, 3) := by decide +kernel
theorem dL_begins_295 : decode cL_begins 295 = .ok (.iconst 3, 1) := by decide +kernel
theorem dL_begins_296 : decode cL_begins 296 = .ok (.irem, 1) := by decide +kernel
theorem dL_begins_297 : decode cL_begins 297 = .ok (.istore 5, 2) := by decide +kernel
theorem dL_begins_299 : decode cL_begins 299 = .ok (.aload_n 2, 1) := by decide +kernel
theorem dL_begins_300 : decode cL_begins 300 = .ok (.bipush 41, 2) := by decide +kernel
theorem dL_begins_302 : decode cL_begins 302 = .ok (.iconst 3, 1) := by decide +kernel
theorem dL_begins_303 : decode cL_begins 303 = .ok (.iload 4, 2) := by decide +kernel
theorem dL_begins_305 : decode cL_begins 305 = .ok (.imul, 1) := by decide +kernel
theorem dL_begins_306 : decode cL_begins 306 = .ok (.iadd, 1) := by decide +kernel
theorem dL_begins_307 : decode cL_begins 307 = .ok (.aload_n 1, 1) := by decide +kernel
theorem dL_begins_308 : decode cL_begins 308 = .ok (.getfield 44, 3) := by decide +kernel
theorem dL_begins_311 : decode cL_begins 311 = .ok (.invokestatic 316, 3) := by decide +kernel
theorem dL_begins_314 : decode cL_begins 314 = .ok (.istore 6, 2) := by decide +kernel
theorem dL_begins_316 : decode cL_begins 316 = .ok (.aload_n 2, 1) := by decide +kernel
theorem dL_begins_317 : decode cL_begins 317 = .ok (.bipush 42, 2) := by decide +kernel
theorem dL_begins_319 : decode cL_begins 319 = .ok (.iconst 3, 1) := by decide +kernel
theorem dL_begins_320 : decode cL_begins 320 = .ok (.iload 4, 2) := by decide +kernel
theorem dL_begins_322 : decode cL_begins 322 = .ok (.imul, 1) := by decide +kernel
theorem dL_begins_323 : decode cL_begins 323 = .ok (.iadd, 1) := by decide +kernel
theorem dL_begins_324 : decode cL_begins 324 = .ok (.aload_n 1, 1) := by decide +kernel
theorem dL_begins_325 : decode cL_begins 325 = .ok (.getfield 51, 3) := by decide +kernel
theorem dL_begins_328 : decode cL_begins 328 = .ok (.invokestatic 316, 3) := by decide +kernel
theorem dL_begins_331 : decode cL_begins 331 = .ok (.istore 7, 2) := by decide +kernel
theorem dL_begins_333 : decode cL_begins 333 = .ok (.aload_n 1, 1) := by decide +kernel
theorem dL_begins_334 : decode cL_begins 334 = .ok (.iload 5, 2) := by decide +kernel
theorem dL_begins_336 : decode cL_begins 336 = .ok (.iload 6, 2) := by decide +kernel
theorem dL_begins_338 : decode cL_begins 338 = .ok (.iload 7, 2) := by decide +kernel
theorem dL_begins_340 : decode cL_begins 340 = .ok (.invokevirtual 54, 3) := by decide +kernel
theorem dL_begins_343 : decode cL_begins 343 = .ok (.ifCond .eq 6, 3) := by decide +kernel
theorem dL_begins_346 : decode cL_begins 346 = .ok (.goto 56, 3) := by decide +kernel
theorem dL_begins_349 : decode cL_begins 349 = .ok (.aload_n 1, 1) := by decide +kernel
theorem dL_begins_350 : decode cL_begins 350 = .ok (.getfield 273, 3) := by decide +kernel
theorem dL_begins_353 : decode cL_begins 353 = .ok (.iload 5, 2) := by decide +kernel
theorem dL_begins_355 : decode cL_begins 355 = .ok (.iload 6, 2) := by decide +kernel
theorem dL_begins_357 : decode cL_begins 357 = .ok (.iload 7, 2) := by decide +kernel
theorem dL_begins_359 : decode cL_begins 359 = .ok (.invokestatic 270, 3) := by decide +kernel
theorem dL_begins_362 : decode cL_begins 362 = .ok (.iconst 1, 1) := by decide +kernel
theorem dL_begins_363 : decode cL_begins 363 = .ok (.bastore, 1) := by decide +kernel
theorem dL_begins_364 : decode cL_begins 364 = .ok (.aload_n 3, 1) := by decide +kernel
theorem dL_begins_365 : decode cL_begins 365 = .ok (.ldc_w 346, 3) := by decide +kernel
theorem dL_begins_368 : decode cL_begins 368 = .ok (.invokevirtual 136, 3) := by decide +kernel
theorem dL_begins_371 : decode cL_begins 371 = .ok (.iload 5, 2) := by decide +kernel
theorem dL_begins_373 : decode cL_begins 373 = .ok (.invokevirtual 141, 3) := by decide +kernel
theorem dL_begins_376 : decode cL_begins 376 = .ok (.bipush 32, 2) := by decide +kernel
theorem dL_begins_378 : decode cL_begins 378 = .ok (.invokevirtual 68, 3) := by decide +kernel
theorem dL_begins_381 : decode cL_begins 381 = .ok (.iload 6, 2) := by decide +kernel
theorem dL_begins_383 : decode cL_begins 383 = .ok (.invokevirtual 141, 3) := by decide +kernel
theorem dL_begins_386 : decode cL_begins 386 = .ok (.bipush 32, 2) := by decide +kernel
theorem dL_begins_388 : decode cL_begins 388 = .ok (.invokevirtual 68, 3) := by decide +kernel
theorem dL_begins_391 : decode cL_begins 391 = .ok (.iload 7, 2) := by decide +kernel
theorem dL_begins_393 : decode cL_begins 393 = .ok (.invokevirtual 141, 3) := by decide +kernel
theorem dL_begins_396 : decode cL_begins 396 = .ok (.bipush 59, 2) := by decide +kernel
theorem dL_begins_398 : decode cL_begins 398 = .ok (.invokevirtual 68, 3) := by decide +kernel
theorem dL_begins_401 : decode cL_begins 401 = .ok (.pop, 1) := by decide +kernel
theorem dL_begins_402 : decode cL_begins 402 = .ok (.iinc 4 1, 3) := by decide +kernel
theorem dL_begins_405 : decode cL_begins 405 = .ok (.goto (-129), 3) := by decide +kernel
theorem dL_begins_408 : decode cL_begins 408 = .ok (.aload_n 0, 1) := by decide +kernel
theorem dL_begins_409 : decode cL_begins 409 = .ok (.aload_n 3, 1) := by decide +kernel
theorem dL_begins_410 : decode cL_begins 410 = .ok (.invokevirtual 83, 3) := by decide +kernel
theorem dL_begins_413 : decode cL_begins 413 = .ok (.invokestatic 348, 3) := by decide +kernel
theorem dL_begins_416 : decode cL_begins 416 = .ok (.ifCond .eq 22, 3) := by decide +kernel
theorem dL_begins_419 : decode cL_begins 419 = .ok (.aload_n 0, 1) := by decide +kernel
theorem dL_begins_420 : decode cL_begins 420 = .ok (.invokevirtual 352, 3) := by decide +kernel
theorem dL_begins_423 : decode cL_begins 423 = .ok (.ifCond .ne 15, 3) := by decide +kernel
theorem dL_begins_426 : decode cL_begins 426 = .ok (.aload_n 0, 1) := by decide +kernel
theorem dL_begins_427 : decode cL_begins 427 = .ok (.invokevirtual 355, 3) := by decide +kernel
theorem dL_begins_430 : decode cL_begins 430 = .ok (.iconst (-1), 1) := by decide +kernel
theorem dL_begins_431 : decode cL_begins 431 = .ok (.if_icmp .ne 7, 3) := by decide +kernel
theorem dL_begins_434 : decode cL_begins 434 = .ok (.iconst 1, 1) := by decide +kernel
theorem dL_begins_435 : decode cL_begins 435 = .ok (.goto 4, 3) := by decide +kernel
theorem dL_begins_438 : decode cL_begins 438 = .ok (.iconst 0, 1) := by decide +kernel
theorem dL_begins_439 : decode cL_begins 439 = .ok (.ireturn, 1) := by decide +kernel
def fL_begins_L112 (k : Nat) (L : Nat) (xs : Nat → Int32) (K : Int32 → Mm → Option (Int32 × Mm)) : Nat → Int32 → Mm → Option (Int32 × Mm)
  | 0, _, _ => none
  | n + 1, v4, M => if (M.1 (18, k, 0) 3) ≤ v4 then K v4 M else (pickF L xs ((4 : Int32) + ((3 : Int32) * v4)) (61 : Int32)).bind fun q27 => if v4 < 0 ∨ 12 ≤ v4.toNatClampNeg then none else (pickF L xs ((5 : Int32) + ((3 : Int32) * v4)) (9 : Int32)).bind fun q30 => if v4 < 0 ∨ 12 ≤ v4.toNatClampNeg then none else (pickF L xs ((6 : Int32) + ((3 : Int32) * v4)) (2 : Int32)).bind fun q33 => if q33 = 0 then ((pickF L xs ((6 : Int32) + ((3 : Int32) * v4)) (990 : Int32)).bind fun q57 => if v4 < 0 ∨ 12 ≤ v4.toNatClampNeg then none else if v4 < 0 ∨ 12 ≤ v4.toNatClampNeg then none else (fJ4_append_15ec4K (putI (putI (putI (putI M (19, k, 0) v4.toNatClampNeg q27) (19, k, 2) v4.toNatClampNeg ((1 : Int32) + q30)) (19, k, 3) v4.toNatClampNeg ((10 : Int32) + q57)) (19, k, 5) v4.toNatClampNeg (-99 : Int32)) 0 12 1406).bind fun q61 => if v4 < 0 ∨ 12 ≤ v4.toNatClampNeg then none else (fJ4_append_bf812 q61 0 (q61.1 (19, k, 0) v4.toNatClampNeg) 1406).bind fun q64 => (fJ4_append_cf468 q64 0 (32 : Int32) 1406).bind fun q66 => if v4 < 0 ∨ 12 ≤ v4.toNatClampNeg then none else (fJ4_append_bf812 q66 0 (q66.1 (19, k, 2) v4.toNatClampNeg) 1406).bind fun q69 => (fJ4_append_cf468 q69 0 (32 : Int32) 1406).bind fun q71 => if v4 < 0 ∨ 12 ≤ v4.toNatClampNeg then none else (fJ4_append_bf812 q71 0 (q71.1 (19, k, 3) v4.toNatClampNeg) 1406).bind fun q74 => (fJ4_append_cf468 q74 0 (59 : Int32) 1406).bind fun q76 => fL_begins_L112 k L xs K n (v4 + (1 : Int32)) q76) else (pickF L xs ((6 : Int32) + ((3 : Int32) * v4)) (40 : Int32)).bind fun q36 => if v4 < 0 ∨ 12 ≤ v4.toNatClampNeg then none else if v4 < 0 ∨ 12 ≤ v4.toNatClampNeg then none else (fJ4_append_15ec4K (putI (putI (putI (putI M (19, k, 0) v4.toNatClampNeg q27) (19, k, 2) v4.toNatClampNeg ((1 : Int32) + q30)) (19, k, 3) v4.toNatClampNeg ((10 : Int32) + q36)) (19, k, 5) v4.toNatClampNeg (-99 : Int32)) 0 12 1406).bind fun q40 => if v4 < 0 ∨ 12 ≤ v4.toNatClampNeg then none else (fJ4_append_bf812 q40 0 (q40.1 (19, k, 0) v4.toNatClampNeg) 1406).bind fun q43 => (fJ4_append_cf468 q43 0 (32 : Int32) 1406).bind fun q45 => if v4 < 0 ∨ 12 ≤ v4.toNatClampNeg then none else (fJ4_append_bf812 q45 0 (q45.1 (19, k, 2) v4.toNatClampNeg) 1406).bind fun q48 => (fJ4_append_cf468 q48 0 (32 : Int32) 1406).bind fun q50 => if v4 < 0 ∨ 12 ≤ v4.toNatClampNeg then none else (fJ4_append_bf812 q50 0 (q50.1 (19, k, 3) v4.toNatClampNeg) 1406).bind fun q53 => (fJ4_append_cf468 q53 0 (59 : Int32) 1406).bind fun q55 => fL_begins_L112 k L xs K n (v4 + (1 : Int32)) q55
def fL_begins_L276 (k : Nat) (L : Nat) (xs : Nat → Int32) (K : Int32 → Mm → Option (Int32 × Mm)) : Nat → Int32 → Mm → Option (Int32 × Mm)
  | 0, _, _ => none
  | n + 1, v4, M => if (28 : Int32) ≤ v4 then K v4 M else (pickF L xs ((40 : Int32) + ((3 : Int32) * v4)) (4 : Int32)).bind fun q81 => (pickF L xs ((41 : Int32) + ((3 : Int32) * v4)) (M.1 (18, k, 0) 3)).bind fun q83 => (pickF L xs ((42 : Int32) + ((3 : Int32) * v4)) (M.1 (18, k, 0) 0)).bind fun q85 => (fX10_has M k (q81 - q81 / (3 : Int32) * (3 : Int32)) q83 q85).bind fun q87 => if q87 = 0 then (if (fX10_place M (q81 - q81 / (3 : Int32) * (3 : Int32)) q83 q85) < 0 ∨ 2304 ≤ (fX10_place M (q81 - q81 / (3 : Int32) * (3 : Int32)) q83 q85).toNatClampNeg then none else (fJ4_append_15ec4K (putI M (20, k, 0) (fX10_place M (q81 - q81 / (3 : Int32) * (3 : Int32)) q83 q85).toNatClampNeg (1 : Int32)) 0 13 1406).bind fun q91 => (fJ4_append_bf812 q91 0 (q81 - q81 / (3 : Int32) * (3 : Int32)) 1406).bind fun q93 => (fJ4_append_cf468 q93 0 (32 : Int32) 1406).bind fun q95 => (fJ4_append_bf812 q95 0 q83 1406).bind fun q97 => (fJ4_append_cf468 q97 0 (32 : Int32) 1406).bind fun q99 => (fJ4_append_bf812 q99 0 q85 1406).bind fun q101 => (fJ4_append_cf468 q101 0 (59 : Int32) 1406).bind fun q103 => fL_begins_L276 k L xs K n (v4 + (1 : Int32)) q103) else fL_begins_L276 k L xs K n (v4 + (1 : Int32)) M
def fL_begins (M : Mm) (k : Nat) (L : Nat) (xs : Nat → Int32) : Option (Int32 × Mm) := (pickF L xs (0 : Int32) (2 : Int32)).bind fun q1 => if q1 = 0 then ((pickF L xs (0 : Int32) (61 : Int32)).bind fun q116 => (pickF L xs (1 : Int32) (21 : Int32)).bind fun q118 => (pickF L xs (2 : Int32) (91 : Int32)).bind fun q120 => (pickF L xs (3 : Int32) (12 : Int32)).bind fun q122 => (fJ5_init_K (mN (putI (putI (putI (putI M (18, k, 0) 0 ((4 : Int32) + q116)) (18, k, 0) 1 q118) (18, k, 0) 2 q120) (18, k, 0) 3 ((1 : Int32) + q122)) (24, 0, 0)) 0 11 1406).bind fun q124 => (fJ4_append_bf812 q124 0 (q124.1 (18, k, 0) 0) 1406).bind fun q126 => (fJ4_append_cf468 q126 0 (32 : Int32) 1406).bind fun q128 => (fJ4_append_bf812 q128 0 (q128.1 (18, k, 0) 1) 1406).bind fun q130 => (fJ4_append_cf468 q130 0 (32 : Int32) 1406).bind fun q132 => (fJ4_append_bf812 q132 0 (q132.1 (18, k, 0) 2) 1406).bind fun q134 => (fJ4_append_cf468 q134 0 (59 : Int32) 1406).bind fun q136 => fL_begins_L112 k L xs (fun w138 M139 => fL_begins_L276 k L xs (fun w140 M141 => (fJ4_toString M141 0 0 1406).bind fun q142 => (fL_feeds q142 0).bind fun q144 => if q144.1 = 0 then some ((0 : Int32), q144.2) else (fX9_load q144.2).bind fun q147 => if q147.1 = 0 then (if (fX9_errorPosition q147.2) = (-1 : Int32) then some ((1 : Int32), q147.2) else some ((0 : Int32), q147.2)) else some ((0 : Int32), q147.2)) 29 (0 : Int32) M139) 13 (0 : Int32) q136) else (pickF L xs (0 : Int32) (13 : Int32)).bind fun q4 => (pickF L xs (1 : Int32) (21 : Int32)).bind fun q6 => (pickF L xs (2 : Int32) (91 : Int32)).bind fun q8 => (pickF L xs (3 : Int32) (12 : Int32)).bind fun q10 => (fJ5_init_K (mN (putI (putI (putI (putI M (18, k, 0) 0 ((4 : Int32) + q4)) (18, k, 0) 1 q6) (18, k, 0) 2 q8) (18, k, 0) 3 ((1 : Int32) + q10)) (24, 0, 0)) 0 11 1406).bind fun q12 => (fJ4_append_bf812 q12 0 (q12.1 (18, k, 0) 0) 1406).bind fun q14 => (fJ4_append_cf468 q14 0 (32 : Int32) 1406).bind fun q16 => (fJ4_append_bf812 q16 0 (q16.1 (18, k, 0) 1) 1406).bind fun q18 => (fJ4_append_cf468 q18 0 (32 : Int32) 1406).bind fun q20 => (fJ4_append_bf812 q20 0 (q20.1 (18, k, 0) 2) 1406).bind fun q22 => (fJ4_append_cf468 q22 0 (59 : Int32) 1406).bind fun q24 => fL_begins_L112 k L xs (fun w78 M79 => fL_begins_L276 k L xs (fun w105 M106 => (fJ4_toString M106 0 0 1406).bind fun q107 => (fL_feeds q107 0).bind fun q109 => if q109.1 = 0 then some ((0 : Int32), q109.2) else (fX9_load q109.2).bind fun q112 => if q112.1 = 0 then (if (fX9_errorPosition q112.2) = (-1 : Int32) then some ((1 : Int32), q112.2) else some ((0 : Int32), q112.2)) else some ((0 : Int32), q112.2)) 29 (0 : Int32) M79) 13 (0 : Int32) q24
set_option maxRecDepth 20000 in
set_option maxHeartbeats 4000000 in
theorem sL_begins_L112 {w0 wv : Wv} {b : Nat} (k : Nat) (L : Nat) (xs : Nat → Int32) (hw : SubW w0 wv) (owk : OwI wv k) (tb0 : TbI wv 0) (hf : FrI wv [(27, 0, 0), (28, 0, 0), (29, 0, 0)]) (hV : NoV w0 0) {res : (Int32 × Mm)} {K : Int32 → Mm → Option (Int32 × Mm)} {CB SB : Nat} (hcb : CB ≤ 305) (hsb : SB ≤ 426026) : ∀ (n : Nat) (v4 : Int32) (M : Mm) (c s : Nat), c + n * 7 ≤ CB → s + n * 9842 ≤ SB → fL_begins_L112 k L xs K n v4 M = some res →
    (∀ (v4 : Int32) (M : Mm) (c s : Nat), c ≤ CB → s ≤ SB → K v4 M = some res → Z RL cL_begins 8 (some .boolean) [] "begins" (rmD 13 305 426026) (QS b L xs (QM SH (allR w0) 305 426026 (fun v M9 => v = some (.int res.1) ∧ M9 = res.2) (fun _ _ => False))) (allR wv) SH c s 273 [some (.inr (0, 0, 0)), some (.inr (18, k, 0)), some (.inl (.ref b)), some (.inr (24, 0, 0)), some (.inl (.int v4)), none, none, none] [] M) → Z RL cL_begins 8 (some .boolean) [] "begins" (rmD 13 305 426026) (QS b L xs (QM SH (allR w0) 305 426026 (fun v M9 => v = some (.int res.1) ∧ M9 = res.2) (fun _ _ => False))) (allR wv) SH c s 112 [some (.inr (0, 0, 0)), some (.inr (18, k, 0)), some (.inl (.ref b)), some (.inr (24, 0, 0)), some (.inl (.int v4)), none, none, none] [] M := by
  intro n
  induction n with
  | zero => intro v4 M c s _ _ h; cases h
  | succ n ih =>
    intro v4 M c s hc hs h hK
    have qv := qs_N (b := b) (L := L) (xs := xs) (qm_N (mc := 305) (ms := 426026) (sh := SH) (PR := fun v M9 => v = some (.int res.1) ∧ M9 = res.2) (PX := fun _ _ => False) hV)
    rw [fL_begins_L112] at h
    refine z_iload (i := 4) dL_begins_112 rfl ?_
    refine z_aload_n (i := 1) dL_begins_114 rfl rfl ?_
    refine z_getIG (x := (M.1 (18, k, 0) 3)) dL_begins_115 fg_L_44 owk.1 rfl rfl ?_
    refine z_icmp_ge (tgt := 273) dL_begins_118 rfl (fun hc26 => ?_) (fun hc26 => ?_)
    · have h := it_t h hc26
      exact hK _ _ _ _ (by omega) (by omega) h
    · have h := it_f h hc26
      refine z_aload_n (i := 1) dL_begins_121 rfl rfl ?_
      refine z_getRG (r' := (19, k, 0)) dL_begins_122 fg_L_58 owk.1 rfl rfl ?_
      refine z_iload (i := 4) dL_begins_125 rfl ?_
      refine z_aloadQ_n (i := 2) dL_begins_127 rfl rfl ?_
      refine z_iconst (v := (4 : Int32)) dL_begins_128 kc_4 ?_
      refine z_iconst (v := (3 : Int32)) dL_begins_129 kc_3 ?_
      refine z_iload (i := 4) dL_begins_130 rfl ?_
      refine z_imul dL_begins_132 ?_
      refine z_iadd dL_begins_133 ?_
      refine z_bipush (v := (61 : Int32)) dL_begins_134 kb_61 ?_
      obtain ⟨q27, hq28, h⟩ := bnd h
      refine z_gSix qv_S (sL_pick b M L xs ((4 : Int32) + ((3 : Int32) * v4)) (61 : Int32) hq28) dL_begins_136 ml_L_316 cd_L_pick rfl rfl (rq_o (by decide) (by decide) (by omega) (by omega)) rfl rfl ?_
      obtain ⟨hc29, h⟩ := chk h
      refine z_iast (j := v4.toNatClampNeg) allR_nd dL_begins_139 (owk.2.2 0 (Nat.le_of_ble_eq_true rfl)) rfl hc29 rfl ?_
      refine z_aload_n (i := 1) dL_begins_140 rfl rfl ?_
      refine z_getRG (r' := (19, k, 2)) dL_begins_141 fg_L_153 owk.1 rfl rfl ?_
      refine z_iload (i := 4) dL_begins_144 rfl ?_
      refine z_iconst (v := (1 : Int32)) dL_begins_146 kc_1 ?_
      refine z_aloadQ_n (i := 2) dL_begins_147 rfl rfl ?_
      refine z_iconst (v := (5 : Int32)) dL_begins_148 kc_5 ?_
      refine z_iconst (v := (3 : Int32)) dL_begins_149 kc_3 ?_
      refine z_iload (i := 4) dL_begins_150 rfl ?_
      refine z_imul dL_begins_152 ?_
      refine z_iadd dL_begins_153 ?_
      refine z_bipush (v := (9 : Int32)) dL_begins_154 kb_9 ?_
      obtain ⟨q30, hq31, h⟩ := bnd h
      refine z_gSix qv_S (sL_pick b (putI M (19, k, 0) v4.toNatClampNeg q27) L xs ((5 : Int32) + ((3 : Int32) * v4)) (9 : Int32) hq31) dL_begins_156 ml_L_316 cd_L_pick rfl rfl (rq_o (by decide) (by decide) (by omega) (by omega)) rfl rfl ?_
      refine z_iadd dL_begins_159 ?_
      obtain ⟨hc32, h⟩ := chk h
      refine z_iast (j := v4.toNatClampNeg) allR_nd dL_begins_160 (owk.2.2 2 (Nat.le_of_ble_eq_true rfl)) rfl hc32 rfl ?_
      refine z_aload_n (i := 1) dL_begins_161 rfl rfl ?_
      refine z_getRG (r' := (19, k, 3)) dL_begins_162 fg_L_341 owk.1 rfl rfl ?_
      refine z_iload (i := 4) dL_begins_165 rfl ?_
      refine z_bipush (v := (10 : Int32)) dL_begins_167 kb_10 ?_
      refine z_aloadQ_n (i := 2) dL_begins_169 rfl rfl ?_
      refine z_bipush (v := (6 : Int32)) dL_begins_170 kb_6 ?_
      refine z_iconst (v := (3 : Int32)) dL_begins_172 kc_3 ?_
      refine z_iload (i := 4) dL_begins_173 rfl ?_
      refine z_imul dL_begins_175 ?_
      refine z_iadd dL_begins_176 ?_
      refine z_aloadQ_n (i := 2) dL_begins_177 rfl rfl ?_
      refine z_bipush (v := (6 : Int32)) dL_begins_178 kb_6 ?_
      refine z_iconst (v := (3 : Int32)) dL_begins_180 kc_3 ?_
      refine z_iload (i := 4) dL_begins_181 rfl ?_
      refine z_imul dL_begins_183 ?_
      refine z_iadd dL_begins_184 ?_
      refine z_iconst (v := (2 : Int32)) dL_begins_185 kc_2 ?_
      obtain ⟨q33, hq34, h⟩ := bnd h
      refine z_gSix qv_S (sL_pick b (putI (putI M (19, k, 0) v4.toNatClampNeg q27) (19, k, 2) v4.toNatClampNeg ((1 : Int32) + q30)) L xs ((6 : Int32) + ((3 : Int32) * v4)) (2 : Int32) hq34) dL_begins_186 ml_L_316 cd_L_pick rfl rfl (rq_o (by decide) (by decide) (by omega) (by omega)) rfl rfl ?_
      refine z_if_ne (tgt := 198) dL_begins_189 rfl (fun hc35 => ?_) (fun hc35 => ?_)
      · have h := it_f h hc35
        refine z_bipush (v := (40 : Int32)) dL_begins_198 kb_40 ?_
        obtain ⟨q36, hq37, h⟩ := bnd h
        refine z_gSix qv_S (sL_pick b (putI (putI M (19, k, 0) v4.toNatClampNeg q27) (19, k, 2) v4.toNatClampNeg ((1 : Int32) + q30)) L xs ((6 : Int32) + ((3 : Int32) * v4)) (40 : Int32) hq37) dL_begins_200 ml_L_316 cd_L_pick rfl rfl (rq_o (by decide) (by decide) (by omega) (by omega)) rfl rfl ?_
        refine z_iadd dL_begins_203 ?_
        obtain ⟨hc38, h⟩ := chk h
        refine z_iast (j := v4.toNatClampNeg) allR_nd dL_begins_204 (owk.2.2 3 (Nat.le_of_ble_eq_true rfl)) rfl hc38 rfl ?_
        refine z_aload_n (i := 1) dL_begins_205 rfl rfl ?_
        refine z_getRG (r' := (19, k, 5)) dL_begins_206 fg_L_310 owk.1 rfl rfl ?_
        refine z_iload (i := 4) dL_begins_209 rfl ?_
        refine z_bipush (v := (-99 : Int32)) dL_begins_211 kb_m99 ?_
        obtain ⟨hc39, h⟩ := chk h
        refine z_iast (j := v4.toNatClampNeg) allR_nd dL_begins_213 (owk.2.2 5 (Nat.le_of_ble_eq_true rfl)) rfl hc39 rfl ?_
        refine z_aload_n (i := 3) dL_begins_214 rfl rfl ?_
        refine z_ldcwS (j := 12) dL_begins_215 sw_RL_344 ?_
        obtain ⟨q40, hq41, h⟩ := bnd h
        refine z_cGV (sJ4_append_15ec4K (putI (putI (putI (putI M (19, k, 0) v4.toNatClampNeg q27) (19, k, 2) v4.toNatClampNeg ((1 : Int32) + q30)) (19, k, 3) v4.toNatClampNeg ((10 : Int32) + q36)) (19, k, 5) v4.toNatClampNeg (-99 : Int32)) 0 12 1406 tb0 (Nat.le_of_ble_eq_true rfl) (by decide) (frS hf rfl) hq41) dL_begins_218 ml_L_136 cd_J4_append_15ec4 tb0.1 rfl rfl rfl (rq_o (by decide) (by decide) (by omega) (by omega)) rfl rfl (qi_N qv rfl) rfl rfl rfl ?_
        refine z_aload_n (i := 1) dL_begins_221 rfl rfl ?_
        refine z_getRG (r' := (19, k, 0)) dL_begins_222 fg_L_58 owk.1 rfl rfl ?_
        refine z_iload (i := 4) dL_begins_225 rfl ?_
        obtain ⟨hc42, h⟩ := chk h
        refine z_iald (x := (q40.1 (19, k, 0) v4.toNatClampNeg)) dL_begins_227 (owk.2.2 0 (Nat.le_of_ble_eq_true rfl)) rfl hc42 rfl ?_
        obtain ⟨q43, hq44, h⟩ := bnd h
        refine z_cGV (sJ4_append_bf812 q40 0 (q40.1 (19, k, 0) v4.toNatClampNeg) 1406 tb0 (by decide) (frS hf rfl) hq44) dL_begins_228 ml_L_141 cd_J4_append_bf812 tb0.1 rfl rfl rfl (rq_o (by decide) (by decide) (by omega) (by omega)) rfl rfl (qi_N qv rfl) rfl rfl rfl ?_
        refine z_bipush (v := (32 : Int32)) dL_begins_231 kb_32 ?_
        obtain ⟨q45, hq46, h⟩ := bnd h
        refine z_cGV (sJ4_append_cf468 q43 0 (32 : Int32) 1406 tb0 (by decide) (frS hf rfl) hq46) dL_begins_233 ml_L_68 cd_J4_append_cf468 tb0.1 rfl rfl rfl (rq_o (by decide) (by decide) (by omega) (by omega)) rfl rfl (qi_N qv rfl) rfl rfl rfl ?_
        refine z_aload_n (i := 1) dL_begins_236 rfl rfl ?_
        refine z_getRG (r' := (19, k, 2)) dL_begins_237 fg_L_153 owk.1 rfl rfl ?_
        refine z_iload (i := 4) dL_begins_240 rfl ?_
        obtain ⟨hc47, h⟩ := chk h
        refine z_iald (x := (q45.1 (19, k, 2) v4.toNatClampNeg)) dL_begins_242 (owk.2.2 2 (Nat.le_of_ble_eq_true rfl)) rfl hc47 rfl ?_
        obtain ⟨q48, hq49, h⟩ := bnd h
        refine z_cGV (sJ4_append_bf812 q45 0 (q45.1 (19, k, 2) v4.toNatClampNeg) 1406 tb0 (by decide) (frS hf rfl) hq49) dL_begins_243 ml_L_141 cd_J4_append_bf812 tb0.1 rfl rfl rfl (rq_o (by decide) (by decide) (by omega) (by omega)) rfl rfl (qi_N qv rfl) rfl rfl rfl ?_
        refine z_bipush (v := (32 : Int32)) dL_begins_246 kb_32 ?_
        obtain ⟨q50, hq51, h⟩ := bnd h
        refine z_cGV (sJ4_append_cf468 q48 0 (32 : Int32) 1406 tb0 (by decide) (frS hf rfl) hq51) dL_begins_248 ml_L_68 cd_J4_append_cf468 tb0.1 rfl rfl rfl (rq_o (by decide) (by decide) (by omega) (by omega)) rfl rfl (qi_N qv rfl) rfl rfl rfl ?_
        refine z_aload_n (i := 1) dL_begins_251 rfl rfl ?_
        refine z_getRG (r' := (19, k, 3)) dL_begins_252 fg_L_341 owk.1 rfl rfl ?_
        refine z_iload (i := 4) dL_begins_255 rfl ?_
        obtain ⟨hc52, h⟩ := chk h
        refine z_iald (x := (q50.1 (19, k, 3) v4.toNatClampNeg)) dL_begins_257 (owk.2.2 3 (Nat.le_of_ble_eq_true rfl)) rfl hc52 rfl ?_
        obtain ⟨q53, hq54, h⟩ := bnd h
        refine z_cGV (sJ4_append_bf812 q50 0 (q50.1 (19, k, 3) v4.toNatClampNeg) 1406 tb0 (by decide) (frS hf rfl) hq54) dL_begins_258 ml_L_141 cd_J4_append_bf812 tb0.1 rfl rfl rfl (rq_o (by decide) (by decide) (by omega) (by omega)) rfl rfl (qi_N qv rfl) rfl rfl rfl ?_
        refine z_bipush (v := (59 : Int32)) dL_begins_261 kb_59 ?_
        obtain ⟨q55, hq56, h⟩ := bnd h
        refine z_cGV (sJ4_append_cf468 q53 0 (59 : Int32) 1406 tb0 (by decide) (frS hf rfl) hq56) dL_begins_263 ml_L_68 cd_J4_append_cf468 tb0.1 rfl rfl rfl (rq_o (by decide) (by decide) (by omega) (by omega)) rfl rfl (qi_N qv rfl) rfl rfl rfl ?_
        refine z_pop dL_begins_266 rfl ?_
        refine z_iinc (i := 4) (v := (v4 + (1 : Int32))) dL_begins_267 rfl (iinc_k kc_1) (Nat.le_of_ble_eq_true rfl) rfl ?_
        refine z_goto (tgt := 112) dL_begins_270 rfl ?_
        exact ih _ _ _ _ (by omega) (by omega) h hK
      · have h := it_t h hc35
        refine z_sipush (v := (990 : Int32)) dL_begins_192 ks_990 ?_
        refine z_goto (tgt := 200) dL_begins_195 rfl ?_
        obtain ⟨q57, hq58, h⟩ := bnd h
        refine z_gSix qv_S (sL_pick b (putI (putI M (19, k, 0) v4.toNatClampNeg q27) (19, k, 2) v4.toNatClampNeg ((1 : Int32) + q30)) L xs ((6 : Int32) + ((3 : Int32) * v4)) (990 : Int32) hq58) dL_begins_200 ml_L_316 cd_L_pick rfl rfl (rq_o (by decide) (by decide) (by omega) (by omega)) rfl rfl ?_
        refine z_iadd dL_begins_203 ?_
        obtain ⟨hc59, h⟩ := chk h
        refine z_iast (j := v4.toNatClampNeg) allR_nd dL_begins_204 (owk.2.2 3 (Nat.le_of_ble_eq_true rfl)) rfl hc59 rfl ?_
        refine z_aload_n (i := 1) dL_begins_205 rfl rfl ?_
        refine z_getRG (r' := (19, k, 5)) dL_begins_206 fg_L_310 owk.1 rfl rfl ?_
        refine z_iload (i := 4) dL_begins_209 rfl ?_
        refine z_bipush (v := (-99 : Int32)) dL_begins_211 kb_m99 ?_
        obtain ⟨hc60, h⟩ := chk h
        refine z_iast (j := v4.toNatClampNeg) allR_nd dL_begins_213 (owk.2.2 5 (Nat.le_of_ble_eq_true rfl)) rfl hc60 rfl ?_
        refine z_aload_n (i := 3) dL_begins_214 rfl rfl ?_
        refine z_ldcwS (j := 12) dL_begins_215 sw_RL_344 ?_
        obtain ⟨q61, hq62, h⟩ := bnd h
        refine z_cGV (sJ4_append_15ec4K (putI (putI (putI (putI M (19, k, 0) v4.toNatClampNeg q27) (19, k, 2) v4.toNatClampNeg ((1 : Int32) + q30)) (19, k, 3) v4.toNatClampNeg ((10 : Int32) + q57)) (19, k, 5) v4.toNatClampNeg (-99 : Int32)) 0 12 1406 tb0 (Nat.le_of_ble_eq_true rfl) (by decide) (frS hf rfl) hq62) dL_begins_218 ml_L_136 cd_J4_append_15ec4 tb0.1 rfl rfl rfl (rq_o (by decide) (by decide) (by omega) (by omega)) rfl rfl (qi_N qv rfl) rfl rfl rfl ?_
        refine z_aload_n (i := 1) dL_begins_221 rfl rfl ?_
        refine z_getRG (r' := (19, k, 0)) dL_begins_222 fg_L_58 owk.1 rfl rfl ?_
        refine z_iload (i := 4) dL_begins_225 rfl ?_
        obtain ⟨hc63, h⟩ := chk h
        refine z_iald (x := (q61.1 (19, k, 0) v4.toNatClampNeg)) dL_begins_227 (owk.2.2 0 (Nat.le_of_ble_eq_true rfl)) rfl hc63 rfl ?_
        obtain ⟨q64, hq65, h⟩ := bnd h
        refine z_cGV (sJ4_append_bf812 q61 0 (q61.1 (19, k, 0) v4.toNatClampNeg) 1406 tb0 (by decide) (frS hf rfl) hq65) dL_begins_228 ml_L_141 cd_J4_append_bf812 tb0.1 rfl rfl rfl (rq_o (by decide) (by decide) (by omega) (by omega)) rfl rfl (qi_N qv rfl) rfl rfl rfl ?_
        refine z_bipush (v := (32 : Int32)) dL_begins_231 kb_32 ?_
        obtain ⟨q66, hq67, h⟩ := bnd h
        refine z_cGV (sJ4_append_cf468 q64 0 (32 : Int32) 1406 tb0 (by decide) (frS hf rfl) hq67) dL_begins_233 ml_L_68 cd_J4_append_cf468 tb0.1 rfl rfl rfl (rq_o (by decide) (by decide) (by omega) (by omega)) rfl rfl (qi_N qv rfl) rfl rfl rfl ?_
        refine z_aload_n (i := 1) dL_begins_236 rfl rfl ?_
        refine z_getRG (r' := (19, k, 2)) dL_begins_237 fg_L_153 owk.1 rfl rfl ?_
        refine z_iload (i := 4) dL_begins_240 rfl ?_
        obtain ⟨hc68, h⟩ := chk h
        refine z_iald (x := (q66.1 (19, k, 2) v4.toNatClampNeg)) dL_begins_242 (owk.2.2 2 (Nat.le_of_ble_eq_true rfl)) rfl hc68 rfl ?_
        obtain ⟨q69, hq70, h⟩ := bnd h
        refine z_cGV (sJ4_append_bf812 q66 0 (q66.1 (19, k, 2) v4.toNatClampNeg) 1406 tb0 (by decide) (frS hf rfl) hq70) dL_begins_243 ml_L_141 cd_J4_append_bf812 tb0.1 rfl rfl rfl (rq_o (by decide) (by decide) (by omega) (by omega)) rfl rfl (qi_N qv rfl) rfl rfl rfl ?_
        refine z_bipush (v := (32 : Int32)) dL_begins_246 kb_32 ?_
        obtain ⟨q71, hq72, h⟩ := bnd h
        refine z_cGV (sJ4_append_cf468 q69 0 (32 : Int32) 1406 tb0 (by decide) (frS hf rfl) hq72) dL_begins_248 ml_L_68 cd_J4_append_cf468 tb0.1 rfl rfl rfl (rq_o (by decide) (by decide) (by omega) (by omega)) rfl rfl (qi_N qv rfl) rfl rfl rfl ?_
        refine z_aload_n (i := 1) dL_begins_251 rfl rfl ?_
        refine z_getRG (r' := (19, k, 3)) dL_begins_252 fg_L_341 owk.1 rfl rfl ?_
        refine z_iload (i := 4) dL_begins_255 rfl ?_
        obtain ⟨hc73, h⟩ := chk h
        refine z_iald (x := (q71.1 (19, k, 3) v4.toNatClampNeg)) dL_begins_257 (owk.2.2 3 (Nat.le_of_ble_eq_true rfl)) rfl hc73 rfl ?_
        obtain ⟨q74, hq75, h⟩ := bnd h
        refine z_cGV (sJ4_append_bf812 q71 0 (q71.1 (19, k, 3) v4.toNatClampNeg) 1406 tb0 (by decide) (frS hf rfl) hq75) dL_begins_258 ml_L_141 cd_J4_append_bf812 tb0.1 rfl rfl rfl (rq_o (by decide) (by decide) (by omega) (by omega)) rfl rfl (qi_N qv rfl) rfl rfl rfl ?_
        refine z_bipush (v := (59 : Int32)) dL_begins_261 kb_59 ?_
        obtain ⟨q76, hq77, h⟩ := bnd h
        refine z_cGV (sJ4_append_cf468 q74 0 (59 : Int32) 1406 tb0 (by decide) (frS hf rfl) hq77) dL_begins_263 ml_L_68 cd_J4_append_cf468 tb0.1 rfl rfl rfl (rq_o (by decide) (by decide) (by omega) (by omega)) rfl rfl (qi_N qv rfl) rfl rfl rfl ?_
        refine z_pop dL_begins_266 rfl ?_
        refine z_iinc (i := 4) (v := (v4 + (1 : Int32))) dL_begins_267 rfl (iinc_k kc_1) (Nat.le_of_ble_eq_true rfl) rfl ?_
        refine z_goto (tgt := 112) dL_begins_270 rfl ?_
        exact ih _ _ _ _ (by omega) (by omega) h hK
set_option maxRecDepth 20000 in
set_option maxHeartbeats 4000000 in
theorem sL_begins_L276 {w0 wv : Wv} {b : Nat} (k : Nat) (L : Nat) (xs : Nat → Int32) (hw : SubW w0 wv) (owk : OwI wv k) (tb0 : TbI wv 0) (hf : FrI wv [(27, 0, 0), (28, 0, 0), (29, 0, 0)]) (hV : NoV w0 0) {res : (Int32 × Mm)} {K : Int32 → Mm → Option (Int32 × Mm)} {CB SB : Nat} (hcb : CB ≤ 305) (hsb : SB ≤ 426026) : ∀ (n : Nat) (v4 : Int32) (M : Mm) (c s : Nat), c + n * 7 ≤ CB → s + n * 9842 ≤ SB → fL_begins_L276 k L xs K n v4 M = some res →
    (∀ (v4 : Int32) (M : Mm) (c s : Nat), c ≤ CB → s ≤ SB → K v4 M = some res → Z RL cL_begins 8 (some .boolean) [] "begins" (rmD 13 305 426026) (QS b L xs (QM SH (allR w0) 305 426026 (fun v M9 => v = some (.int res.1) ∧ M9 = res.2) (fun _ _ => False))) (allR wv) SH c s 408 [some (.inr (0, 0, 0)), some (.inr (18, k, 0)), some (.inl (.ref b)), some (.inr (24, 0, 0)), some (.inl (.int v4)), none, none, none] [] M) → Z RL cL_begins 8 (some .boolean) [] "begins" (rmD 13 305 426026) (QS b L xs (QM SH (allR w0) 305 426026 (fun v M9 => v = some (.int res.1) ∧ M9 = res.2) (fun _ _ => False))) (allR wv) SH c s 276 [some (.inr (0, 0, 0)), some (.inr (18, k, 0)), some (.inl (.ref b)), some (.inr (24, 0, 0)), some (.inl (.int v4)), none, none, none] [] M := by
  intro n
  induction n with
  | zero => intro v4 M c s _ _ h; cases h
  | succ n ih =>
    intro v4 M c s hc hs h hK
    have qv := qs_N (b := b) (L := L) (xs := xs) (qm_N (mc := 305) (ms := 426026) (sh := SH) (PR := fun v M9 => v = some (.int res.1) ∧ M9 = res.2) (PX := fun _ _ => False) hV)
    rw [fL_begins_L276] at h
    refine z_iload (i := 4) dL_begins_276 rfl ?_
    refine z_bipush (v := (28 : Int32)) dL_begins_278 kb_28 ?_
    refine z_icmp_ge (tgt := 408) dL_begins_280 rfl (fun hc80 => ?_) (fun hc80 => ?_)
    · have h := it_t h hc80
      exact hK _ _ _ _ (by omega) (by omega) h
    · have h := it_f h hc80
      refine z_aloadQ_n (i := 2) dL_begins_283 rfl rfl ?_
      refine z_bipush (v := (40 : Int32)) dL_begins_284 kb_40 ?_
      refine z_iconst (v := (3 : Int32)) dL_begins_286 kc_3 ?_
      refine z_iload (i := 4) dL_begins_287 rfl ?_
      refine z_imul dL_begins_289 ?_
      refine z_iadd dL_begins_290 ?_
      refine z_iconst (v := (4 : Int32)) dL_begins_291 kc_4 ?_
      obtain ⟨q81, hq82, h⟩ := bnd h
      refine z_gSix qv_S (sL_pick b M L xs ((40 : Int32) + ((3 : Int32) * v4)) (4 : Int32) hq82) dL_begins_292 ml_L_316 cd_L_pick rfl rfl (rq_o (by decide) (by decide) (by omega) (by omega)) rfl rfl ?_
      refine z_iconst (v := (3 : Int32)) dL_begins_295 kc_3 ?_
      refine z_irem dL_begins_296 (by decide) ?_
      refine z_istore (i := 5) dL_begins_297 (Nat.le_of_ble_eq_true rfl) rfl ?_
      refine z_aloadQ_n (i := 2) dL_begins_299 rfl rfl ?_
      refine z_bipush (v := (41 : Int32)) dL_begins_300 kb_41 ?_
      refine z_iconst (v := (3 : Int32)) dL_begins_302 kc_3 ?_
      refine z_iload (i := 4) dL_begins_303 rfl ?_
      refine z_imul dL_begins_305 ?_
      refine z_iadd dL_begins_306 ?_
      refine z_aload_n (i := 1) dL_begins_307 rfl rfl ?_
      refine z_getIG (x := (M.1 (18, k, 0) 3)) dL_begins_308 fg_L_44 owk.1 rfl rfl ?_
      obtain ⟨q83, hq84, h⟩ := bnd h
      refine z_gSix qv_S (sL_pick b M L xs ((41 : Int32) + ((3 : Int32) * v4)) (M.1 (18, k, 0) 3) hq84) dL_begins_311 ml_L_316 cd_L_pick rfl rfl (rq_o (by decide) (by decide) (by omega) (by omega)) rfl rfl ?_
      refine z_istore (i := 6) dL_begins_314 (Nat.le_of_ble_eq_true rfl) rfl ?_
      refine z_aloadQ_n (i := 2) dL_begins_316 rfl rfl ?_
      refine z_bipush (v := (42 : Int32)) dL_begins_317 kb_42 ?_
      refine z_iconst (v := (3 : Int32)) dL_begins_319 kc_3 ?_
      refine z_iload (i := 4) dL_begins_320 rfl ?_
      refine z_imul dL_begins_322 ?_
      refine z_iadd dL_begins_323 ?_
      refine z_aload_n (i := 1) dL_begins_324 rfl rfl ?_
      refine z_getIG (x := (M.1 (18, k, 0) 0)) dL_begins_325 fg_L_51 owk.1 rfl rfl ?_
      obtain ⟨q85, hq86, h⟩ := bnd h
      refine z_gSix qv_S (sL_pick b M L xs ((42 : Int32) + ((3 : Int32) * v4)) (M.1 (18, k, 0) 0) hq86) dL_begins_328 ml_L_316 cd_L_pick rfl rfl (rq_o (by decide) (by decide) (by omega) (by omega)) rfl rfl ?_
      refine z_istore (i := 7) dL_begins_331 (Nat.le_of_ble_eq_true rfl) rfl ?_
      refine z_aload_n (i := 1) dL_begins_333 rfl rfl ?_
      refine z_iload (i := 5) dL_begins_334 rfl ?_
      refine z_iload (i := 6) dL_begins_336 rfl ?_
      refine z_iload (i := 7) dL_begins_338 rfl ?_
      obtain ⟨q87, hq88, h⟩ := bnd h
      refine z_fVi (sX10_has M k (q81 - q81 / (3 : Int32) * (3 : Int32)) q83 q85 owk hq88) dL_begins_340 ml_L_54 cd_X10_has owk.1 rfl rfl rfl (rmk_r (by decide) (by decide) (by omega) (by omega)) rfl rfl ?_
      refine z_if_eq (tgt := 349) dL_begins_343 rfl (fun hc89 => ?_) (fun hc89 => ?_)
      · have h := it_t h hc89
        refine z_aload_n (i := 1) dL_begins_349 rfl rfl ?_
        refine z_getRG (r' := (20, k, 0)) dL_begins_350 fg_L_273 owk.1 rfl rfl ?_
        refine z_iload (i := 5) dL_begins_353 rfl ?_
        refine z_iload (i := 6) dL_begins_355 rfl ?_
        refine z_iload (i := 7) dL_begins_357 rfl ?_
        refine z_fSi (sX10_place M (q81 - q81 / (3 : Int32) * (3 : Int32)) q83 q85) dL_begins_359 ml_L_270 cd_X10_place rfl rfl (rmk_r (by decide) (by decide) (by omega) (by omega)) rfl rfl ?_
        refine z_iconst (v := (1 : Int32)) dL_begins_362 kc_1 ?_
        obtain ⟨hc90, h⟩ := chk h
        refine z_zast (j := (fX10_place M (q81 - q81 / (3 : Int32) * (3 : Int32)) q83 q85).toNatClampNeg) allR_nd dL_begins_363 owk.2.1 rfl hc90 rfl rfl ?_
        refine z_aload_n (i := 3) dL_begins_364 rfl rfl ?_
        refine z_ldcwS (j := 13) dL_begins_365 sw_RL_346 ?_
        obtain ⟨q91, hq92, h⟩ := bnd h
        refine z_cGV (sJ4_append_15ec4K (putI M (20, k, 0) (fX10_place M (q81 - q81 / (3 : Int32) * (3 : Int32)) q83 q85).toNatClampNeg (1 : Int32)) 0 13 1406 tb0 (Nat.le_of_ble_eq_true rfl) (by decide) (frS hf rfl) hq92) dL_begins_368 ml_L_136 cd_J4_append_15ec4 tb0.1 rfl rfl rfl (rq_o (by decide) (by decide) (by omega) (by omega)) rfl rfl (qi_N qv rfl) rfl rfl rfl ?_
        refine z_iload (i := 5) dL_begins_371 rfl ?_
        obtain ⟨q93, hq94, h⟩ := bnd h
        refine z_cGV (sJ4_append_bf812 q91 0 (q81 - q81 / (3 : Int32) * (3 : Int32)) 1406 tb0 (by decide) (frS hf rfl) hq94) dL_begins_373 ml_L_141 cd_J4_append_bf812 tb0.1 rfl rfl rfl (rq_o (by decide) (by decide) (by omega) (by omega)) rfl rfl (qi_N qv rfl) rfl rfl rfl ?_
        refine z_bipush (v := (32 : Int32)) dL_begins_376 kb_32 ?_
        obtain ⟨q95, hq96, h⟩ := bnd h
        refine z_cGV (sJ4_append_cf468 q93 0 (32 : Int32) 1406 tb0 (by decide) (frS hf rfl) hq96) dL_begins_378 ml_L_68 cd_J4_append_cf468 tb0.1 rfl rfl rfl (rq_o (by decide) (by decide) (by omega) (by omega)) rfl rfl (qi_N qv rfl) rfl rfl rfl ?_
        refine z_iload (i := 6) dL_begins_381 rfl ?_
        obtain ⟨q97, hq98, h⟩ := bnd h
        refine z_cGV (sJ4_append_bf812 q95 0 q83 1406 tb0 (by decide) (frS hf rfl) hq98) dL_begins_383 ml_L_141 cd_J4_append_bf812 tb0.1 rfl rfl rfl (rq_o (by decide) (by decide) (by omega) (by omega)) rfl rfl (qi_N qv rfl) rfl rfl rfl ?_
        refine z_bipush (v := (32 : Int32)) dL_begins_386 kb_32 ?_
        obtain ⟨q99, hq100, h⟩ := bnd h
        refine z_cGV (sJ4_append_cf468 q97 0 (32 : Int32) 1406 tb0 (by decide) (frS hf rfl) hq100) dL_begins_388 ml_L_68 cd_J4_append_cf468 tb0.1 rfl rfl rfl (rq_o (by decide) (by decide) (by omega) (by omega)) rfl rfl (qi_N qv rfl) rfl rfl rfl ?_
        refine z_iload (i := 7) dL_begins_391 rfl ?_
        obtain ⟨q101, hq102, h⟩ := bnd h
        refine z_cGV (sJ4_append_bf812 q99 0 q85 1406 tb0 (by decide) (frS hf rfl) hq102) dL_begins_393 ml_L_141 cd_J4_append_bf812 tb0.1 rfl rfl rfl (rq_o (by decide) (by decide) (by omega) (by omega)) rfl rfl (qi_N qv rfl) rfl rfl rfl ?_
        refine z_bipush (v := (59 : Int32)) dL_begins_396 kb_59 ?_
        obtain ⟨q103, hq104, h⟩ := bnd h
        refine z_cGV (sJ4_append_cf468 q101 0 (59 : Int32) 1406 tb0 (by decide) (frS hf rfl) hq104) dL_begins_398 ml_L_68 cd_J4_append_cf468 tb0.1 rfl rfl rfl (rq_o (by decide) (by decide) (by omega) (by omega)) rfl rfl (qi_N qv rfl) rfl rfl rfl ?_
        refine z_pop dL_begins_401 rfl ?_
        refine z_iinc (i := 4) (v := (v4 + (1 : Int32))) dL_begins_402 rfl (iinc_k kc_1) (Nat.le_of_ble_eq_true rfl) rfl ?_
        refine z_goto (tgt := 276) dL_begins_405 rfl ?_
        refine z_fgt (i := 5) ?_
        refine z_fgt (i := 6) ?_
        refine z_fgt (i := 7) ?_
        exact ih _ _ _ _ (by omega) (by omega) h hK
      · have h := it_f h hc89
        refine z_goto (tgt := 402) dL_begins_346 rfl ?_
        refine z_iinc (i := 4) (v := (v4 + (1 : Int32))) dL_begins_402 rfl (iinc_k kc_1) (Nat.le_of_ble_eq_true rfl) rfl ?_
        refine z_goto (tgt := 276) dL_begins_405 rfl ?_
        refine z_fgt (i := 5) ?_
        refine z_fgt (i := 6) ?_
        refine z_fgt (i := 7) ?_
        exact ih _ _ _ _ (by omega) (by omega) h hK
set_option maxRecDepth 20000 in
set_option maxHeartbeats 4000000 in
theorem sL_begins {wv : Wv} (b : Nat) (M : Mm) (k : Nat) (L : Nat) (xs : Nat → Int32) (hk : OwI wv k) (hV : NoV wv 0) {res : (Int32 × Mm)} (h : fL_begins M k L xs = some res) : TS wv b L xs yL_begins cL_begins 8 (some .boolean) 13 305 426026 [.inr (0, 0, 0), .inr (18, k, 0), .inl (.ref b)] M (some (.int res.1)) res.2 := by
  have qv := qs_N (b := b) (L := L) (xs := xs) (qm_N (mc := 305) (ms := 426026) (sh := SH) (PR := fun v M9 => v = some (.int res.1) ∧ M9 = res.2) (PX := fun _ _ => False) hV)
  rw [fL_begins] at h
  refine TS.go (n := 5) (ls := [some (.inr (0, 0, 0)), some (.inr (18, k, 0)), some (.inl (.ref b)), none, none, none, none, none]) (by decide +kernel) rfl rfl rfl rfl ?_
  refine z_aload_n (i := 1) dL_begins_0 rfl rfl ?_
  refine z_iconst (v := (4 : Int32)) dL_begins_1 kc_4 ?_
  refine z_aloadQ_n (i := 2) dL_begins_2 rfl rfl ?_
  refine z_iconst (v := (0 : Int32)) dL_begins_3 kc_0 ?_
  refine z_aloadQ_n (i := 2) dL_begins_4 rfl rfl ?_
  refine z_iconst (v := (0 : Int32)) dL_begins_5 kc_0 ?_
  refine z_iconst (v := (2 : Int32)) dL_begins_6 kc_2 ?_
  obtain ⟨q1, hq2, h⟩ := bnd h
  refine z_gSix qv_S (sL_pick b M L xs (0 : Int32) (2 : Int32) hq2) dL_begins_7 ml_L_316 cd_L_pick rfl rfl (rq_o (by decide) (by decide) (by omega) (by omega)) rfl rfl ?_
  refine z_if_ne (tgt := 18) dL_begins_10 rfl (fun hc3 => ?_) (fun hc3 => ?_)
  · have h := it_f h hc3
    refine z_bipush (v := (13 : Int32)) dL_begins_18 kb_13 ?_
    obtain ⟨q4, hq5, h⟩ := bnd h
    refine z_gSix qv_S (sL_pick b M L xs (0 : Int32) (13 : Int32) hq5) dL_begins_20 ml_L_316 cd_L_pick rfl rfl (rq_o (by decide) (by decide) (by omega) (by omega)) rfl rfl ?_
    refine z_iadd dL_begins_23 ?_
    refine z_putIG allR_nd dL_begins_24 fg_L_51 hk.1 rfl rfl ?_
    refine z_aload_n (i := 1) dL_begins_27 rfl rfl ?_
    refine z_aloadQ_n (i := 2) dL_begins_28 rfl rfl ?_
    refine z_iconst (v := (1 : Int32)) dL_begins_29 kc_1 ?_
    refine z_bipush (v := (21 : Int32)) dL_begins_30 kb_21 ?_
    obtain ⟨q6, hq7, h⟩ := bnd h
    refine z_gSix qv_S (sL_pick b (putI M (18, k, 0) 0 ((4 : Int32) + q4)) L xs (1 : Int32) (21 : Int32) hq7) dL_begins_32 ml_L_316 cd_L_pick rfl rfl (rq_o (by decide) (by decide) (by omega) (by omega)) rfl rfl ?_
    refine z_putIG allR_nd dL_begins_35 fg_L_122 hk.1 rfl rfl ?_
    refine z_aload_n (i := 1) dL_begins_38 rfl rfl ?_
    refine z_aloadQ_n (i := 2) dL_begins_39 rfl rfl ?_
    refine z_iconst (v := (2 : Int32)) dL_begins_40 kc_2 ?_
    refine z_bipush (v := (91 : Int32)) dL_begins_41 kb_91 ?_
    obtain ⟨q8, hq9, h⟩ := bnd h
    refine z_gSix qv_S (sL_pick b (putI (putI M (18, k, 0) 0 ((4 : Int32) + q4)) (18, k, 0) 1 q6) L xs (2 : Int32) (91 : Int32) hq9) dL_begins_43 ml_L_316 cd_L_pick rfl rfl (rq_o (by decide) (by decide) (by omega) (by omega)) rfl rfl ?_
    refine z_putIG allR_nd dL_begins_46 fg_L_125 hk.1 rfl rfl ?_
    refine z_aload_n (i := 1) dL_begins_49 rfl rfl ?_
    refine z_iconst (v := (1 : Int32)) dL_begins_50 kc_1 ?_
    refine z_aloadQ_n (i := 2) dL_begins_51 rfl rfl ?_
    refine z_iconst (v := (3 : Int32)) dL_begins_52 kc_3 ?_
    refine z_bipush (v := (12 : Int32)) dL_begins_53 kb_12 ?_
    obtain ⟨q10, hq11, h⟩ := bnd h
    refine z_gSix qv_S (sL_pick b (putI (putI (putI M (18, k, 0) 0 ((4 : Int32) + q4)) (18, k, 0) 1 q6) (18, k, 0) 2 q8) L xs (3 : Int32) (12 : Int32) hq11) dL_begins_55 ml_L_316 cd_L_pick rfl rfl (rq_o (by decide) (by decide) (by omega) (by omega)) rfl rfl ?_
    refine z_iadd dL_begins_58 ?_
    refine z_putIG allR_nd dL_begins_59 fg_L_44 hk.1 rfl rfl ?_
    obtain ⟨q12, hq13, h⟩ := bnd h
    refine z_nSBs (z := 0) (j := 11) (B := 1406) hq13 dL_begins_62 dL_begins_65 dL_begins_66 dL_begins_69 nw_L_48 sw_RL_336 (by decide) li_L_338 rfl (fr_of hV rfl) (fr_of hV rfl) (by decide) qv rfl rfl rfl (rq_o (by decide) (by decide) (by omega) (by omega)) ?_
    refine z_aload_n (i := 1) dL_begins_72 rfl rfl ?_
    refine z_getIG (x := (q12.1 (18, k, 0) 0)) dL_begins_73 fg_L_51 (owU hk).1 rfl rfl ?_
    obtain ⟨q14, hq15, h⟩ := bnd h
    refine z_cGV (sJ4_append_bf812 q12 0 (q12.1 (18, k, 0) 0) 1406 tb0 (by decide) (frU (fr_of hV rfl) rfl) hq15) dL_begins_76 ml_L_141 cd_J4_append_bf812 tb0.1 rfl rfl rfl (rq_o (by decide) (by decide) (by omega) (by omega)) rfl rfl (qi_N qv rfl) rfl rfl rfl ?_
    refine z_bipush (v := (32 : Int32)) dL_begins_79 kb_32 ?_
    obtain ⟨q16, hq17, h⟩ := bnd h
    refine z_cGV (sJ4_append_cf468 q14 0 (32 : Int32) 1406 tb0 (by decide) (frU (fr_of hV rfl) rfl) hq17) dL_begins_81 ml_L_68 cd_J4_append_cf468 tb0.1 rfl rfl rfl (rq_o (by decide) (by decide) (by omega) (by omega)) rfl rfl (qi_N qv rfl) rfl rfl rfl ?_
    refine z_aload_n (i := 1) dL_begins_84 rfl rfl ?_
    refine z_getIG (x := (q16.1 (18, k, 0) 1)) dL_begins_85 fg_L_122 (owU hk).1 rfl rfl ?_
    obtain ⟨q18, hq19, h⟩ := bnd h
    refine z_cGV (sJ4_append_bf812 q16 0 (q16.1 (18, k, 0) 1) 1406 tb0 (by decide) (frU (fr_of hV rfl) rfl) hq19) dL_begins_88 ml_L_141 cd_J4_append_bf812 tb0.1 rfl rfl rfl (rq_o (by decide) (by decide) (by omega) (by omega)) rfl rfl (qi_N qv rfl) rfl rfl rfl ?_
    refine z_bipush (v := (32 : Int32)) dL_begins_91 kb_32 ?_
    obtain ⟨q20, hq21, h⟩ := bnd h
    refine z_cGV (sJ4_append_cf468 q18 0 (32 : Int32) 1406 tb0 (by decide) (frU (fr_of hV rfl) rfl) hq21) dL_begins_93 ml_L_68 cd_J4_append_cf468 tb0.1 rfl rfl rfl (rq_o (by decide) (by decide) (by omega) (by omega)) rfl rfl (qi_N qv rfl) rfl rfl rfl ?_
    refine z_aload_n (i := 1) dL_begins_96 rfl rfl ?_
    refine z_getIG (x := (q20.1 (18, k, 0) 2)) dL_begins_97 fg_L_125 (owU hk).1 rfl rfl ?_
    obtain ⟨q22, hq23, h⟩ := bnd h
    refine z_cGV (sJ4_append_bf812 q20 0 (q20.1 (18, k, 0) 2) 1406 tb0 (by decide) (frU (fr_of hV rfl) rfl) hq23) dL_begins_100 ml_L_141 cd_J4_append_bf812 tb0.1 rfl rfl rfl (rq_o (by decide) (by decide) (by omega) (by omega)) rfl rfl (qi_N qv rfl) rfl rfl rfl ?_
    refine z_bipush (v := (59 : Int32)) dL_begins_103 kb_59 ?_
    obtain ⟨q24, hq25, h⟩ := bnd h
    refine z_cGV (sJ4_append_cf468 q22 0 (59 : Int32) 1406 tb0 (by decide) (frU (fr_of hV rfl) rfl) hq25) dL_begins_105 ml_L_68 cd_J4_append_cf468 tb0.1 rfl rfl rfl (rq_o (by decide) (by decide) (by omega) (by omega)) rfl rfl (qi_N qv rfl) rfl rfl rfl ?_
    refine z_astore_n (i := 3) dL_begins_108 rfl (Nat.le_of_ble_eq_true rfl) rfl ?_
    refine z_iconst (v := (0 : Int32)) dL_begins_109 kc_0 ?_
    refine z_istore (i := 4) dL_begins_110 (Nat.le_of_ble_eq_true rfl) rfl ?_
    refine sL_begins_L112 k L xs (swA) (owU hk) tb0 (frU (fr_of hV rfl) rfl) hV (CB := 0 + 100) (SB := 0 + 139198) (by omega) (by omega) 13 _ _ _ _ (by omega) (by omega) h (fun w78 M79 c8 s8 hc8 hs8 h => z_wid hc8 hs8 ?_)
    refine z_iconst (v := (0 : Int32)) dL_begins_273 kc_0 ?_
    refine z_istore (i := 4) dL_begins_274 (Nat.le_of_ble_eq_true rfl) rfl ?_
    refine sL_begins_L276 k L xs (swA) (owU hk) tb0 (frU (fr_of hV rfl) rfl) hV (CB := 0 + 303) (SB := 0 + 424616) (by omega) (by omega) 29 _ _ _ _ (by omega) (by omega) h (fun w105 M106 c8 s8 hc8 hs8 h => z_wid hc8 hs8 ?_)
    refine z_aload_n (i := 0) dL_begins_408 rfl rfl ?_
    refine z_aload_n (i := 3) dL_begins_409 rfl rfl ?_
    obtain ⟨q107, hq108, h⟩ := bnd h
    refine z_cGV (sJ4_toString M106 0 0 1406 tb0 (by decide) (nd_st (frU (fr_of hV rfl) rfl)) hq108) dL_begins_410 ml_L_83 cd_J4_toString_0e30d tb0.1 rfl rfl rfl (rq_o (by decide) (by decide) (by omega) (by omega)) rfl rfl (qi_N qv rfl) rfl rfl rfl ?_
    obtain ⟨q109, hq110, h⟩ := bnd h
    refine z_gSi (sL_feeds  q107 0 st0 hq110) dL_begins_413 ml_L_348 cd_L_feeds rfl rfl (rq_o (by decide) (by decide) (by omega) (by omega)) rfl rfl ?_
    refine z_if_eq (tgt := 438) dL_begins_416 rfl (fun hc111 => ?_) (fun hc111 => ?_)
    · have h := it_t h hc111
      refine z_iconst (v := (0 : Int32)) dL_begins_438 kc_0 ?_
      cases h
      refine z_QS ?_
      refine z_sub (swU swA) ?_
      exact z_iret dL_begins_439 rfl rfl (by omega) (by omega) ⟨rfl, rfl⟩
    · have h := it_f h hc111
      refine z_aload_n (i := 0) dL_begins_419 rfl rfl ?_
      obtain ⟨q112, hq113, h⟩ := bnd h
      refine z_fVi (sX9_load q109.2 hq113) dL_begins_420 ml_L_352 cd_X9_load mk0 rfl rfl rfl (rmk_r (by decide) (by decide) (by omega) (by omega)) rfl rfl ?_
      refine z_if_ne (tgt := 438) dL_begins_423 rfl (fun hc114 => ?_) (fun hc114 => ?_)
      · have h := it_f h hc114
        refine z_iconst (v := (0 : Int32)) dL_begins_438 kc_0 ?_
        cases h
        refine z_QS ?_
        refine z_sub (swU swA) ?_
        exact z_iret dL_begins_439 rfl rfl (by omega) (by omega) ⟨rfl, rfl⟩
      · have h := it_t h hc114
        refine z_aload_n (i := 0) dL_begins_426 rfl rfl ?_
        refine z_fVi (sX9_errorPosition q112.2) dL_begins_427 ml_L_355 cd_X9_errorPosition mk0 rfl rfl rfl (rmk_r (by decide) (by decide) (by omega) (by omega)) rfl rfl ?_
        refine z_iconst (v := (-1 : Int32)) dL_begins_430 kc_m1 ?_
        refine z_icmp_ne (tgt := 438) dL_begins_431 rfl (fun hc115 => ?_) (fun hc115 => ?_)
        · have h := it_f h hc115
          refine z_iconst (v := (0 : Int32)) dL_begins_438 kc_0 ?_
          cases h
          refine z_QS ?_
          refine z_sub (swU swA) ?_
          exact z_iret dL_begins_439 rfl rfl (by omega) (by omega) ⟨rfl, rfl⟩
        · have h := it_t h hc115
          refine z_iconst (v := (1 : Int32)) dL_begins_434 kc_1 ?_
          refine z_goto (tgt := 439) dL_begins_435 rfl ?_
          cases h
          refine z_QS ?_
          refine z_sub (swU swA) ?_
          exact z_iret dL_begins_439 rfl rfl (by omega) (by omega) ⟨rfl, rfl⟩
  · have h := it_t h hc3
    refine z_bipush (v := (61 : Int32)) dL_begins_13 kb_61 ?_
    refine z_goto (tgt := 20) dL_begins_15 rfl ?_
    obtain ⟨q116, hq117, h⟩ := bnd h
    refine z_gSix qv_S (sL_pick b M L xs (0 : Int32) (61 : Int32) hq117) dL_begins_20 ml_L_316 cd_L_pick rfl rfl (rq_o (by decide) (by decide) (by omega) (by omega)) rfl rfl ?_
    refine z_iadd dL_begins_23 ?_
    refine z_putIG allR_nd dL_begins_24 fg_L_51 hk.1 rfl rfl ?_
    refine z_aload_n (i := 1) dL_begins_27 rfl rfl ?_
    refine z_aloadQ_n (i := 2) dL_begins_28 rfl rfl ?_
    refine z_iconst (v := (1 : Int32)) dL_begins_29 kc_1 ?_
    refine z_bipush (v := (21 : Int32)) dL_begins_30 kb_21 ?_
    obtain ⟨q118, hq119, h⟩ := bnd h
    refine z_gSix qv_S (sL_pick b (putI M (18, k, 0) 0 ((4 : Int32) + q116)) L xs (1 : Int32) (21 : Int32) hq119) dL_begins_32 ml_L_316 cd_L_pick rfl rfl (rq_o (by decide) (by decide) (by omega) (by omega)) rfl rfl ?_
    refine z_putIG allR_nd dL_begins_35 fg_L_122 hk.1 rfl rfl ?_
    refine z_aload_n (i := 1) dL_begins_38 rfl rfl ?_
    refine z_aloadQ_n (i := 2) dL_begins_39 rfl rfl ?_
    refine z_iconst (v := (2 : Int32)) dL_begins_40 kc_2 ?_
    refine z_bipush (v := (91 : Int32)) dL_begins_41 kb_91 ?_
    obtain ⟨q120, hq121, h⟩ := bnd h
    refine z_gSix qv_S (sL_pick b (putI (putI M (18, k, 0) 0 ((4 : Int32) + q116)) (18, k, 0) 1 q118) L xs (2 : Int32) (91 : Int32) hq121) dL_begins_43 ml_L_316 cd_L_pick rfl rfl (rq_o (by decide) (by decide) (by omega) (by omega)) rfl rfl ?_
    refine z_putIG allR_nd dL_begins_46 fg_L_125 hk.1 rfl rfl ?_
    refine z_aload_n (i := 1) dL_begins_49 rfl rfl ?_
    refine z_iconst (v := (1 : Int32)) dL_begins_50 kc_1 ?_
    refine z_aloadQ_n (i := 2) dL_begins_51 rfl rfl ?_
    refine z_iconst (v := (3 : Int32)) dL_begins_52 kc_3 ?_
    refine z_bipush (v := (12 : Int32)) dL_begins_53 kb_12 ?_
    obtain ⟨q122, hq123, h⟩ := bnd h
    refine z_gSix qv_S (sL_pick b (putI (putI (putI M (18, k, 0) 0 ((4 : Int32) + q116)) (18, k, 0) 1 q118) (18, k, 0) 2 q120) L xs (3 : Int32) (12 : Int32) hq123) dL_begins_55 ml_L_316 cd_L_pick rfl rfl (rq_o (by decide) (by decide) (by omega) (by omega)) rfl rfl ?_
    refine z_iadd dL_begins_58 ?_
    refine z_putIG allR_nd dL_begins_59 fg_L_44 hk.1 rfl rfl ?_
    obtain ⟨q124, hq125, h⟩ := bnd h
    refine z_nSBs (z := 0) (j := 11) (B := 1406) hq125 dL_begins_62 dL_begins_65 dL_begins_66 dL_begins_69 nw_L_48 sw_RL_336 (by decide) li_L_338 rfl (fr_of hV rfl) (fr_of hV rfl) (by decide) qv rfl rfl rfl (rq_o (by decide) (by decide) (by omega) (by omega)) ?_
    refine z_aload_n (i := 1) dL_begins_72 rfl rfl ?_
    refine z_getIG (x := (q124.1 (18, k, 0) 0)) dL_begins_73 fg_L_51 (owU hk).1 rfl rfl ?_
    obtain ⟨q126, hq127, h⟩ := bnd h
    refine z_cGV (sJ4_append_bf812 q124 0 (q124.1 (18, k, 0) 0) 1406 tb0 (by decide) (frU (fr_of hV rfl) rfl) hq127) dL_begins_76 ml_L_141 cd_J4_append_bf812 tb0.1 rfl rfl rfl (rq_o (by decide) (by decide) (by omega) (by omega)) rfl rfl (qi_N qv rfl) rfl rfl rfl ?_
    refine z_bipush (v := (32 : Int32)) dL_begins_79 kb_32 ?_
    obtain ⟨q128, hq129, h⟩ := bnd h
    refine z_cGV (sJ4_append_cf468 q126 0 (32 : Int32) 1406 tb0 (by decide) (frU (fr_of hV rfl) rfl) hq129) dL_begins_81 ml_L_68 cd_J4_append_cf468 tb0.1 rfl rfl rfl (rq_o (by decide) (by decide) (by omega) (by omega)) rfl rfl (qi_N qv rfl) rfl rfl rfl ?_
    refine z_aload_n (i := 1) dL_begins_84 rfl rfl ?_
    refine z_getIG (x := (q128.1 (18, k, 0) 1)) dL_begins_85 fg_L_122 (owU hk).1 rfl rfl ?_
    obtain ⟨q130, hq131, h⟩ := bnd h
    refine z_cGV (sJ4_append_bf812 q128 0 (q128.1 (18, k, 0) 1) 1406 tb0 (by decide) (frU (fr_of hV rfl) rfl) hq131) dL_begins_88 ml_L_141 cd_J4_append_bf812 tb0.1 rfl rfl rfl (rq_o (by decide) (by decide) (by omega) (by omega)) rfl rfl (qi_N qv rfl) rfl rfl rfl ?_
    refine z_bipush (v := (32 : Int32)) dL_begins_91 kb_32 ?_
    obtain ⟨q132, hq133, h⟩ := bnd h
    refine z_cGV (sJ4_append_cf468 q130 0 (32 : Int32) 1406 tb0 (by decide) (frU (fr_of hV rfl) rfl) hq133) dL_begins_93 ml_L_68 cd_J4_append_cf468 tb0.1 rfl rfl rfl (rq_o (by decide) (by decide) (by omega) (by omega)) rfl rfl (qi_N qv rfl) rfl rfl rfl ?_
    refine z_aload_n (i := 1) dL_begins_96 rfl rfl ?_
    refine z_getIG (x := (q132.1 (18, k, 0) 2)) dL_begins_97 fg_L_125 (owU hk).1 rfl rfl ?_
    obtain ⟨q134, hq135, h⟩ := bnd h
    refine z_cGV (sJ4_append_bf812 q132 0 (q132.1 (18, k, 0) 2) 1406 tb0 (by decide) (frU (fr_of hV rfl) rfl) hq135) dL_begins_100 ml_L_141 cd_J4_append_bf812 tb0.1 rfl rfl rfl (rq_o (by decide) (by decide) (by omega) (by omega)) rfl rfl (qi_N qv rfl) rfl rfl rfl ?_
    refine z_bipush (v := (59 : Int32)) dL_begins_103 kb_59 ?_
    obtain ⟨q136, hq137, h⟩ := bnd h
    refine z_cGV (sJ4_append_cf468 q134 0 (59 : Int32) 1406 tb0 (by decide) (frU (fr_of hV rfl) rfl) hq137) dL_begins_105 ml_L_68 cd_J4_append_cf468 tb0.1 rfl rfl rfl (rq_o (by decide) (by decide) (by omega) (by omega)) rfl rfl (qi_N qv rfl) rfl rfl rfl ?_
    refine z_astore_n (i := 3) dL_begins_108 rfl (Nat.le_of_ble_eq_true rfl) rfl ?_
    refine z_iconst (v := (0 : Int32)) dL_begins_109 kc_0 ?_
    refine z_istore (i := 4) dL_begins_110 (Nat.le_of_ble_eq_true rfl) rfl ?_
    refine sL_begins_L112 k L xs (swA) (owU hk) tb0 (frU (fr_of hV rfl) rfl) hV (CB := 0 + 100) (SB := 0 + 139198) (by omega) (by omega) 13 _ _ _ _ (by omega) (by omega) h (fun w138 M139 c8 s8 hc8 hs8 h => z_wid hc8 hs8 ?_)
    refine z_iconst (v := (0 : Int32)) dL_begins_273 kc_0 ?_
    refine z_istore (i := 4) dL_begins_274 (Nat.le_of_ble_eq_true rfl) rfl ?_
    refine sL_begins_L276 k L xs (swA) (owU hk) tb0 (frU (fr_of hV rfl) rfl) hV (CB := 0 + 303) (SB := 0 + 424616) (by omega) (by omega) 29 _ _ _ _ (by omega) (by omega) h (fun w140 M141 c8 s8 hc8 hs8 h => z_wid hc8 hs8 ?_)
    refine z_aload_n (i := 0) dL_begins_408 rfl rfl ?_
    refine z_aload_n (i := 3) dL_begins_409 rfl rfl ?_
    obtain ⟨q142, hq143, h⟩ := bnd h
    refine z_cGV (sJ4_toString M141 0 0 1406 tb0 (by decide) (nd_st (frU (fr_of hV rfl) rfl)) hq143) dL_begins_410 ml_L_83 cd_J4_toString_0e30d tb0.1 rfl rfl rfl (rq_o (by decide) (by decide) (by omega) (by omega)) rfl rfl (qi_N qv rfl) rfl rfl rfl ?_
    obtain ⟨q144, hq145, h⟩ := bnd h
    refine z_gSi (sL_feeds  q142 0 st0 hq145) dL_begins_413 ml_L_348 cd_L_feeds rfl rfl (rq_o (by decide) (by decide) (by omega) (by omega)) rfl rfl ?_
    refine z_if_eq (tgt := 438) dL_begins_416 rfl (fun hc146 => ?_) (fun hc146 => ?_)
    · have h := it_t h hc146
      refine z_iconst (v := (0 : Int32)) dL_begins_438 kc_0 ?_
      cases h
      refine z_QS ?_
      refine z_sub (swU swA) ?_
      exact z_iret dL_begins_439 rfl rfl (by omega) (by omega) ⟨rfl, rfl⟩
    · have h := it_f h hc146
      refine z_aload_n (i := 0) dL_begins_419 rfl rfl ?_
      obtain ⟨q147, hq148, h⟩ := bnd h
      refine z_fVi (sX9_load q144.2 hq148) dL_begins_420 ml_L_352 cd_X9_load mk0 rfl rfl rfl (rmk_r (by decide) (by decide) (by omega) (by omega)) rfl rfl ?_
      refine z_if_ne (tgt := 438) dL_begins_423 rfl (fun hc149 => ?_) (fun hc149 => ?_)
      · have h := it_f h hc149
        refine z_iconst (v := (0 : Int32)) dL_begins_438 kc_0 ?_
        cases h
        refine z_QS ?_
        refine z_sub (swU swA) ?_
        exact z_iret dL_begins_439 rfl rfl (by omega) (by omega) ⟨rfl, rfl⟩
      · have h := it_t h hc149
        refine z_aload_n (i := 0) dL_begins_426 rfl rfl ?_
        refine z_fVi (sX9_errorPosition q147.2) dL_begins_427 ml_L_355 cd_X9_errorPosition mk0 rfl rfl rfl (rmk_r (by decide) (by decide) (by omega) (by omega)) rfl rfl ?_
        refine z_iconst (v := (-1 : Int32)) dL_begins_430 kc_m1 ?_
        refine z_icmp_ne (tgt := 438) dL_begins_431 rfl (fun hc150 => ?_) (fun hc150 => ?_)
        · have h := it_f h hc150
          refine z_iconst (v := (0 : Int32)) dL_begins_438 kc_0 ?_
          cases h
          refine z_QS ?_
          refine z_sub (swU swA) ?_
          exact z_iret dL_begins_439 rfl rfl (by omega) (by omega) ⟨rfl, rfl⟩
        · have h := it_t h hc150
          refine z_iconst (v := (1 : Int32)) dL_begins_434 kc_1 ?_
          refine z_goto (tgt := 439) dL_begins_435 rfl ?_
          cases h
          refine z_QS ?_
          refine z_sub (swU swA) ?_
          exact z_iret dL_begins_439 rfl rfl (by omega) (by omega) ⟨rfl, rfl⟩
