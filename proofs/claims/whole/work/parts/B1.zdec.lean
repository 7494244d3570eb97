/-! the law's instructions, 0 -/
theorem dT_of {c : ByteArray} {L : List (Nat × (Instr × Nat))} (h : L.all (fun q => decide (decode c q.1 = .ok q.2)) = true) {pc : Nat} {r : Instr × Nat} (n : Nat) (hn : L[n]? = some (pc, r)) : decode c pc = .ok r := by
  have h1 := List.all_eq_true.mp h _ (List.mem_of_getElem? hn)
  exact of_decide_eq_true h1
def dTL_0_0 : List (Nat × (Instr × Nat)) := [(0, (.new 8, 3)), (3, (.dup, 1)), (4, (.invokespecial 134, 3)), (7, (.astore_n 1, 1)), (8, (.new 135, 3)), (11, (.dup, 1)), (12, (.invokespecial 137, 3)), (15, (.astore_n 2, 1)), (16, (.iconst 1, 1)), (17, (.newarray .long, 2)), (19, (.astore_n 3, 1)), (20, (.iconst 1, 1)), (21, (.newarray .double, 2)), (23, (.astore 4, 2)), (25, (.iconst 0, 1)), (26, (.istore 5, 2)), (28, (.iload 5, 2)), (30, (.aload_n 0, 1)), (31, (.arraylength, 1)), (32, (.bipush 6, 2)), (34, (.isub, 1)), (35, (.if_icmp .gt 2879, 3)), (38, (.aload_n 0, 1)), (39, (.iload 5, 2)), (41, (.iaload, 1)), (42, (.bipush 63, 2)), (44, (.iand, 1)), (45, (.tableswitch 2863 0 57 #[247, 351, 407, 420, 433, 446, 459, 472, 485, 498, 585, 641, 709, 789, 845, 901, 914, 970, 1026, 1082, 1138, 1194, 1257, 1313, 1326, 1339, 1352, 1393, 1407, 1420, 1433, 1446, 1459, 1536, 1614, 1627, 1640, 1696, 1752, 1808, 1888, 1968, 2036, 2104, 2172, 2228, 2296, 2364, 2420, 2476, 2532, 2588, 2656, 2669, 2694, 2707, 2751, 2807], 247)), (292, (.aload_n 1, 1)), (293, (.aload_n 0, 1)), (294, (.iload 5, 2)), (296, (.iconst 1, 1)), (297, (.iadd, 1)), (298, (.iaload, 1)), (299, (.aload_n 0, 1)), (300, (.iload 5, 2)), (302, (.iconst 2, 1)), (303, (.iadd, 1)), (304, (.iaload, 1)), (305, (.aload_n 0, 1)), (306, (.iload 5, 2)), (308, (.iconst 3, 1)), (309, (.iadd, 1)), (310, (.iaload, 1))]
theorem dTB_0_0 : dTL_0_0.all (fun q => decide (decode code q.1 = .ok q.2)) = true := by decide +kernel
set_option maxRecDepth 20000 in
theorem dW_0 : decode code 0 = .ok (.new 8, 3) := dT_of dTB_0_0 0 rfl
set_option maxRecDepth 20000 in
theorem dW_3 : decode code 3 = .ok (.dup, 1) := dT_of dTB_0_0 1 rfl
set_option maxRecDepth 20000 in
theorem dW_4 : decode code 4 = .ok (.invokespecial 134, 3) := dT_of dTB_0_0 2 rfl
set_option maxRecDepth 20000 in
theorem dW_7 : decode code 7 = .ok (.astore_n 1, 1) := dT_of dTB_0_0 3 rfl
set_option maxRecDepth 20000 in
theorem dW_8 : decode code 8 = .ok (.new 135, 3) := dT_of dTB_0_0 4 rfl
set_option maxRecDepth 20000 in
theorem dW_11 : decode code 11 = .ok (.dup, 1) := dT_of dTB_0_0 5 rfl
set_option maxRecDepth 20000 in
theorem dW_12 : decode code 12 = .ok (.invokespecial 137, 3) := dT_of dTB_0_0 6 rfl
set_option maxRecDepth 20000 in
theorem dW_15 : decode code 15 = .ok (.astore_n 2, 1) := dT_of dTB_0_0 7 rfl
set_option maxRecDepth 20000 in
theorem dW_16 : decode code 16 = .ok (.iconst 1, 1) := dT_of dTB_0_0 8 rfl
set_option maxRecDepth 20000 in
theorem dW_17 : decode code 17 = .ok (.newarray .long, 2) := dT_of dTB_0_0 9 rfl
set_option maxRecDepth 20000 in
theorem dW_19 : decode code 19 = .ok (.astore_n 3, 1) := dT_of dTB_0_0 10 rfl
set_option maxRecDepth 20000 in
theorem dW_20 : decode code 20 = .ok (.iconst 1, 1) := dT_of dTB_0_0 11 rfl
set_option maxRecDepth 20000 in
theorem dW_21 : decode code 21 = .ok (.newarray .double, 2) := dT_of dTB_0_0 12 rfl
set_option maxRecDepth 20000 in
theorem dW_23 : decode code 23 = .ok (.astore 4, 2) := dT_of dTB_0_0 13 rfl
set_option maxRecDepth 20000 in
theorem dW_25 : decode code 25 = .ok (.iconst 0, 1) := dT_of dTB_0_0 14 rfl
set_option maxRecDepth 20000 in
theorem dW_26 : decode code 26 = .ok (.istore 5, 2) := dT_of dTB_0_0 15 rfl
set_option maxRecDepth 20000 in
theorem dW_28 : decode code 28 = .ok (.iload 5, 2) := dT_of dTB_0_0 16 rfl
set_option maxRecDepth 20000 in
theorem dW_30 : decode code 30 = .ok (.aload_n 0, 1) := dT_of dTB_0_0 17 rfl
set_option maxRecDepth 20000 in
theorem dW_31 : decode code 31 = .ok (.arraylength, 1) := dT_of dTB_0_0 18 rfl
set_option maxRecDepth 20000 in
theorem dW_32 : decode code 32 = .ok (.bipush 6, 2) := dT_of dTB_0_0 19 rfl
set_option maxRecDepth 20000 in
theorem dW_34 : decode code 34 = .ok (.isub, 1) := dT_of dTB_0_0 20 rfl
set_option maxRecDepth 20000 in
theorem dW_35 : decode code 35 = .ok (.if_icmp .gt 2879, 3) := dT_of dTB_0_0 21 rfl
set_option maxRecDepth 20000 in
theorem dW_38 : decode code 38 = .ok (.aload_n 0, 1) := dT_of dTB_0_0 22 rfl
set_option maxRecDepth 20000 in
theorem dW_39 : decode code 39 = .ok (.iload 5, 2) := dT_of dTB_0_0 23 rfl
set_option maxRecDepth 20000 in
theorem dW_41 : decode code 41 = .ok (.iaload, 1) := dT_of dTB_0_0 24 rfl
set_option maxRecDepth 20000 in
theorem dW_42 : decode code 42 = .ok (.bipush 63, 2) := dT_of dTB_0_0 25 rfl
set_option maxRecDepth 20000 in
theorem dW_44 : decode code 44 = .ok (.iand, 1) := dT_of dTB_0_0 26 rfl
set_option maxRecDepth 20000 in
theorem dW_45 : decode code 45 = .ok (.tableswitch 2863 0 57 #[247, 351, 407, 420, 433, 446, 459, 472, 485, 498, 585, 641, 709, 789, 845, 901, 914, 970, 1026, 1082, 1138, 1194, 1257, 1313, 1326, 1339, 1352, 1393, 1407, 1420, 1433, 1446, 1459, 1536, 1614, 1627, 1640, 1696, 1752, 1808, 1888, 1968, 2036, 2104, 2172, 2228, 2296, 2364, 2420, 2476, 2532, 2588, 2656, 2669, 2694, 2707, 2751, 2807], 247) := dT_of dTB_0_0 27 rfl
set_option maxRecDepth 20000 in
theorem dW_292 : decode code 292 = .ok (.aload_n 1, 1) := dT_of dTB_0_0 28 rfl
set_option maxRecDepth 20000 in
theorem dW_293 : decode code 293 = .ok (.aload_n 0, 1) := dT_of dTB_0_0 29 rfl
set_option maxRecDepth 20000 in
theorem dW_294 : decode code 294 = .ok (.iload 5, 2) := dT_of dTB_0_0 30 rfl
set_option maxRecDepth 20000 in
theorem dW_296 : decode code 296 = .ok (.iconst 1, 1) := dT_of dTB_0_0 31 rfl
set_option maxRecDepth 20000 in
theorem dW_297 : decode code 297 = .ok (.iadd, 1) := dT_of dTB_0_0 32 rfl
set_option maxRecDepth 20000 in
theorem dW_298 : decode code 298 = .ok (.iaload, 1) := dT_of dTB_0_0 33 rfl
set_option maxRecDepth 20000 in
theorem dW_299 : decode code 299 = .ok (.aload_n 0, 1) := dT_of dTB_0_0 34 rfl
set_option maxRecDepth 20000 in
theorem dW_300 : decode code 300 = .ok (.iload 5, 2) := dT_of dTB_0_0 35 rfl
set_option maxRecDepth 20000 in
theorem dW_302 : decode code 302 = .ok (.iconst 2, 1) := dT_of dTB_0_0 36 rfl
set_option maxRecDepth 20000 in
theorem dW_303 : decode code 303 = .ok (.iadd, 1) := dT_of dTB_0_0 37 rfl
set_option maxRecDepth 20000 in
theorem dW_304 : decode code 304 = .ok (.iaload, 1) := dT_of dTB_0_0 38 rfl
set_option maxRecDepth 20000 in
theorem dW_305 : decode code 305 = .ok (.aload_n 0, 1) := dT_of dTB_0_0 39 rfl
set_option maxRecDepth 20000 in
theorem dW_306 : decode code 306 = .ok (.iload 5, 2) := dT_of dTB_0_0 40 rfl
set_option maxRecDepth 20000 in
theorem dW_308 : decode code 308 = .ok (.iconst 3, 1) := dT_of dTB_0_0 41 rfl
set_option maxRecDepth 20000 in
theorem dW_309 : decode code 309 = .ok (.iadd, 1) := dT_of dTB_0_0 42 rfl
set_option maxRecDepth 20000 in
theorem dW_310 : decode code 310 = .ok (.iaload, 1) := dT_of dTB_0_0 43 rfl
def dTL_0_1 : List (Nat × (Instr × Nat)) := [(311, (.aload_n 0, 1)), (312, (.iload 5, 2)), (314, (.iconst 4, 1)), (315, (.iadd, 1)), (316, (.iaload, 1)), (317, (.aload_n 0, 1)), (318, (.iload 5, 2)), (320, (.iconst 5, 1)), (321, (.iadd, 1)), (322, (.iaload, 1)), (323, (.aload_n 3, 1)), (324, (.invokestatic 138, 3)), (327, (.istore 6, 2)), (329, (.aload_n 2, 1)), (330, (.aload_n 0, 1)), (331, (.iload 5, 2)), (333, (.iconst 1, 1)), (334, (.iadd, 1)), (335, (.iaload, 1)), (336, (.aload_n 0, 1)), (337, (.iload 5, 2)), (339, (.iconst 2, 1)), (340, (.iadd, 1)), (341, (.iaload, 1)), (342, (.aload_n 0, 1)), (343, (.iload 5, 2)), (345, (.iconst 3, 1)), (346, (.iadd, 1)), (347, (.iaload, 1)), (348, (.aload_n 0, 1)), (349, (.iload 5, 2)), (351, (.iconst 4, 1)), (352, (.iadd, 1)), (353, (.iaload, 1)), (354, (.aload_n 0, 1)), (355, (.iload 5, 2)), (357, (.iconst 5, 1)), (358, (.iadd, 1)), (359, (.iaload, 1)), (360, (.invokevirtual 143, 3)), (363, (.istore 7, 2)), (365, (.aload_n 2, 1)), (366, (.invokevirtual 144, 3)), (369, (.iload 6, 2))]
theorem dTB_0_1 : dTL_0_1.all (fun q => decide (decode code q.1 = .ok q.2)) = true := by decide +kernel
set_option maxRecDepth 20000 in
theorem dW_311 : decode code 311 = .ok (.aload_n 0, 1) := dT_of dTB_0_1 0 rfl
set_option maxRecDepth 20000 in
theorem dW_312 : decode code 312 = .ok (.iload 5, 2) := dT_of dTB_0_1 1 rfl
set_option maxRecDepth 20000 in
theorem dW_314 : decode code 314 = .ok (.iconst 4, 1) := dT_of dTB_0_1 2 rfl
set_option maxRecDepth 20000 in
theorem dW_315 : decode code 315 = .ok (.iadd, 1) := dT_of dTB_0_1 3 rfl
set_option maxRecDepth 20000 in
theorem dW_316 : decode code 316 = .ok (.iaload, 1) := dT_of dTB_0_1 4 rfl
set_option maxRecDepth 20000 in
theorem dW_317 : decode code 317 = .ok (.aload_n 0, 1) := dT_of dTB_0_1 5 rfl
set_option maxRecDepth 20000 in
theorem dW_318 : decode code 318 = .ok (.iload 5, 2) := dT_of dTB_0_1 6 rfl
set_option maxRecDepth 20000 in
theorem dW_320 : decode code 320 = .ok (.iconst 5, 1) := dT_of dTB_0_1 7 rfl
set_option maxRecDepth 20000 in
theorem dW_321 : decode code 321 = .ok (.iadd, 1) := dT_of dTB_0_1 8 rfl
set_option maxRecDepth 20000 in
theorem dW_322 : decode code 322 = .ok (.iaload, 1) := dT_of dTB_0_1 9 rfl
set_option maxRecDepth 20000 in
theorem dW_323 : decode code 323 = .ok (.aload_n 3, 1) := dT_of dTB_0_1 10 rfl
set_option maxRecDepth 20000 in
theorem dW_324 : decode code 324 = .ok (.invokestatic 138, 3) := dT_of dTB_0_1 11 rfl
set_option maxRecDepth 20000 in
theorem dW_327 : decode code 327 = .ok (.istore 6, 2) := dT_of dTB_0_1 12 rfl
set_option maxRecDepth 20000 in
theorem dW_329 : decode code 329 = .ok (.aload_n 2, 1) := dT_of dTB_0_1 13 rfl
set_option maxRecDepth 20000 in
theorem dW_330 : decode code 330 = .ok (.aload_n 0, 1) := dT_of dTB_0_1 14 rfl
set_option maxRecDepth 20000 in
theorem dW_331 : decode code 331 = .ok (.iload 5, 2) := dT_of dTB_0_1 15 rfl
set_option maxRecDepth 20000 in
theorem dW_333 : decode code 333 = .ok (.iconst 1, 1) := dT_of dTB_0_1 16 rfl
set_option maxRecDepth 20000 in
theorem dW_334 : decode code 334 = .ok (.iadd, 1) := dT_of dTB_0_1 17 rfl
set_option maxRecDepth 20000 in
theorem dW_335 : decode code 335 = .ok (.iaload, 1) := dT_of dTB_0_1 18 rfl
set_option maxRecDepth 20000 in
theorem dW_336 : decode code 336 = .ok (.aload_n 0, 1) := dT_of dTB_0_1 19 rfl
set_option maxRecDepth 20000 in
theorem dW_337 : decode code 337 = .ok (.iload 5, 2) := dT_of dTB_0_1 20 rfl
set_option maxRecDepth 20000 in
theorem dW_339 : decode code 339 = .ok (.iconst 2, 1) := dT_of dTB_0_1 21 rfl
set_option maxRecDepth 20000 in
theorem dW_340 : decode code 340 = .ok (.iadd, 1) := dT_of dTB_0_1 22 rfl
set_option maxRecDepth 20000 in
theorem dW_341 : decode code 341 = .ok (.iaload, 1) := dT_of dTB_0_1 23 rfl
set_option maxRecDepth 20000 in
theorem dW_342 : decode code 342 = .ok (.aload_n 0, 1) := dT_of dTB_0_1 24 rfl
set_option maxRecDepth 20000 in
theorem dW_343 : decode code 343 = .ok (.iload 5, 2) := dT_of dTB_0_1 25 rfl
set_option maxRecDepth 20000 in
theorem dW_345 : decode code 345 = .ok (.iconst 3, 1) := dT_of dTB_0_1 26 rfl
set_option maxRecDepth 20000 in
theorem dW_346 : decode code 346 = .ok (.iadd, 1) := dT_of dTB_0_1 27 rfl
set_option maxRecDepth 20000 in
theorem dW_347 : decode code 347 = .ok (.iaload, 1) := dT_of dTB_0_1 28 rfl
set_option maxRecDepth 20000 in
theorem dW_348 : decode code 348 = .ok (.aload_n 0, 1) := dT_of dTB_0_1 29 rfl
set_option maxRecDepth 20000 in
theorem dW_349 : decode code 349 = .ok (.iload 5, 2) := dT_of dTB_0_1 30 rfl
set_option maxRecDepth 20000 in
theorem dW_351 : decode code 351 = .ok (.iconst 4, 1) := dT_of dTB_0_1 31 rfl
set_option maxRecDepth 20000 in
theorem dW_352 : decode code 352 = .ok (.iadd, 1) := dT_of dTB_0_1 32 rfl
set_option maxRecDepth 20000 in
theorem dW_353 : decode code 353 = .ok (.iaload, 1) := dT_of dTB_0_1 33 rfl
set_option maxRecDepth 20000 in
theorem dW_354 : decode code 354 = .ok (.aload_n 0, 1) := dT_of dTB_0_1 34 rfl
set_option maxRecDepth 20000 in
theorem dW_355 : decode code 355 = .ok (.iload 5, 2) := dT_of dTB_0_1 35 rfl
set_option maxRecDepth 20000 in
theorem dW_357 : decode code 357 = .ok (.iconst 5, 1) := dT_of dTB_0_1 36 rfl
set_option maxRecDepth 20000 in
theorem dW_358 : decode code 358 = .ok (.iadd, 1) := dT_of dTB_0_1 37 rfl
set_option maxRecDepth 20000 in
theorem dW_359 : decode code 359 = .ok (.iaload, 1) := dT_of dTB_0_1 38 rfl
set_option maxRecDepth 20000 in
theorem dW_360 : decode code 360 = .ok (.invokevirtual 143, 3) := dT_of dTB_0_1 39 rfl
set_option maxRecDepth 20000 in
theorem dW_363 : decode code 363 = .ok (.istore 7, 2) := dT_of dTB_0_1 40 rfl
set_option maxRecDepth 20000 in
theorem dW_365 : decode code 365 = .ok (.aload_n 2, 1) := dT_of dTB_0_1 41 rfl
set_option maxRecDepth 20000 in
theorem dW_366 : decode code 366 = .ok (.invokevirtual 144, 3) := dT_of dTB_0_1 42 rfl
set_option maxRecDepth 20000 in
theorem dW_369 : decode code 369 = .ok (.iload 6, 2) := dT_of dTB_0_1 43 rfl
def dTL_0_2 : List (Nat × (Instr × Nat)) := [(371, (.if_icmp .eq 5, 3)), (376, (.iload 6, 2)), (378, (.ifCond .ne 15, 3)), (381, (.aload_n 3, 1)), (382, (.iconst 0, 1)), (383, (.laload, 1)), (384, (.iload 7, 2)), (386, (.i2l, 1)), (387, (.lcmp, 1)), (388, (.ifCond .eq 5, 3)), (393, (.goto 2515, 3)), (396, (.aload_n 1, 1)), (397, (.aload_n 0, 1)), (398, (.iload 5, 2)), (400, (.iconst 1, 1)), (401, (.iadd, 1)), (402, (.iaload, 1)), (403, (.aload_n 3, 1)), (404, (.invokestatic 147, 3)), (407, (.istore 6, 2)), (409, (.aload_n 2, 1)), (410, (.aload_n 0, 1)), (411, (.iload 5, 2)), (413, (.iconst 1, 1)), (414, (.iadd, 1)), (415, (.iaload, 1)), (416, (.invokevirtual 150, 3)), (419, (.istore 7, 2)), (421, (.aload_n 2, 1)), (422, (.invokevirtual 144, 3)), (425, (.iload 6, 2)), (427, (.if_icmp .eq 5, 3)), (432, (.iload 6, 2)), (434, (.ifCond .ne 15, 3)), (437, (.aload_n 3, 1)), (438, (.iconst 0, 1)), (439, (.laload, 1)), (440, (.iload 7, 2)), (442, (.i2l, 1)), (443, (.lcmp, 1)), (444, (.ifCond .eq 5, 3)), (449, (.goto 2459, 3)), (452, (.aload_n 1, 1)), (453, (.invokevirtual 151, 3))]
theorem dTB_0_2 : dTL_0_2.all (fun q => decide (decode code q.1 = .ok q.2)) = true := by decide +kernel
set_option maxRecDepth 20000 in
theorem dW_371 : decode code 371 = .ok (.if_icmp .eq 5, 3) := dT_of dTB_0_2 0 rfl
set_option maxRecDepth 20000 in
theorem dW_376 : decode code 376 = .ok (.iload 6, 2) := dT_of dTB_0_2 1 rfl
set_option maxRecDepth 20000 in
theorem dW_378 : decode code 378 = .ok (.ifCond .ne 15, 3) := dT_of dTB_0_2 2 rfl
set_option maxRecDepth 20000 in
theorem dW_381 : decode code 381 = .ok (.aload_n 3, 1) := dT_of dTB_0_2 3 rfl
set_option maxRecDepth 20000 in
theorem dW_382 : decode code 382 = .ok (.iconst 0, 1) := dT_of dTB_0_2 4 rfl
set_option maxRecDepth 20000 in
theorem dW_383 : decode code 383 = .ok (.laload, 1) := dT_of dTB_0_2 5 rfl
set_option maxRecDepth 20000 in
theorem dW_384 : decode code 384 = .ok (.iload 7, 2) := dT_of dTB_0_2 6 rfl
set_option maxRecDepth 20000 in
theorem dW_386 : decode code 386 = .ok (.i2l, 1) := dT_of dTB_0_2 7 rfl
set_option maxRecDepth 20000 in
theorem dW_387 : decode code 387 = .ok (.lcmp, 1) := dT_of dTB_0_2 8 rfl
set_option maxRecDepth 20000 in
theorem dW_388 : decode code 388 = .ok (.ifCond .eq 5, 3) := dT_of dTB_0_2 9 rfl
set_option maxRecDepth 20000 in
theorem dW_393 : decode code 393 = .ok (.goto 2515, 3) := dT_of dTB_0_2 10 rfl
set_option maxRecDepth 20000 in
theorem dW_396 : decode code 396 = .ok (.aload_n 1, 1) := dT_of dTB_0_2 11 rfl
set_option maxRecDepth 20000 in
theorem dW_397 : decode code 397 = .ok (.aload_n 0, 1) := dT_of dTB_0_2 12 rfl
set_option maxRecDepth 20000 in
theorem dW_398 : decode code 398 = .ok (.iload 5, 2) := dT_of dTB_0_2 13 rfl
set_option maxRecDepth 20000 in
theorem dW_400 : decode code 400 = .ok (.iconst 1, 1) := dT_of dTB_0_2 14 rfl
set_option maxRecDepth 20000 in
theorem dW_401 : decode code 401 = .ok (.iadd, 1) := dT_of dTB_0_2 15 rfl
set_option maxRecDepth 20000 in
theorem dW_402 : decode code 402 = .ok (.iaload, 1) := dT_of dTB_0_2 16 rfl
set_option maxRecDepth 20000 in
theorem dW_403 : decode code 403 = .ok (.aload_n 3, 1) := dT_of dTB_0_2 17 rfl
set_option maxRecDepth 20000 in
theorem dW_404 : decode code 404 = .ok (.invokestatic 147, 3) := dT_of dTB_0_2 18 rfl
set_option maxRecDepth 20000 in
theorem dW_407 : decode code 407 = .ok (.istore 6, 2) := dT_of dTB_0_2 19 rfl
set_option maxRecDepth 20000 in
theorem dW_409 : decode code 409 = .ok (.aload_n 2, 1) := dT_of dTB_0_2 20 rfl
set_option maxRecDepth 20000 in
theorem dW_410 : decode code 410 = .ok (.aload_n 0, 1) := dT_of dTB_0_2 21 rfl
set_option maxRecDepth 20000 in
theorem dW_411 : decode code 411 = .ok (.iload 5, 2) := dT_of dTB_0_2 22 rfl
set_option maxRecDepth 20000 in
theorem dW_413 : decode code 413 = .ok (.iconst 1, 1) := dT_of dTB_0_2 23 rfl
set_option maxRecDepth 20000 in
theorem dW_414 : decode code 414 = .ok (.iadd, 1) := dT_of dTB_0_2 24 rfl
set_option maxRecDepth 20000 in
theorem dW_415 : decode code 415 = .ok (.iaload, 1) := dT_of dTB_0_2 25 rfl
set_option maxRecDepth 20000 in
theorem dW_416 : decode code 416 = .ok (.invokevirtual 150, 3) := dT_of dTB_0_2 26 rfl
set_option maxRecDepth 20000 in
theorem dW_419 : decode code 419 = .ok (.istore 7, 2) := dT_of dTB_0_2 27 rfl
set_option maxRecDepth 20000 in
theorem dW_421 : decode code 421 = .ok (.aload_n 2, 1) := dT_of dTB_0_2 28 rfl
set_option maxRecDepth 20000 in
theorem dW_422 : decode code 422 = .ok (.invokevirtual 144, 3) := dT_of dTB_0_2 29 rfl
set_option maxRecDepth 20000 in
theorem dW_425 : decode code 425 = .ok (.iload 6, 2) := dT_of dTB_0_2 30 rfl
set_option maxRecDepth 20000 in
theorem dW_427 : decode code 427 = .ok (.if_icmp .eq 5, 3) := dT_of dTB_0_2 31 rfl
set_option maxRecDepth 20000 in
theorem dW_432 : decode code 432 = .ok (.iload 6, 2) := dT_of dTB_0_2 32 rfl
set_option maxRecDepth 20000 in
theorem dW_434 : decode code 434 = .ok (.ifCond .ne 15, 3) := dT_of dTB_0_2 33 rfl
set_option maxRecDepth 20000 in
theorem dW_437 : decode code 437 = .ok (.aload_n 3, 1) := dT_of dTB_0_2 34 rfl
set_option maxRecDepth 20000 in
theorem dW_438 : decode code 438 = .ok (.iconst 0, 1) := dT_of dTB_0_2 35 rfl
set_option maxRecDepth 20000 in
theorem dW_439 : decode code 439 = .ok (.laload, 1) := dT_of dTB_0_2 36 rfl
set_option maxRecDepth 20000 in
theorem dW_440 : decode code 440 = .ok (.iload 7, 2) := dT_of dTB_0_2 37 rfl
set_option maxRecDepth 20000 in
theorem dW_442 : decode code 442 = .ok (.i2l, 1) := dT_of dTB_0_2 38 rfl
set_option maxRecDepth 20000 in
theorem dW_443 : decode code 443 = .ok (.lcmp, 1) := dT_of dTB_0_2 39 rfl
set_option maxRecDepth 20000 in
theorem dW_444 : decode code 444 = .ok (.ifCond .eq 5, 3) := dT_of dTB_0_2 40 rfl
set_option maxRecDepth 20000 in
theorem dW_449 : decode code 449 = .ok (.goto 2459, 3) := dT_of dTB_0_2 41 rfl
set_option maxRecDepth 20000 in
theorem dW_452 : decode code 452 = .ok (.aload_n 1, 1) := dT_of dTB_0_2 42 rfl
set_option maxRecDepth 20000 in
theorem dW_453 : decode code 453 = .ok (.invokevirtual 151, 3) := dT_of dTB_0_2 43 rfl
def dTL_0_3 : List (Nat × (Instr × Nat)) := [(456, (.aload_n 2, 1)), (457, (.invokevirtual 154, 3)), (460, (.if_icmp .eq 2448, 3)), (465, (.aload_n 1, 1)), (466, (.invokevirtual 155, 3)), (469, (.aload_n 2, 1)), (470, (.invokevirtual 158, 3)), (473, (.if_icmp .eq 2435, 3)), (478, (.aload_n 1, 1)), (479, (.invokevirtual 159, 3)), (482, (.aload_n 2, 1)), (483, (.invokevirtual 162, 3)), (486, (.if_icmp .eq 2422, 3)), (491, (.aload_n 1, 1)), (492, (.invokevirtual 163, 3)), (495, (.aload_n 2, 1)), (496, (.invokevirtual 166, 3)), (499, (.if_icmp .eq 2409, 3)), (504, (.aload_n 1, 1)), (505, (.invokevirtual 167, 3)), (508, (.aload_n 2, 1)), (509, (.invokevirtual 170, 3)), (512, (.if_icmp .eq 2396, 3)), (517, (.aload_n 1, 1)), (518, (.invokevirtual 171, 3)), (521, (.aload_n 2, 1)), (522, (.invokevirtual 174, 3)), (525, (.if_icmp .eq 2383, 3)), (530, (.aload_n 1, 1)), (531, (.invokevirtual 175, 3)), (534, (.aload_n 2, 1)), (535, (.invokevirtual 178, 3)), (538, (.if_icmp .eq 2370, 3)), (543, (.aload_n 1, 1)), (544, (.aload_n 0, 1)), (545, (.iload 5, 2)), (547, (.iconst 1, 1)), (548, (.iadd, 1)), (549, (.iaload, 1)), (550, (.aload_n 0, 1)), (551, (.iload 5, 2)), (553, (.iconst 2, 1)), (554, (.iadd, 1)), (555, (.iaload, 1))]
theorem dTB_0_3 : dTL_0_3.all (fun q => decide (decode code q.1 = .ok q.2)) = true := by decide +kernel
set_option maxRecDepth 20000 in
theorem dW_456 : decode code 456 = .ok (.aload_n 2, 1) := dT_of dTB_0_3 0 rfl
set_option maxRecDepth 20000 in
theorem dW_457 : decode code 457 = .ok (.invokevirtual 154, 3) := dT_of dTB_0_3 1 rfl
set_option maxRecDepth 20000 in
theorem dW_460 : decode code 460 = .ok (.if_icmp .eq 2448, 3) := dT_of dTB_0_3 2 rfl
set_option maxRecDepth 20000 in
theorem dW_465 : decode code 465 = .ok (.aload_n 1, 1) := dT_of dTB_0_3 3 rfl
set_option maxRecDepth 20000 in
theorem dW_466 : decode code 466 = .ok (.invokevirtual 155, 3) := dT_of dTB_0_3 4 rfl
set_option maxRecDepth 20000 in
theorem dW_469 : decode code 469 = .ok (.aload_n 2, 1) := dT_of dTB_0_3 5 rfl
set_option maxRecDepth 20000 in
theorem dW_470 : decode code 470 = .ok (.invokevirtual 158, 3) := dT_of dTB_0_3 6 rfl
set_option maxRecDepth 20000 in
theorem dW_473 : decode code 473 = .ok (.if_icmp .eq 2435, 3) := dT_of dTB_0_3 7 rfl
set_option maxRecDepth 20000 in
theorem dW_478 : decode code 478 = .ok (.aload_n 1, 1) := dT_of dTB_0_3 8 rfl
set_option maxRecDepth 20000 in
theorem dW_479 : decode code 479 = .ok (.invokevirtual 159, 3) := dT_of dTB_0_3 9 rfl
set_option maxRecDepth 20000 in
theorem dW_482 : decode code 482 = .ok (.aload_n 2, 1) := dT_of dTB_0_3 10 rfl
set_option maxRecDepth 20000 in
theorem dW_483 : decode code 483 = .ok (.invokevirtual 162, 3) := dT_of dTB_0_3 11 rfl
set_option maxRecDepth 20000 in
theorem dW_486 : decode code 486 = .ok (.if_icmp .eq 2422, 3) := dT_of dTB_0_3 12 rfl
set_option maxRecDepth 20000 in
theorem dW_491 : decode code 491 = .ok (.aload_n 1, 1) := dT_of dTB_0_3 13 rfl
set_option maxRecDepth 20000 in
theorem dW_492 : decode code 492 = .ok (.invokevirtual 163, 3) := dT_of dTB_0_3 14 rfl
set_option maxRecDepth 20000 in
theorem dW_495 : decode code 495 = .ok (.aload_n 2, 1) := dT_of dTB_0_3 15 rfl
set_option maxRecDepth 20000 in
theorem dW_496 : decode code 496 = .ok (.invokevirtual 166, 3) := dT_of dTB_0_3 16 rfl
set_option maxRecDepth 20000 in
theorem dW_499 : decode code 499 = .ok (.if_icmp .eq 2409, 3) := dT_of dTB_0_3 17 rfl
set_option maxRecDepth 20000 in
theorem dW_504 : decode code 504 = .ok (.aload_n 1, 1) := dT_of dTB_0_3 18 rfl
set_option maxRecDepth 20000 in
theorem dW_505 : decode code 505 = .ok (.invokevirtual 167, 3) := dT_of dTB_0_3 19 rfl
set_option maxRecDepth 20000 in
theorem dW_508 : decode code 508 = .ok (.aload_n 2, 1) := dT_of dTB_0_3 20 rfl
set_option maxRecDepth 20000 in
theorem dW_509 : decode code 509 = .ok (.invokevirtual 170, 3) := dT_of dTB_0_3 21 rfl
set_option maxRecDepth 20000 in
theorem dW_512 : decode code 512 = .ok (.if_icmp .eq 2396, 3) := dT_of dTB_0_3 22 rfl
set_option maxRecDepth 20000 in
theorem dW_517 : decode code 517 = .ok (.aload_n 1, 1) := dT_of dTB_0_3 23 rfl
set_option maxRecDepth 20000 in
theorem dW_518 : decode code 518 = .ok (.invokevirtual 171, 3) := dT_of dTB_0_3 24 rfl
set_option maxRecDepth 20000 in
theorem dW_521 : decode code 521 = .ok (.aload_n 2, 1) := dT_of dTB_0_3 25 rfl
set_option maxRecDepth 20000 in
theorem dW_522 : decode code 522 = .ok (.invokevirtual 174, 3) := dT_of dTB_0_3 26 rfl
set_option maxRecDepth 20000 in
theorem dW_525 : decode code 525 = .ok (.if_icmp .eq 2383, 3) := dT_of dTB_0_3 27 rfl
set_option maxRecDepth 20000 in
theorem dW_530 : decode code 530 = .ok (.aload_n 1, 1) := dT_of dTB_0_3 28 rfl
set_option maxRecDepth 20000 in
theorem dW_531 : decode code 531 = .ok (.invokevirtual 175, 3) := dT_of dTB_0_3 29 rfl
set_option maxRecDepth 20000 in
theorem dW_534 : decode code 534 = .ok (.aload_n 2, 1) := dT_of dTB_0_3 30 rfl
set_option maxRecDepth 20000 in
theorem dW_535 : decode code 535 = .ok (.invokevirtual 178, 3) := dT_of dTB_0_3 31 rfl
set_option maxRecDepth 20000 in
theorem dW_538 : decode code 538 = .ok (.if_icmp .eq 2370, 3) := dT_of dTB_0_3 32 rfl
set_option maxRecDepth 20000 in
theorem dW_543 : decode code 543 = .ok (.aload_n 1, 1) := dT_of dTB_0_3 33 rfl
set_option maxRecDepth 20000 in
theorem dW_544 : decode code 544 = .ok (.aload_n 0, 1) := dT_of dTB_0_3 34 rfl
set_option maxRecDepth 20000 in
theorem dW_545 : decode code 545 = .ok (.iload 5, 2) := dT_of dTB_0_3 35 rfl
set_option maxRecDepth 20000 in
theorem dW_547 : decode code 547 = .ok (.iconst 1, 1) := dT_of dTB_0_3 36 rfl
set_option maxRecDepth 20000 in
theorem dW_548 : decode code 548 = .ok (.iadd, 1) := dT_of dTB_0_3 37 rfl
set_option maxRecDepth 20000 in
theorem dW_549 : decode code 549 = .ok (.iaload, 1) := dT_of dTB_0_3 38 rfl
set_option maxRecDepth 20000 in
theorem dW_550 : decode code 550 = .ok (.aload_n 0, 1) := dT_of dTB_0_3 39 rfl
set_option maxRecDepth 20000 in
theorem dW_551 : decode code 551 = .ok (.iload 5, 2) := dT_of dTB_0_3 40 rfl
set_option maxRecDepth 20000 in
theorem dW_553 : decode code 553 = .ok (.iconst 2, 1) := dT_of dTB_0_3 41 rfl
set_option maxRecDepth 20000 in
theorem dW_554 : decode code 554 = .ok (.iadd, 1) := dT_of dTB_0_3 42 rfl
set_option maxRecDepth 20000 in
theorem dW_555 : decode code 555 = .ok (.iaload, 1) := dT_of dTB_0_3 43 rfl
def dTL_0_4 : List (Nat × (Instr × Nat)) := [(556, (.aload_n 0, 1)), (557, (.iload 5, 2)), (559, (.iconst 3, 1)), (560, (.iadd, 1)), (561, (.iaload, 1)), (562, (.aload_n 3, 1)), (563, (.invokestatic 179, 3)), (566, (.istore 6, 2)), (568, (.aload_n 2, 1)), (569, (.aload_n 0, 1)), (570, (.iload 5, 2)), (572, (.iconst 1, 1)), (573, (.iadd, 1)), (574, (.iaload, 1)), (575, (.aload_n 0, 1)), (576, (.iload 5, 2)), (578, (.iconst 2, 1)), (579, (.iadd, 1)), (580, (.iaload, 1)), (581, (.aload_n 0, 1)), (582, (.iload 5, 2)), (584, (.iconst 3, 1)), (585, (.iadd, 1)), (586, (.iaload, 1)), (587, (.invokevirtual 182, 3)), (590, (.istore 7, 2)), (592, (.aload_n 2, 1)), (593, (.invokevirtual 144, 3)), (596, (.iload 6, 2)), (598, (.if_icmp .eq 5, 3)), (603, (.iload 6, 2)), (605, (.ifCond .ne 22, 3)), (608, (.aload_n 3, 1)), (609, (.iconst 0, 1)), (610, (.laload, 1)), (611, (.iload 7, 2)), (613, (.ifCond .eq 7, 3)), (616, (.lconst 1, 1)), (617, (.goto 4, 3)), (620, (.lconst 0, 1)), (621, (.lcmp, 1)), (622, (.ifCond .eq 5, 3)), (627, (.goto 2281, 3)), (630, (.aload_n 1, 1))]
theorem dTB_0_4 : dTL_0_4.all (fun q => decide (decode code q.1 = .ok q.2)) = true := by decide +kernel
set_option maxRecDepth 20000 in
theorem dW_556 : decode code 556 = .ok (.aload_n 0, 1) := dT_of dTB_0_4 0 rfl
set_option maxRecDepth 20000 in
theorem dW_557 : decode code 557 = .ok (.iload 5, 2) := dT_of dTB_0_4 1 rfl
set_option maxRecDepth 20000 in
theorem dW_559 : decode code 559 = .ok (.iconst 3, 1) := dT_of dTB_0_4 2 rfl
set_option maxRecDepth 20000 in
theorem dW_560 : decode code 560 = .ok (.iadd, 1) := dT_of dTB_0_4 3 rfl
set_option maxRecDepth 20000 in
theorem dW_561 : decode code 561 = .ok (.iaload, 1) := dT_of dTB_0_4 4 rfl
set_option maxRecDepth 20000 in
theorem dW_562 : decode code 562 = .ok (.aload_n 3, 1) := dT_of dTB_0_4 5 rfl
set_option maxRecDepth 20000 in
theorem dW_563 : decode code 563 = .ok (.invokestatic 179, 3) := dT_of dTB_0_4 6 rfl
set_option maxRecDepth 20000 in
theorem dW_566 : decode code 566 = .ok (.istore 6, 2) := dT_of dTB_0_4 7 rfl
set_option maxRecDepth 20000 in
theorem dW_568 : decode code 568 = .ok (.aload_n 2, 1) := dT_of dTB_0_4 8 rfl
set_option maxRecDepth 20000 in
theorem dW_569 : decode code 569 = .ok (.aload_n 0, 1) := dT_of dTB_0_4 9 rfl
set_option maxRecDepth 20000 in
theorem dW_570 : decode code 570 = .ok (.iload 5, 2) := dT_of dTB_0_4 10 rfl
set_option maxRecDepth 20000 in
theorem dW_572 : decode code 572 = .ok (.iconst 1, 1) := dT_of dTB_0_4 11 rfl
set_option maxRecDepth 20000 in
theorem dW_573 : decode code 573 = .ok (.iadd, 1) := dT_of dTB_0_4 12 rfl
set_option maxRecDepth 20000 in
theorem dW_574 : decode code 574 = .ok (.iaload, 1) := dT_of dTB_0_4 13 rfl
set_option maxRecDepth 20000 in
theorem dW_575 : decode code 575 = .ok (.aload_n 0, 1) := dT_of dTB_0_4 14 rfl
set_option maxRecDepth 20000 in
theorem dW_576 : decode code 576 = .ok (.iload 5, 2) := dT_of dTB_0_4 15 rfl
set_option maxRecDepth 20000 in
theorem dW_578 : decode code 578 = .ok (.iconst 2, 1) := dT_of dTB_0_4 16 rfl
set_option maxRecDepth 20000 in
theorem dW_579 : decode code 579 = .ok (.iadd, 1) := dT_of dTB_0_4 17 rfl
set_option maxRecDepth 20000 in
theorem dW_580 : decode code 580 = .ok (.iaload, 1) := dT_of dTB_0_4 18 rfl
set_option maxRecDepth 20000 in
theorem dW_581 : decode code 581 = .ok (.aload_n 0, 1) := dT_of dTB_0_4 19 rfl
set_option maxRecDepth 20000 in
theorem dW_582 : decode code 582 = .ok (.iload 5, 2) := dT_of dTB_0_4 20 rfl
set_option maxRecDepth 20000 in
theorem dW_584 : decode code 584 = .ok (.iconst 3, 1) := dT_of dTB_0_4 21 rfl
set_option maxRecDepth 20000 in
theorem dW_585 : decode code 585 = .ok (.iadd, 1) := dT_of dTB_0_4 22 rfl
set_option maxRecDepth 20000 in
theorem dW_586 : decode code 586 = .ok (.iaload, 1) := dT_of dTB_0_4 23 rfl
set_option maxRecDepth 20000 in
theorem dW_587 : decode code 587 = .ok (.invokevirtual 182, 3) := dT_of dTB_0_4 24 rfl
set_option maxRecDepth 20000 in
theorem dW_590 : decode code 590 = .ok (.istore 7, 2) := dT_of dTB_0_4 25 rfl
set_option maxRecDepth 20000 in
theorem dW_592 : decode code 592 = .ok (.aload_n 2, 1) := dT_of dTB_0_4 26 rfl
set_option maxRecDepth 20000 in
theorem dW_593 : decode code 593 = .ok (.invokevirtual 144, 3) := dT_of dTB_0_4 27 rfl
set_option maxRecDepth 20000 in
theorem dW_596 : decode code 596 = .ok (.iload 6, 2) := dT_of dTB_0_4 28 rfl
set_option maxRecDepth 20000 in
theorem dW_598 : decode code 598 = .ok (.if_icmp .eq 5, 3) := dT_of dTB_0_4 29 rfl
set_option maxRecDepth 20000 in
theorem dW_603 : decode code 603 = .ok (.iload 6, 2) := dT_of dTB_0_4 30 rfl
set_option maxRecDepth 20000 in
theorem dW_605 : decode code 605 = .ok (.ifCond .ne 22, 3) := dT_of dTB_0_4 31 rfl
set_option maxRecDepth 20000 in
theorem dW_608 : decode code 608 = .ok (.aload_n 3, 1) := dT_of dTB_0_4 32 rfl
set_option maxRecDepth 20000 in
theorem dW_609 : decode code 609 = .ok (.iconst 0, 1) := dT_of dTB_0_4 33 rfl
set_option maxRecDepth 20000 in
theorem dW_610 : decode code 610 = .ok (.laload, 1) := dT_of dTB_0_4 34 rfl
set_option maxRecDepth 20000 in
theorem dW_611 : decode code 611 = .ok (.iload 7, 2) := dT_of dTB_0_4 35 rfl
set_option maxRecDepth 20000 in
theorem dW_613 : decode code 613 = .ok (.ifCond .eq 7, 3) := dT_of dTB_0_4 36 rfl
set_option maxRecDepth 20000 in
theorem dW_616 : decode code 616 = .ok (.lconst 1, 1) := dT_of dTB_0_4 37 rfl
set_option maxRecDepth 20000 in
theorem dW_617 : decode code 617 = .ok (.goto 4, 3) := dT_of dTB_0_4 38 rfl
set_option maxRecDepth 20000 in
theorem dW_620 : decode code 620 = .ok (.lconst 0, 1) := dT_of dTB_0_4 39 rfl
set_option maxRecDepth 20000 in
theorem dW_621 : decode code 621 = .ok (.lcmp, 1) := dT_of dTB_0_4 40 rfl
set_option maxRecDepth 20000 in
theorem dW_622 : decode code 622 = .ok (.ifCond .eq 5, 3) := dT_of dTB_0_4 41 rfl
set_option maxRecDepth 20000 in
theorem dW_627 : decode code 627 = .ok (.goto 2281, 3) := dT_of dTB_0_4 42 rfl
set_option maxRecDepth 20000 in
theorem dW_630 : decode code 630 = .ok (.aload_n 1, 1) := dT_of dTB_0_4 43 rfl
