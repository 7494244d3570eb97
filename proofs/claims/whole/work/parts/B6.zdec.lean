/-! the law's instructions, 5 -/
def dTL_5_0 : List (Nat × (Instr × Nat)) := [(2270, (.goto 638, 3)), (2273, (.aload_n 1, 1)), (2274, (.aload_n 0, 1)), (2275, (.iload 5, 2)), (2277, (.iconst 1, 1)), (2278, (.iadd, 1)), (2279, (.iaload, 1)), (2280, (.aload_n 0, 1)), (2281, (.iload 5, 2)), (2283, (.iconst 2, 1)), (2284, (.iadd, 1)), (2285, (.iaload, 1)), (2286, (.aload_n 3, 1)), (2287, (.invokestatic 304, 3)), (2290, (.istore 6, 2)), (2292, (.aload_n 2, 1)), (2293, (.aload_n 0, 1)), (2294, (.iload 5, 2)), (2296, (.iconst 1, 1)), (2297, (.iadd, 1)), (2298, (.iaload, 1)), (2299, (.aload_n 0, 1)), (2300, (.iload 5, 2)), (2302, (.iconst 2, 1)), (2303, (.iadd, 1)), (2304, (.iaload, 1)), (2305, (.invokevirtual 306, 3)), (2308, (.istore 7, 2)), (2310, (.aload_n 2, 1)), (2311, (.invokevirtual 144, 3)), (2314, (.iload 6, 2)), (2316, (.if_icmp .eq 5, 3)), (2321, (.iload 6, 2)), (2323, (.ifCond .ne 15, 3)), (2326, (.aload_n 3, 1)), (2327, (.iconst 0, 1)), (2328, (.laload, 1)), (2329, (.iload 7, 2)), (2331, (.i2l, 1)), (2332, (.lcmp, 1)), (2333, (.ifCond .eq 5, 3)), (2338, (.goto 570, 3)), (2341, (.aload_n 1, 1)), (2342, (.aload_n 0, 1))]
theorem dTB_5_0 : dTL_5_0.all (fun q => decide (decode code q.1 = .ok q.2)) = true := by decide +kernel
set_option maxRecDepth 20000 in
theorem dW_2270 : decode code 2270 = .ok (.goto 638, 3) := dT_of dTB_5_0 0 rfl
set_option maxRecDepth 20000 in
theorem dW_2273 : decode code 2273 = .ok (.aload_n 1, 1) := dT_of dTB_5_0 1 rfl
set_option maxRecDepth 20000 in
theorem dW_2274 : decode code 2274 = .ok (.aload_n 0, 1) := dT_of dTB_5_0 2 rfl
set_option maxRecDepth 20000 in
theorem dW_2275 : decode code 2275 = .ok (.iload 5, 2) := dT_of dTB_5_0 3 rfl
set_option maxRecDepth 20000 in
theorem dW_2277 : decode code 2277 = .ok (.iconst 1, 1) := dT_of dTB_5_0 4 rfl
set_option maxRecDepth 20000 in
theorem dW_2278 : decode code 2278 = .ok (.iadd, 1) := dT_of dTB_5_0 5 rfl
set_option maxRecDepth 20000 in
theorem dW_2279 : decode code 2279 = .ok (.iaload, 1) := dT_of dTB_5_0 6 rfl
set_option maxRecDepth 20000 in
theorem dW_2280 : decode code 2280 = .ok (.aload_n 0, 1) := dT_of dTB_5_0 7 rfl
set_option maxRecDepth 20000 in
theorem dW_2281 : decode code 2281 = .ok (.iload 5, 2) := dT_of dTB_5_0 8 rfl
set_option maxRecDepth 20000 in
theorem dW_2283 : decode code 2283 = .ok (.iconst 2, 1) := dT_of dTB_5_0 9 rfl
set_option maxRecDepth 20000 in
theorem dW_2284 : decode code 2284 = .ok (.iadd, 1) := dT_of dTB_5_0 10 rfl
set_option maxRecDepth 20000 in
theorem dW_2285 : decode code 2285 = .ok (.iaload, 1) := dT_of dTB_5_0 11 rfl
set_option maxRecDepth 20000 in
theorem dW_2286 : decode code 2286 = .ok (.aload_n 3, 1) := dT_of dTB_5_0 12 rfl
set_option maxRecDepth 20000 in
theorem dW_2287 : decode code 2287 = .ok (.invokestatic 304, 3) := dT_of dTB_5_0 13 rfl
set_option maxRecDepth 20000 in
theorem dW_2290 : decode code 2290 = .ok (.istore 6, 2) := dT_of dTB_5_0 14 rfl
set_option maxRecDepth 20000 in
theorem dW_2292 : decode code 2292 = .ok (.aload_n 2, 1) := dT_of dTB_5_0 15 rfl
set_option maxRecDepth 20000 in
theorem dW_2293 : decode code 2293 = .ok (.aload_n 0, 1) := dT_of dTB_5_0 16 rfl
set_option maxRecDepth 20000 in
theorem dW_2294 : decode code 2294 = .ok (.iload 5, 2) := dT_of dTB_5_0 17 rfl
set_option maxRecDepth 20000 in
theorem dW_2296 : decode code 2296 = .ok (.iconst 1, 1) := dT_of dTB_5_0 18 rfl
set_option maxRecDepth 20000 in
theorem dW_2297 : decode code 2297 = .ok (.iadd, 1) := dT_of dTB_5_0 19 rfl
set_option maxRecDepth 20000 in
theorem dW_2298 : decode code 2298 = .ok (.iaload, 1) := dT_of dTB_5_0 20 rfl
set_option maxRecDepth 20000 in
theorem dW_2299 : decode code 2299 = .ok (.aload_n 0, 1) := dT_of dTB_5_0 21 rfl
set_option maxRecDepth 20000 in
theorem dW_2300 : decode code 2300 = .ok (.iload 5, 2) := dT_of dTB_5_0 22 rfl
set_option maxRecDepth 20000 in
theorem dW_2302 : decode code 2302 = .ok (.iconst 2, 1) := dT_of dTB_5_0 23 rfl
set_option maxRecDepth 20000 in
theorem dW_2303 : decode code 2303 = .ok (.iadd, 1) := dT_of dTB_5_0 24 rfl
set_option maxRecDepth 20000 in
theorem dW_2304 : decode code 2304 = .ok (.iaload, 1) := dT_of dTB_5_0 25 rfl
set_option maxRecDepth 20000 in
theorem dW_2305 : decode code 2305 = .ok (.invokevirtual 306, 3) := dT_of dTB_5_0 26 rfl
set_option maxRecDepth 20000 in
theorem dW_2308 : decode code 2308 = .ok (.istore 7, 2) := dT_of dTB_5_0 27 rfl
set_option maxRecDepth 20000 in
theorem dW_2310 : decode code 2310 = .ok (.aload_n 2, 1) := dT_of dTB_5_0 28 rfl
set_option maxRecDepth 20000 in
theorem dW_2311 : decode code 2311 = .ok (.invokevirtual 144, 3) := dT_of dTB_5_0 29 rfl
set_option maxRecDepth 20000 in
theorem dW_2314 : decode code 2314 = .ok (.iload 6, 2) := dT_of dTB_5_0 30 rfl
set_option maxRecDepth 20000 in
theorem dW_2316 : decode code 2316 = .ok (.if_icmp .eq 5, 3) := dT_of dTB_5_0 31 rfl
set_option maxRecDepth 20000 in
theorem dW_2321 : decode code 2321 = .ok (.iload 6, 2) := dT_of dTB_5_0 32 rfl
set_option maxRecDepth 20000 in
theorem dW_2323 : decode code 2323 = .ok (.ifCond .ne 15, 3) := dT_of dTB_5_0 33 rfl
set_option maxRecDepth 20000 in
theorem dW_2326 : decode code 2326 = .ok (.aload_n 3, 1) := dT_of dTB_5_0 34 rfl
set_option maxRecDepth 20000 in
theorem dW_2327 : decode code 2327 = .ok (.iconst 0, 1) := dT_of dTB_5_0 35 rfl
set_option maxRecDepth 20000 in
theorem dW_2328 : decode code 2328 = .ok (.laload, 1) := dT_of dTB_5_0 36 rfl
set_option maxRecDepth 20000 in
theorem dW_2329 : decode code 2329 = .ok (.iload 7, 2) := dT_of dTB_5_0 37 rfl
set_option maxRecDepth 20000 in
theorem dW_2331 : decode code 2331 = .ok (.i2l, 1) := dT_of dTB_5_0 38 rfl
set_option maxRecDepth 20000 in
theorem dW_2332 : decode code 2332 = .ok (.lcmp, 1) := dT_of dTB_5_0 39 rfl
set_option maxRecDepth 20000 in
theorem dW_2333 : decode code 2333 = .ok (.ifCond .eq 5, 3) := dT_of dTB_5_0 40 rfl
set_option maxRecDepth 20000 in
theorem dW_2338 : decode code 2338 = .ok (.goto 570, 3) := dT_of dTB_5_0 41 rfl
set_option maxRecDepth 20000 in
theorem dW_2341 : decode code 2341 = .ok (.aload_n 1, 1) := dT_of dTB_5_0 42 rfl
set_option maxRecDepth 20000 in
theorem dW_2342 : decode code 2342 = .ok (.aload_n 0, 1) := dT_of dTB_5_0 43 rfl
def dTL_5_1 : List (Nat × (Instr × Nat)) := [(2343, (.iload 5, 2)), (2345, (.iconst 1, 1)), (2346, (.iadd, 1)), (2347, (.iaload, 1)), (2348, (.aload_n 0, 1)), (2349, (.iload 5, 2)), (2351, (.iconst 2, 1)), (2352, (.iadd, 1)), (2353, (.iaload, 1)), (2354, (.aload_n 3, 1)), (2355, (.invokestatic 307, 3)), (2358, (.istore 6, 2)), (2360, (.aload_n 2, 1)), (2361, (.aload_n 0, 1)), (2362, (.iload 5, 2)), (2364, (.iconst 1, 1)), (2365, (.iadd, 1)), (2366, (.iaload, 1)), (2367, (.aload_n 0, 1)), (2368, (.iload 5, 2)), (2370, (.iconst 2, 1)), (2371, (.iadd, 1)), (2372, (.iaload, 1)), (2373, (.invokevirtual 309, 3)), (2376, (.istore 7, 2)), (2378, (.aload_n 2, 1)), (2379, (.invokevirtual 144, 3)), (2382, (.iload 6, 2)), (2384, (.if_icmp .eq 5, 3)), (2389, (.iload 6, 2)), (2391, (.ifCond .ne 15, 3)), (2394, (.aload_n 3, 1)), (2395, (.iconst 0, 1)), (2396, (.laload, 1)), (2397, (.iload 7, 2)), (2399, (.i2l, 1)), (2400, (.lcmp, 1)), (2401, (.ifCond .eq 5, 3)), (2406, (.goto 502, 3)), (2409, (.aload_n 1, 1)), (2410, (.aload_n 0, 1)), (2411, (.iload 5, 2)), (2413, (.iconst 1, 1)), (2414, (.iadd, 1))]
theorem dTB_5_1 : dTL_5_1.all (fun q => decide (decode code q.1 = .ok q.2)) = true := by decide +kernel
set_option maxRecDepth 20000 in
theorem dW_2343 : decode code 2343 = .ok (.iload 5, 2) := dT_of dTB_5_1 0 rfl
set_option maxRecDepth 20000 in
theorem dW_2345 : decode code 2345 = .ok (.iconst 1, 1) := dT_of dTB_5_1 1 rfl
set_option maxRecDepth 20000 in
theorem dW_2346 : decode code 2346 = .ok (.iadd, 1) := dT_of dTB_5_1 2 rfl
set_option maxRecDepth 20000 in
theorem dW_2347 : decode code 2347 = .ok (.iaload, 1) := dT_of dTB_5_1 3 rfl
set_option maxRecDepth 20000 in
theorem dW_2348 : decode code 2348 = .ok (.aload_n 0, 1) := dT_of dTB_5_1 4 rfl
set_option maxRecDepth 20000 in
theorem dW_2349 : decode code 2349 = .ok (.iload 5, 2) := dT_of dTB_5_1 5 rfl
set_option maxRecDepth 20000 in
theorem dW_2351 : decode code 2351 = .ok (.iconst 2, 1) := dT_of dTB_5_1 6 rfl
set_option maxRecDepth 20000 in
theorem dW_2352 : decode code 2352 = .ok (.iadd, 1) := dT_of dTB_5_1 7 rfl
set_option maxRecDepth 20000 in
theorem dW_2353 : decode code 2353 = .ok (.iaload, 1) := dT_of dTB_5_1 8 rfl
set_option maxRecDepth 20000 in
theorem dW_2354 : decode code 2354 = .ok (.aload_n 3, 1) := dT_of dTB_5_1 9 rfl
set_option maxRecDepth 20000 in
theorem dW_2355 : decode code 2355 = .ok (.invokestatic 307, 3) := dT_of dTB_5_1 10 rfl
set_option maxRecDepth 20000 in
theorem dW_2358 : decode code 2358 = .ok (.istore 6, 2) := dT_of dTB_5_1 11 rfl
set_option maxRecDepth 20000 in
theorem dW_2360 : decode code 2360 = .ok (.aload_n 2, 1) := dT_of dTB_5_1 12 rfl
set_option maxRecDepth 20000 in
theorem dW_2361 : decode code 2361 = .ok (.aload_n 0, 1) := dT_of dTB_5_1 13 rfl
set_option maxRecDepth 20000 in
theorem dW_2362 : decode code 2362 = .ok (.iload 5, 2) := dT_of dTB_5_1 14 rfl
set_option maxRecDepth 20000 in
theorem dW_2364 : decode code 2364 = .ok (.iconst 1, 1) := dT_of dTB_5_1 15 rfl
set_option maxRecDepth 20000 in
theorem dW_2365 : decode code 2365 = .ok (.iadd, 1) := dT_of dTB_5_1 16 rfl
set_option maxRecDepth 20000 in
theorem dW_2366 : decode code 2366 = .ok (.iaload, 1) := dT_of dTB_5_1 17 rfl
set_option maxRecDepth 20000 in
theorem dW_2367 : decode code 2367 = .ok (.aload_n 0, 1) := dT_of dTB_5_1 18 rfl
set_option maxRecDepth 20000 in
theorem dW_2368 : decode code 2368 = .ok (.iload 5, 2) := dT_of dTB_5_1 19 rfl
set_option maxRecDepth 20000 in
theorem dW_2370 : decode code 2370 = .ok (.iconst 2, 1) := dT_of dTB_5_1 20 rfl
set_option maxRecDepth 20000 in
theorem dW_2371 : decode code 2371 = .ok (.iadd, 1) := dT_of dTB_5_1 21 rfl
set_option maxRecDepth 20000 in
theorem dW_2372 : decode code 2372 = .ok (.iaload, 1) := dT_of dTB_5_1 22 rfl
set_option maxRecDepth 20000 in
theorem dW_2373 : decode code 2373 = .ok (.invokevirtual 309, 3) := dT_of dTB_5_1 23 rfl
set_option maxRecDepth 20000 in
theorem dW_2376 : decode code 2376 = .ok (.istore 7, 2) := dT_of dTB_5_1 24 rfl
set_option maxRecDepth 20000 in
theorem dW_2378 : decode code 2378 = .ok (.aload_n 2, 1) := dT_of dTB_5_1 25 rfl
set_option maxRecDepth 20000 in
theorem dW_2379 : decode code 2379 = .ok (.invokevirtual 144, 3) := dT_of dTB_5_1 26 rfl
set_option maxRecDepth 20000 in
theorem dW_2382 : decode code 2382 = .ok (.iload 6, 2) := dT_of dTB_5_1 27 rfl
set_option maxRecDepth 20000 in
theorem dW_2384 : decode code 2384 = .ok (.if_icmp .eq 5, 3) := dT_of dTB_5_1 28 rfl
set_option maxRecDepth 20000 in
theorem dW_2389 : decode code 2389 = .ok (.iload 6, 2) := dT_of dTB_5_1 29 rfl
set_option maxRecDepth 20000 in
theorem dW_2391 : decode code 2391 = .ok (.ifCond .ne 15, 3) := dT_of dTB_5_1 30 rfl
set_option maxRecDepth 20000 in
theorem dW_2394 : decode code 2394 = .ok (.aload_n 3, 1) := dT_of dTB_5_1 31 rfl
set_option maxRecDepth 20000 in
theorem dW_2395 : decode code 2395 = .ok (.iconst 0, 1) := dT_of dTB_5_1 32 rfl
set_option maxRecDepth 20000 in
theorem dW_2396 : decode code 2396 = .ok (.laload, 1) := dT_of dTB_5_1 33 rfl
set_option maxRecDepth 20000 in
theorem dW_2397 : decode code 2397 = .ok (.iload 7, 2) := dT_of dTB_5_1 34 rfl
set_option maxRecDepth 20000 in
theorem dW_2399 : decode code 2399 = .ok (.i2l, 1) := dT_of dTB_5_1 35 rfl
set_option maxRecDepth 20000 in
theorem dW_2400 : decode code 2400 = .ok (.lcmp, 1) := dT_of dTB_5_1 36 rfl
set_option maxRecDepth 20000 in
theorem dW_2401 : decode code 2401 = .ok (.ifCond .eq 5, 3) := dT_of dTB_5_1 37 rfl
set_option maxRecDepth 20000 in
theorem dW_2406 : decode code 2406 = .ok (.goto 502, 3) := dT_of dTB_5_1 38 rfl
set_option maxRecDepth 20000 in
theorem dW_2409 : decode code 2409 = .ok (.aload_n 1, 1) := dT_of dTB_5_1 39 rfl
set_option maxRecDepth 20000 in
theorem dW_2410 : decode code 2410 = .ok (.aload_n 0, 1) := dT_of dTB_5_1 40 rfl
set_option maxRecDepth 20000 in
theorem dW_2411 : decode code 2411 = .ok (.iload 5, 2) := dT_of dTB_5_1 41 rfl
set_option maxRecDepth 20000 in
theorem dW_2413 : decode code 2413 = .ok (.iconst 1, 1) := dT_of dTB_5_1 42 rfl
set_option maxRecDepth 20000 in
theorem dW_2414 : decode code 2414 = .ok (.iadd, 1) := dT_of dTB_5_1 43 rfl
def dTL_5_2 : List (Nat × (Instr × Nat)) := [(2415, (.iaload, 1)), (2416, (.aload_n 3, 1)), (2417, (.invokestatic 310, 3)), (2420, (.istore 6, 2)), (2422, (.aload_n 2, 1)), (2423, (.aload_n 0, 1)), (2424, (.iload 5, 2)), (2426, (.iconst 1, 1)), (2427, (.iadd, 1)), (2428, (.iaload, 1)), (2429, (.invokevirtual 312, 3)), (2432, (.istore 7, 2)), (2434, (.aload_n 2, 1)), (2435, (.invokevirtual 144, 3)), (2438, (.iload 6, 2)), (2440, (.if_icmp .eq 5, 3)), (2445, (.iload 6, 2)), (2447, (.ifCond .ne 15, 3)), (2450, (.aload_n 3, 1)), (2451, (.iconst 0, 1)), (2452, (.laload, 1)), (2453, (.iload 7, 2)), (2455, (.i2l, 1)), (2456, (.lcmp, 1)), (2457, (.ifCond .eq 5, 3)), (2462, (.goto 446, 3)), (2465, (.aload_n 1, 1)), (2466, (.aload_n 0, 1)), (2467, (.iload 5, 2)), (2469, (.iconst 1, 1)), (2470, (.iadd, 1)), (2471, (.iaload, 1)), (2472, (.aload_n 3, 1)), (2473, (.invokestatic 313, 3)), (2476, (.istore 6, 2)), (2478, (.aload_n 2, 1)), (2479, (.aload_n 0, 1)), (2480, (.iload 5, 2)), (2482, (.iconst 1, 1)), (2483, (.iadd, 1)), (2484, (.iaload, 1)), (2485, (.invokevirtual 315, 3)), (2488, (.istore 7, 2)), (2490, (.aload_n 2, 1))]
theorem dTB_5_2 : dTL_5_2.all (fun q => decide (decode code q.1 = .ok q.2)) = true := by decide +kernel
set_option maxRecDepth 20000 in
theorem dW_2415 : decode code 2415 = .ok (.iaload, 1) := dT_of dTB_5_2 0 rfl
set_option maxRecDepth 20000 in
theorem dW_2416 : decode code 2416 = .ok (.aload_n 3, 1) := dT_of dTB_5_2 1 rfl
set_option maxRecDepth 20000 in
theorem dW_2417 : decode code 2417 = .ok (.invokestatic 310, 3) := dT_of dTB_5_2 2 rfl
set_option maxRecDepth 20000 in
theorem dW_2420 : decode code 2420 = .ok (.istore 6, 2) := dT_of dTB_5_2 3 rfl
set_option maxRecDepth 20000 in
theorem dW_2422 : decode code 2422 = .ok (.aload_n 2, 1) := dT_of dTB_5_2 4 rfl
set_option maxRecDepth 20000 in
theorem dW_2423 : decode code 2423 = .ok (.aload_n 0, 1) := dT_of dTB_5_2 5 rfl
set_option maxRecDepth 20000 in
theorem dW_2424 : decode code 2424 = .ok (.iload 5, 2) := dT_of dTB_5_2 6 rfl
set_option maxRecDepth 20000 in
theorem dW_2426 : decode code 2426 = .ok (.iconst 1, 1) := dT_of dTB_5_2 7 rfl
set_option maxRecDepth 20000 in
theorem dW_2427 : decode code 2427 = .ok (.iadd, 1) := dT_of dTB_5_2 8 rfl
set_option maxRecDepth 20000 in
theorem dW_2428 : decode code 2428 = .ok (.iaload, 1) := dT_of dTB_5_2 9 rfl
set_option maxRecDepth 20000 in
theorem dW_2429 : decode code 2429 = .ok (.invokevirtual 312, 3) := dT_of dTB_5_2 10 rfl
set_option maxRecDepth 20000 in
theorem dW_2432 : decode code 2432 = .ok (.istore 7, 2) := dT_of dTB_5_2 11 rfl
set_option maxRecDepth 20000 in
theorem dW_2434 : decode code 2434 = .ok (.aload_n 2, 1) := dT_of dTB_5_2 12 rfl
set_option maxRecDepth 20000 in
theorem dW_2435 : decode code 2435 = .ok (.invokevirtual 144, 3) := dT_of dTB_5_2 13 rfl
set_option maxRecDepth 20000 in
theorem dW_2438 : decode code 2438 = .ok (.iload 6, 2) := dT_of dTB_5_2 14 rfl
set_option maxRecDepth 20000 in
theorem dW_2440 : decode code 2440 = .ok (.if_icmp .eq 5, 3) := dT_of dTB_5_2 15 rfl
set_option maxRecDepth 20000 in
theorem dW_2445 : decode code 2445 = .ok (.iload 6, 2) := dT_of dTB_5_2 16 rfl
set_option maxRecDepth 20000 in
theorem dW_2447 : decode code 2447 = .ok (.ifCond .ne 15, 3) := dT_of dTB_5_2 17 rfl
set_option maxRecDepth 20000 in
theorem dW_2450 : decode code 2450 = .ok (.aload_n 3, 1) := dT_of dTB_5_2 18 rfl
set_option maxRecDepth 20000 in
theorem dW_2451 : decode code 2451 = .ok (.iconst 0, 1) := dT_of dTB_5_2 19 rfl
set_option maxRecDepth 20000 in
theorem dW_2452 : decode code 2452 = .ok (.laload, 1) := dT_of dTB_5_2 20 rfl
set_option maxRecDepth 20000 in
theorem dW_2453 : decode code 2453 = .ok (.iload 7, 2) := dT_of dTB_5_2 21 rfl
set_option maxRecDepth 20000 in
theorem dW_2455 : decode code 2455 = .ok (.i2l, 1) := dT_of dTB_5_2 22 rfl
set_option maxRecDepth 20000 in
theorem dW_2456 : decode code 2456 = .ok (.lcmp, 1) := dT_of dTB_5_2 23 rfl
set_option maxRecDepth 20000 in
theorem dW_2457 : decode code 2457 = .ok (.ifCond .eq 5, 3) := dT_of dTB_5_2 24 rfl
set_option maxRecDepth 20000 in
theorem dW_2462 : decode code 2462 = .ok (.goto 446, 3) := dT_of dTB_5_2 25 rfl
set_option maxRecDepth 20000 in
theorem dW_2465 : decode code 2465 = .ok (.aload_n 1, 1) := dT_of dTB_5_2 26 rfl
set_option maxRecDepth 20000 in
theorem dW_2466 : decode code 2466 = .ok (.aload_n 0, 1) := dT_of dTB_5_2 27 rfl
set_option maxRecDepth 20000 in
theorem dW_2467 : decode code 2467 = .ok (.iload 5, 2) := dT_of dTB_5_2 28 rfl
set_option maxRecDepth 20000 in
theorem dW_2469 : decode code 2469 = .ok (.iconst 1, 1) := dT_of dTB_5_2 29 rfl
set_option maxRecDepth 20000 in
theorem dW_2470 : decode code 2470 = .ok (.iadd, 1) := dT_of dTB_5_2 30 rfl
set_option maxRecDepth 20000 in
theorem dW_2471 : decode code 2471 = .ok (.iaload, 1) := dT_of dTB_5_2 31 rfl
set_option maxRecDepth 20000 in
theorem dW_2472 : decode code 2472 = .ok (.aload_n 3, 1) := dT_of dTB_5_2 32 rfl
set_option maxRecDepth 20000 in
theorem dW_2473 : decode code 2473 = .ok (.invokestatic 313, 3) := dT_of dTB_5_2 33 rfl
set_option maxRecDepth 20000 in
theorem dW_2476 : decode code 2476 = .ok (.istore 6, 2) := dT_of dTB_5_2 34 rfl
set_option maxRecDepth 20000 in
theorem dW_2478 : decode code 2478 = .ok (.aload_n 2, 1) := dT_of dTB_5_2 35 rfl
set_option maxRecDepth 20000 in
theorem dW_2479 : decode code 2479 = .ok (.aload_n 0, 1) := dT_of dTB_5_2 36 rfl
set_option maxRecDepth 20000 in
theorem dW_2480 : decode code 2480 = .ok (.iload 5, 2) := dT_of dTB_5_2 37 rfl
set_option maxRecDepth 20000 in
theorem dW_2482 : decode code 2482 = .ok (.iconst 1, 1) := dT_of dTB_5_2 38 rfl
set_option maxRecDepth 20000 in
theorem dW_2483 : decode code 2483 = .ok (.iadd, 1) := dT_of dTB_5_2 39 rfl
set_option maxRecDepth 20000 in
theorem dW_2484 : decode code 2484 = .ok (.iaload, 1) := dT_of dTB_5_2 40 rfl
set_option maxRecDepth 20000 in
theorem dW_2485 : decode code 2485 = .ok (.invokevirtual 315, 3) := dT_of dTB_5_2 41 rfl
set_option maxRecDepth 20000 in
theorem dW_2488 : decode code 2488 = .ok (.istore 7, 2) := dT_of dTB_5_2 42 rfl
set_option maxRecDepth 20000 in
theorem dW_2490 : decode code 2490 = .ok (.aload_n 2, 1) := dT_of dTB_5_2 43 rfl
def dTL_5_3 : List (Nat × (Instr × Nat)) := [(2491, (.invokevirtual 144, 3)), (2494, (.iload 6, 2)), (2496, (.if_icmp .eq 5, 3)), (2501, (.iload 6, 2)), (2503, (.ifCond .ne 15, 3)), (2506, (.aload_n 3, 1)), (2507, (.iconst 0, 1)), (2508, (.laload, 1)), (2509, (.iload 7, 2)), (2511, (.i2l, 1)), (2512, (.lcmp, 1)), (2513, (.ifCond .eq 5, 3)), (2518, (.goto 390, 3)), (2521, (.aload_n 1, 1)), (2522, (.aload_n 0, 1)), (2523, (.iload 5, 2)), (2525, (.iconst 1, 1)), (2526, (.iadd, 1)), (2527, (.iaload, 1)), (2528, (.aload_n 3, 1)), (2529, (.invokestatic 316, 3)), (2532, (.istore 6, 2)), (2534, (.aload_n 2, 1)), (2535, (.aload_n 0, 1)), (2536, (.iload 5, 2)), (2538, (.iconst 1, 1)), (2539, (.iadd, 1)), (2540, (.iaload, 1)), (2541, (.invokevirtual 318, 3)), (2544, (.istore 7, 2)), (2546, (.aload_n 2, 1)), (2547, (.invokevirtual 144, 3)), (2550, (.iload 6, 2)), (2552, (.if_icmp .eq 5, 3)), (2557, (.iload 6, 2)), (2559, (.ifCond .ne 15, 3)), (2562, (.aload_n 3, 1)), (2563, (.iconst 0, 1)), (2564, (.laload, 1)), (2565, (.iload 7, 2)), (2567, (.i2l, 1)), (2568, (.lcmp, 1)), (2569, (.ifCond .eq 5, 3)), (2574, (.goto 334, 3))]
theorem dTB_5_3 : dTL_5_3.all (fun q => decide (decode code q.1 = .ok q.2)) = true := by decide +kernel
set_option maxRecDepth 20000 in
theorem dW_2491 : decode code 2491 = .ok (.invokevirtual 144, 3) := dT_of dTB_5_3 0 rfl
set_option maxRecDepth 20000 in
theorem dW_2494 : decode code 2494 = .ok (.iload 6, 2) := dT_of dTB_5_3 1 rfl
set_option maxRecDepth 20000 in
theorem dW_2496 : decode code 2496 = .ok (.if_icmp .eq 5, 3) := dT_of dTB_5_3 2 rfl
set_option maxRecDepth 20000 in
theorem dW_2501 : decode code 2501 = .ok (.iload 6, 2) := dT_of dTB_5_3 3 rfl
set_option maxRecDepth 20000 in
theorem dW_2503 : decode code 2503 = .ok (.ifCond .ne 15, 3) := dT_of dTB_5_3 4 rfl
set_option maxRecDepth 20000 in
theorem dW_2506 : decode code 2506 = .ok (.aload_n 3, 1) := dT_of dTB_5_3 5 rfl
set_option maxRecDepth 20000 in
theorem dW_2507 : decode code 2507 = .ok (.iconst 0, 1) := dT_of dTB_5_3 6 rfl
set_option maxRecDepth 20000 in
theorem dW_2508 : decode code 2508 = .ok (.laload, 1) := dT_of dTB_5_3 7 rfl
set_option maxRecDepth 20000 in
theorem dW_2509 : decode code 2509 = .ok (.iload 7, 2) := dT_of dTB_5_3 8 rfl
set_option maxRecDepth 20000 in
theorem dW_2511 : decode code 2511 = .ok (.i2l, 1) := dT_of dTB_5_3 9 rfl
set_option maxRecDepth 20000 in
theorem dW_2512 : decode code 2512 = .ok (.lcmp, 1) := dT_of dTB_5_3 10 rfl
set_option maxRecDepth 20000 in
theorem dW_2513 : decode code 2513 = .ok (.ifCond .eq 5, 3) := dT_of dTB_5_3 11 rfl
set_option maxRecDepth 20000 in
theorem dW_2518 : decode code 2518 = .ok (.goto 390, 3) := dT_of dTB_5_3 12 rfl
set_option maxRecDepth 20000 in
theorem dW_2521 : decode code 2521 = .ok (.aload_n 1, 1) := dT_of dTB_5_3 13 rfl
set_option maxRecDepth 20000 in
theorem dW_2522 : decode code 2522 = .ok (.aload_n 0, 1) := dT_of dTB_5_3 14 rfl
set_option maxRecDepth 20000 in
theorem dW_2523 : decode code 2523 = .ok (.iload 5, 2) := dT_of dTB_5_3 15 rfl
set_option maxRecDepth 20000 in
theorem dW_2525 : decode code 2525 = .ok (.iconst 1, 1) := dT_of dTB_5_3 16 rfl
set_option maxRecDepth 20000 in
theorem dW_2526 : decode code 2526 = .ok (.iadd, 1) := dT_of dTB_5_3 17 rfl
set_option maxRecDepth 20000 in
theorem dW_2527 : decode code 2527 = .ok (.iaload, 1) := dT_of dTB_5_3 18 rfl
set_option maxRecDepth 20000 in
theorem dW_2528 : decode code 2528 = .ok (.aload_n 3, 1) := dT_of dTB_5_3 19 rfl
set_option maxRecDepth 20000 in
theorem dW_2529 : decode code 2529 = .ok (.invokestatic 316, 3) := dT_of dTB_5_3 20 rfl
set_option maxRecDepth 20000 in
theorem dW_2532 : decode code 2532 = .ok (.istore 6, 2) := dT_of dTB_5_3 21 rfl
set_option maxRecDepth 20000 in
theorem dW_2534 : decode code 2534 = .ok (.aload_n 2, 1) := dT_of dTB_5_3 22 rfl
set_option maxRecDepth 20000 in
theorem dW_2535 : decode code 2535 = .ok (.aload_n 0, 1) := dT_of dTB_5_3 23 rfl
set_option maxRecDepth 20000 in
theorem dW_2536 : decode code 2536 = .ok (.iload 5, 2) := dT_of dTB_5_3 24 rfl
set_option maxRecDepth 20000 in
theorem dW_2538 : decode code 2538 = .ok (.iconst 1, 1) := dT_of dTB_5_3 25 rfl
set_option maxRecDepth 20000 in
theorem dW_2539 : decode code 2539 = .ok (.iadd, 1) := dT_of dTB_5_3 26 rfl
set_option maxRecDepth 20000 in
theorem dW_2540 : decode code 2540 = .ok (.iaload, 1) := dT_of dTB_5_3 27 rfl
set_option maxRecDepth 20000 in
theorem dW_2541 : decode code 2541 = .ok (.invokevirtual 318, 3) := dT_of dTB_5_3 28 rfl
set_option maxRecDepth 20000 in
theorem dW_2544 : decode code 2544 = .ok (.istore 7, 2) := dT_of dTB_5_3 29 rfl
set_option maxRecDepth 20000 in
theorem dW_2546 : decode code 2546 = .ok (.aload_n 2, 1) := dT_of dTB_5_3 30 rfl
set_option maxRecDepth 20000 in
theorem dW_2547 : decode code 2547 = .ok (.invokevirtual 144, 3) := dT_of dTB_5_3 31 rfl
set_option maxRecDepth 20000 in
theorem dW_2550 : decode code 2550 = .ok (.iload 6, 2) := dT_of dTB_5_3 32 rfl
set_option maxRecDepth 20000 in
theorem dW_2552 : decode code 2552 = .ok (.if_icmp .eq 5, 3) := dT_of dTB_5_3 33 rfl
set_option maxRecDepth 20000 in
theorem dW_2557 : decode code 2557 = .ok (.iload 6, 2) := dT_of dTB_5_3 34 rfl
set_option maxRecDepth 20000 in
theorem dW_2559 : decode code 2559 = .ok (.ifCond .ne 15, 3) := dT_of dTB_5_3 35 rfl
set_option maxRecDepth 20000 in
theorem dW_2562 : decode code 2562 = .ok (.aload_n 3, 1) := dT_of dTB_5_3 36 rfl
set_option maxRecDepth 20000 in
theorem dW_2563 : decode code 2563 = .ok (.iconst 0, 1) := dT_of dTB_5_3 37 rfl
set_option maxRecDepth 20000 in
theorem dW_2564 : decode code 2564 = .ok (.laload, 1) := dT_of dTB_5_3 38 rfl
set_option maxRecDepth 20000 in
theorem dW_2565 : decode code 2565 = .ok (.iload 7, 2) := dT_of dTB_5_3 39 rfl
set_option maxRecDepth 20000 in
theorem dW_2567 : decode code 2567 = .ok (.i2l, 1) := dT_of dTB_5_3 40 rfl
set_option maxRecDepth 20000 in
theorem dW_2568 : decode code 2568 = .ok (.lcmp, 1) := dT_of dTB_5_3 41 rfl
set_option maxRecDepth 20000 in
theorem dW_2569 : decode code 2569 = .ok (.ifCond .eq 5, 3) := dT_of dTB_5_3 42 rfl
set_option maxRecDepth 20000 in
theorem dW_2574 : decode code 2574 = .ok (.goto 334, 3) := dT_of dTB_5_3 43 rfl
def dTL_5_4 : List (Nat × (Instr × Nat)) := [(2577, (.aload_n 1, 1)), (2578, (.aload_n 0, 1)), (2579, (.iload 5, 2)), (2581, (.iconst 1, 1)), (2582, (.iadd, 1)), (2583, (.iaload, 1)), (2584, (.aload_n 3, 1)), (2585, (.invokestatic 319, 3)), (2588, (.istore 6, 2)), (2590, (.aload_n 2, 1)), (2591, (.aload_n 0, 1)), (2592, (.iload 5, 2)), (2594, (.iconst 1, 1)), (2595, (.iadd, 1)), (2596, (.iaload, 1)), (2597, (.invokevirtual 321, 3)), (2600, (.istore 7, 2)), (2602, (.aload_n 2, 1)), (2603, (.invokevirtual 144, 3)), (2606, (.iload 6, 2)), (2608, (.if_icmp .eq 5, 3)), (2613, (.iload 6, 2)), (2615, (.ifCond .ne 15, 3)), (2618, (.aload_n 3, 1)), (2619, (.iconst 0, 1)), (2620, (.laload, 1)), (2621, (.iload 7, 2)), (2623, (.i2l, 1)), (2624, (.lcmp, 1)), (2625, (.ifCond .eq 5, 3)), (2630, (.goto 278, 3)), (2633, (.aload_n 1, 1)), (2634, (.aload_n 0, 1)), (2635, (.iload 5, 2)), (2637, (.iconst 1, 1)), (2638, (.iadd, 1)), (2639, (.iaload, 1)), (2640, (.aload_n 0, 1)), (2641, (.iload 5, 2)), (2643, (.iconst 2, 1)), (2644, (.iadd, 1)), (2645, (.iaload, 1)), (2646, (.aload_n 3, 1)), (2647, (.invokestatic 322, 3))]
theorem dTB_5_4 : dTL_5_4.all (fun q => decide (decode code q.1 = .ok q.2)) = true := by decide +kernel
set_option maxRecDepth 20000 in
theorem dW_2577 : decode code 2577 = .ok (.aload_n 1, 1) := dT_of dTB_5_4 0 rfl
set_option maxRecDepth 20000 in
theorem dW_2578 : decode code 2578 = .ok (.aload_n 0, 1) := dT_of dTB_5_4 1 rfl
set_option maxRecDepth 20000 in
theorem dW_2579 : decode code 2579 = .ok (.iload 5, 2) := dT_of dTB_5_4 2 rfl
set_option maxRecDepth 20000 in
theorem dW_2581 : decode code 2581 = .ok (.iconst 1, 1) := dT_of dTB_5_4 3 rfl
set_option maxRecDepth 20000 in
theorem dW_2582 : decode code 2582 = .ok (.iadd, 1) := dT_of dTB_5_4 4 rfl
set_option maxRecDepth 20000 in
theorem dW_2583 : decode code 2583 = .ok (.iaload, 1) := dT_of dTB_5_4 5 rfl
set_option maxRecDepth 20000 in
theorem dW_2584 : decode code 2584 = .ok (.aload_n 3, 1) := dT_of dTB_5_4 6 rfl
set_option maxRecDepth 20000 in
theorem dW_2585 : decode code 2585 = .ok (.invokestatic 319, 3) := dT_of dTB_5_4 7 rfl
set_option maxRecDepth 20000 in
theorem dW_2588 : decode code 2588 = .ok (.istore 6, 2) := dT_of dTB_5_4 8 rfl
set_option maxRecDepth 20000 in
theorem dW_2590 : decode code 2590 = .ok (.aload_n 2, 1) := dT_of dTB_5_4 9 rfl
set_option maxRecDepth 20000 in
theorem dW_2591 : decode code 2591 = .ok (.aload_n 0, 1) := dT_of dTB_5_4 10 rfl
set_option maxRecDepth 20000 in
theorem dW_2592 : decode code 2592 = .ok (.iload 5, 2) := dT_of dTB_5_4 11 rfl
set_option maxRecDepth 20000 in
theorem dW_2594 : decode code 2594 = .ok (.iconst 1, 1) := dT_of dTB_5_4 12 rfl
set_option maxRecDepth 20000 in
theorem dW_2595 : decode code 2595 = .ok (.iadd, 1) := dT_of dTB_5_4 13 rfl
set_option maxRecDepth 20000 in
theorem dW_2596 : decode code 2596 = .ok (.iaload, 1) := dT_of dTB_5_4 14 rfl
set_option maxRecDepth 20000 in
theorem dW_2597 : decode code 2597 = .ok (.invokevirtual 321, 3) := dT_of dTB_5_4 15 rfl
set_option maxRecDepth 20000 in
theorem dW_2600 : decode code 2600 = .ok (.istore 7, 2) := dT_of dTB_5_4 16 rfl
set_option maxRecDepth 20000 in
theorem dW_2602 : decode code 2602 = .ok (.aload_n 2, 1) := dT_of dTB_5_4 17 rfl
set_option maxRecDepth 20000 in
theorem dW_2603 : decode code 2603 = .ok (.invokevirtual 144, 3) := dT_of dTB_5_4 18 rfl
set_option maxRecDepth 20000 in
theorem dW_2606 : decode code 2606 = .ok (.iload 6, 2) := dT_of dTB_5_4 19 rfl
set_option maxRecDepth 20000 in
theorem dW_2608 : decode code 2608 = .ok (.if_icmp .eq 5, 3) := dT_of dTB_5_4 20 rfl
set_option maxRecDepth 20000 in
theorem dW_2613 : decode code 2613 = .ok (.iload 6, 2) := dT_of dTB_5_4 21 rfl
set_option maxRecDepth 20000 in
theorem dW_2615 : decode code 2615 = .ok (.ifCond .ne 15, 3) := dT_of dTB_5_4 22 rfl
set_option maxRecDepth 20000 in
theorem dW_2618 : decode code 2618 = .ok (.aload_n 3, 1) := dT_of dTB_5_4 23 rfl
set_option maxRecDepth 20000 in
theorem dW_2619 : decode code 2619 = .ok (.iconst 0, 1) := dT_of dTB_5_4 24 rfl
set_option maxRecDepth 20000 in
theorem dW_2620 : decode code 2620 = .ok (.laload, 1) := dT_of dTB_5_4 25 rfl
set_option maxRecDepth 20000 in
theorem dW_2621 : decode code 2621 = .ok (.iload 7, 2) := dT_of dTB_5_4 26 rfl
set_option maxRecDepth 20000 in
theorem dW_2623 : decode code 2623 = .ok (.i2l, 1) := dT_of dTB_5_4 27 rfl
set_option maxRecDepth 20000 in
theorem dW_2624 : decode code 2624 = .ok (.lcmp, 1) := dT_of dTB_5_4 28 rfl
set_option maxRecDepth 20000 in
theorem dW_2625 : decode code 2625 = .ok (.ifCond .eq 5, 3) := dT_of dTB_5_4 29 rfl
set_option maxRecDepth 20000 in
theorem dW_2630 : decode code 2630 = .ok (.goto 278, 3) := dT_of dTB_5_4 30 rfl
set_option maxRecDepth 20000 in
theorem dW_2633 : decode code 2633 = .ok (.aload_n 1, 1) := dT_of dTB_5_4 31 rfl
set_option maxRecDepth 20000 in
theorem dW_2634 : decode code 2634 = .ok (.aload_n 0, 1) := dT_of dTB_5_4 32 rfl
set_option maxRecDepth 20000 in
theorem dW_2635 : decode code 2635 = .ok (.iload 5, 2) := dT_of dTB_5_4 33 rfl
set_option maxRecDepth 20000 in
theorem dW_2637 : decode code 2637 = .ok (.iconst 1, 1) := dT_of dTB_5_4 34 rfl
set_option maxRecDepth 20000 in
theorem dW_2638 : decode code 2638 = .ok (.iadd, 1) := dT_of dTB_5_4 35 rfl
set_option maxRecDepth 20000 in
theorem dW_2639 : decode code 2639 = .ok (.iaload, 1) := dT_of dTB_5_4 36 rfl
set_option maxRecDepth 20000 in
theorem dW_2640 : decode code 2640 = .ok (.aload_n 0, 1) := dT_of dTB_5_4 37 rfl
set_option maxRecDepth 20000 in
theorem dW_2641 : decode code 2641 = .ok (.iload 5, 2) := dT_of dTB_5_4 38 rfl
set_option maxRecDepth 20000 in
theorem dW_2643 : decode code 2643 = .ok (.iconst 2, 1) := dT_of dTB_5_4 39 rfl
set_option maxRecDepth 20000 in
theorem dW_2644 : decode code 2644 = .ok (.iadd, 1) := dT_of dTB_5_4 40 rfl
set_option maxRecDepth 20000 in
theorem dW_2645 : decode code 2645 = .ok (.iaload, 1) := dT_of dTB_5_4 41 rfl
set_option maxRecDepth 20000 in
theorem dW_2646 : decode code 2646 = .ok (.aload_n 3, 1) := dT_of dTB_5_4 42 rfl
set_option maxRecDepth 20000 in
theorem dW_2647 : decode code 2647 = .ok (.invokestatic 322, 3) := dT_of dTB_5_4 43 rfl
