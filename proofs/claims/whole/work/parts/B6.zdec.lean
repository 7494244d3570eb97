/-! the law's instructions, 5 -/
theorem dW_2270 : decode code 2270 = .ok (.goto 638, 3) := by decide +kernel
theorem dW_2273 : decode code 2273 = .ok (.aload_n 1, 1) := by decide +kernel
theorem dW_2274 : decode code 2274 = .ok (.aload_n 0, 1) := by decide +kernel
theorem dW_2275 : decode code 2275 = .ok (.iload 5, 2) := by decide +kernel
theorem dW_2277 : decode code 2277 = .ok (.iconst 1, 1) := by decide +kernel
theorem dW_2278 : decode code 2278 = .ok (.iadd, 1) := by decide +kernel
theorem dW_2279 : decode code 2279 = .ok (.iaload, 1) := by decide +kernel
theorem dW_2280 : decode code 2280 = .ok (.aload_n 0, 1) := by decide +kernel
theorem dW_2281 : decode code 2281 = .ok (.iload 5, 2) := by decide +kernel
theorem dW_2283 : decode code 2283 = .ok (.iconst 2, 1) := by decide +kernel
theorem dW_2284 : decode code 2284 = .ok (.iadd, 1) := by decide +kernel
theorem dW_2285 : decode code 2285 = .ok (.iaload, 1) := by decide +kernel
theorem dW_2286 : decode code 2286 = .ok (.aload_n 3, 1) := by decide +kernel
theorem dW_2287 : decode code 2287 = .ok (.invokestatic 304, 3) := by decide +kernel
theorem dW_2290 : decode code 2290 = .ok (.istore 6, 2) := by decide +kernel
theorem dW_2292 : decode code 2292 = .ok (.aload_n 2, 1) := by decide +kernel
theorem dW_2293 : decode code 2293 = .ok (.aload_n 0, 1) := by decide +kernel
theorem dW_2294 : decode code 2294 = .ok (.iload 5, 2) := by decide +kernel
theorem dW_2296 : decode code 2296 = .ok (.iconst 1, 1) := by decide +kernel
theorem dW_2297 : decode code 2297 = .ok (.iadd, 1) := by decide +kernel
theorem dW_2298 : decode code 2298 = .ok (.iaload, 1) := by decide +kernel
theorem dW_2299 : decode code 2299 = .ok (.aload_n 0, 1) := by decide +kernel
theorem dW_2300 : decode code 2300 = .ok (.iload 5, 2) := by decide +kernel
theorem dW_2302 : decode code 2302 = .ok (.iconst 2, 1) := by decide +kernel
theorem dW_2303 : decode code 2303 = .ok (.iadd, 1) := by decide +kernel
theorem dW_2304 : decode code 2304 = .ok (.iaload, 1) := by decide +kernel
theorem dW_2305 : decode code 2305 = .ok (.invokevirtual 306, 3) := by decide +kernel
theorem dW_2308 : decode code 2308 = .ok (.istore 7, 2) := by decide +kernel
theorem dW_2310 : decode code 2310 = .ok (.aload_n 2, 1) := by decide +kernel
theorem dW_2311 : decode code 2311 = .ok (.invokevirtual 144, 3) := by decide +kernel
theorem dW_2314 : decode code 2314 = .ok (.iload 6, 2) := by decide +kernel
theorem dW_2316 : decode code 2316 = .ok (.if_icmp .eq 5, 3) := by decide +kernel
theorem dW_2321 : decode code 2321 = .ok (.iload 6, 2) := by decide +kernel
theorem dW_2323 : decode code 2323 = .ok (.ifCond .ne 15, 3) := by decide +kernel
theorem dW_2326 : decode code 2326 = .ok (.aload_n 3, 1) := by decide +kernel
theorem dW_2327 : decode code 2327 = .ok (.iconst 0, 1) := by decide +kernel
theorem dW_2328 : decode code 2328 = .ok (.laload, 1) := by decide +kernel
theorem dW_2329 : decode code 2329 = .ok (.iload 7, 2) := by decide +kernel
theorem dW_2331 : decode code 2331 = .ok (.i2l, 1) := by decide +kernel
theorem dW_2332 : decode code 2332 = .ok (.lcmp, 1) := by decide +kernel
theorem dW_2333 : decode code 2333 = .ok (.ifCond .eq 5, 3) := by decide +kernel
theorem dW_2338 : decode code 2338 = .ok (.goto 570, 3) := by decide +kernel
theorem dW_2341 : decode code 2341 = .ok (.aload_n 1, 1) := by decide +kernel
theorem dW_2342 : decode code 2342 = .ok (.aload_n 0, 1) := by decide +kernel
theorem dW_2343 : decode code 2343 = .ok (.iload 5, 2) := by decide +kernel
theorem dW_2345 : decode code 2345 = .ok (.iconst 1, 1) := by decide +kernel
theorem dW_2346 : decode code 2346 = .ok (.iadd, 1) := by decide +kernel
theorem dW_2347 : decode code 2347 = .ok (.iaload, 1) := by decide +kernel
theorem dW_2348 : decode code 2348 = .ok (.aload_n 0, 1) := by decide +kernel
theorem dW_2349 : decode code 2349 = .ok (.iload 5, 2) := by decide +kernel
theorem dW_2351 : decode code 2351 = .ok (.iconst 2, 1) := by decide +kernel
theorem dW_2352 : decode code 2352 = .ok (.iadd, 1) := by decide +kernel
theorem dW_2353 : decode code 2353 = .ok (.iaload, 1) := by decide +kernel
theorem dW_2354 : decode code 2354 = .ok (.aload_n 3, 1) := by decide +kernel
theorem dW_2355 : decode code 2355 = .ok (.invokestatic 307, 3) := by decide +kernel
theorem dW_2358 : decode code 2358 = .ok (.istore 6, 2) := by decide +kernel
theorem dW_2360 : decode code 2360 = .ok (.aload_n 2, 1) := by decide +kernel
theorem dW_2361 : decode code 2361 = .ok (.aload_n 0, 1) := by decide +kernel
theorem dW_2362 : decode code 2362 = .ok (.iload 5, 2) := by decide +kernel
theorem dW_2364 : decode code 2364 = .ok (.iconst 1, 1) := by decide +kernel
theorem dW_2365 : decode code 2365 = .ok (.iadd, 1) := by decide +kernel
theorem dW_2366 : decode code 2366 = .ok (.iaload, 1) := by decide +kernel
theorem dW_2367 : decode code 2367 = .ok (.aload_n 0, 1) := by decide +kernel
theorem dW_2368 : decode code 2368 = .ok (.iload 5, 2) := by decide +kernel
theorem dW_2370 : decode code 2370 = .ok (.iconst 2, 1) := by decide +kernel
theorem dW_2371 : decode code 2371 = .ok (.iadd, 1) := by decide +kernel
theorem dW_2372 : decode code 2372 = .ok (.iaload, 1) := by decide +kernel
theorem dW_2373 : decode code 2373 = .ok (.invokevirtual 309, 3) := by decide +kernel
theorem dW_2376 : decode code 2376 = .ok (.istore 7, 2) := by decide +kernel
theorem dW_2378 : decode code 2378 = .ok (.aload_n 2, 1) := by decide +kernel
theorem dW_2379 : decode code 2379 = .ok (.invokevirtual 144, 3) := by decide +kernel
theorem dW_2382 : decode code 2382 = .ok (.iload 6, 2) := by decide +kernel
theorem dW_2384 : decode code 2384 = .ok (.if_icmp .eq 5, 3) := by decide +kernel
theorem dW_2389 : decode code 2389 = .ok (.iload 6, 2) := by decide +kernel
theorem dW_2391 : decode code 2391 = .ok (.ifCond .ne 15, 3) := by decide +kernel
theorem dW_2394 : decode code 2394 = .ok (.aload_n 3, 1) := by decide +kernel
theorem dW_2395 : decode code 2395 = .ok (.iconst 0, 1) := by decide +kernel
theorem dW_2396 : decode code 2396 = .ok (.laload, 1) := by decide +kernel
theorem dW_2397 : decode code 2397 = .ok (.iload 7, 2) := by decide +kernel
theorem dW_2399 : decode code 2399 = .ok (.i2l, 1) := by decide +kernel
theorem dW_2400 : decode code 2400 = .ok (.lcmp, 1) := by decide +kernel
theorem dW_2401 : decode code 2401 = .ok (.ifCond .eq 5, 3) := by decide +kernel
theorem dW_2406 : decode code 2406 = .ok (.goto 502, 3) := by decide +kernel
theorem dW_2409 : decode code 2409 = .ok (.aload_n 1, 1) := by decide +kernel
theorem dW_2410 : decode code 2410 = .ok (.aload_n 0, 1) := by decide +kernel
theorem dW_2411 : decode code 2411 = .ok (.iload 5, 2) := by decide +kernel
theorem dW_2413 : decode code 2413 = .ok (.iconst 1, 1) := by decide +kernel
theorem dW_2414 : decode code 2414 = .ok (.iadd, 1) := by decide +kernel
theorem dW_2415 : decode code 2415 = .ok (.iaload, 1) := by decide +kernel
theorem dW_2416 : decode code 2416 = .ok (.aload_n 3, 1) := by decide +kernel
theorem dW_2417 : decode code 2417 = .ok (.invokestatic 310, 3) := by decide +kernel
theorem dW_2420 : decode code 2420 = .ok (.istore 6, 2) := by decide +kernel
theorem dW_2422 : decode code 2422 = .ok (.aload_n 2, 1) := by decide +kernel
theorem dW_2423 : decode code 2423 = .ok (.aload_n 0, 1) := by decide +kernel
theorem dW_2424 : decode code 2424 = .ok (.iload 5, 2) := by decide +kernel
theorem dW_2426 : decode code 2426 = .ok (.iconst 1, 1) := by decide +kernel
theorem dW_2427 : decode code 2427 = .ok (.iadd, 1) := by decide +kernel
theorem dW_2428 : decode code 2428 = .ok (.iaload, 1) := by decide +kernel
theorem dW_2429 : decode code 2429 = .ok (.invokevirtual 312, 3) := by decide +kernel
theorem dW_2432 : decode code 2432 = .ok (.istore 7, 2) := by decide +kernel
theorem dW_2434 : decode code 2434 = .ok (.aload_n 2, 1) := by decide +kernel
theorem dW_2435 : decode code 2435 = .ok (.invokevirtual 144, 3) := by decide +kernel
theorem dW_2438 : decode code 2438 = .ok (.iload 6, 2) := by decide +kernel
theorem dW_2440 : decode code 2440 = .ok (.if_icmp .eq 5, 3) := by decide +kernel
theorem dW_2445 : decode code 2445 = .ok (.iload 6, 2) := by decide +kernel
theorem dW_2447 : decode code 2447 = .ok (.ifCond .ne 15, 3) := by decide +kernel
theorem dW_2450 : decode code 2450 = .ok (.aload_n 3, 1) := by decide +kernel
theorem dW_2451 : decode code 2451 = .ok (.iconst 0, 1) := by decide +kernel
theorem dW_2452 : decode code 2452 = .ok (.laload, 1) := by decide +kernel
theorem dW_2453 : decode code 2453 = .ok (.iload 7, 2) := by decide +kernel
theorem dW_2455 : decode code 2455 = .ok (.i2l, 1) := by decide +kernel
theorem dW_2456 : decode code 2456 = .ok (.lcmp, 1) := by decide +kernel
theorem dW_2457 : decode code 2457 = .ok (.ifCond .eq 5, 3) := by decide +kernel
theorem dW_2462 : decode code 2462 = .ok (.goto 446, 3) := by decide +kernel
theorem dW_2465 : decode code 2465 = .ok (.aload_n 1, 1) := by decide +kernel
theorem dW_2466 : decode code 2466 = .ok (.aload_n 0, 1) := by decide +kernel
theorem dW_2467 : decode code 2467 = .ok (.iload 5, 2) := by decide +kernel
theorem dW_2469 : decode code 2469 = .ok (.iconst 1, 1) := by decide +kernel
theorem dW_2470 : decode code 2470 = .ok (.iadd, 1) := by decide +kernel
theorem dW_2471 : decode code 2471 = .ok (.iaload, 1) := by decide +kernel
theorem dW_2472 : decode code 2472 = .ok (.aload_n 3, 1) := by decide +kernel
theorem dW_2473 : decode code 2473 = .ok (.invokestatic 313, 3) := by decide +kernel
theorem dW_2476 : decode code 2476 = .ok (.istore 6, 2) := by decide +kernel
theorem dW_2478 : decode code 2478 = .ok (.aload_n 2, 1) := by decide +kernel
theorem dW_2479 : decode code 2479 = .ok (.aload_n 0, 1) := by decide +kernel
theorem dW_2480 : decode code 2480 = .ok (.iload 5, 2) := by decide +kernel
theorem dW_2482 : decode code 2482 = .ok (.iconst 1, 1) := by decide +kernel
theorem dW_2483 : decode code 2483 = .ok (.iadd, 1) := by decide +kernel
theorem dW_2484 : decode code 2484 = .ok (.iaload, 1) := by decide +kernel
theorem dW_2485 : decode code 2485 = .ok (.invokevirtual 315, 3) := by decide +kernel
theorem dW_2488 : decode code 2488 = .ok (.istore 7, 2) := by decide +kernel
theorem dW_2490 : decode code 2490 = .ok (.aload_n 2, 1) := by decide +kernel
theorem dW_2491 : decode code 2491 = .ok (.invokevirtual 144, 3) := by decide +kernel
theorem dW_2494 : decode code 2494 = .ok (.iload 6, 2) := by decide +kernel
theorem dW_2496 : decode code 2496 = .ok (.if_icmp .eq 5, 3) := by decide +kernel
theorem dW_2501 : decode code 2501 = .ok (.iload 6, 2) := by decide +kernel
theorem dW_2503 : decode code 2503 = .ok (.ifCond .ne 15, 3) := by decide +kernel
theorem dW_2506 : decode code 2506 = .ok (.aload_n 3, 1) := by decide +kernel
theorem dW_2507 : decode code 2507 = .ok (.iconst 0, 1) := by decide +kernel
theorem dW_2508 : decode code 2508 = .ok (.laload, 1) := by decide +kernel
theorem dW_2509 : decode code 2509 = .ok (.iload 7, 2) := by decide +kernel
theorem dW_2511 : decode code 2511 = .ok (.i2l, 1) := by decide +kernel
theorem dW_2512 : decode code 2512 = .ok (.lcmp, 1) := by decide +kernel
theorem dW_2513 : decode code 2513 = .ok (.ifCond .eq 5, 3) := by decide +kernel
theorem dW_2518 : decode code 2518 = .ok (.goto 390, 3) := by decide +kernel
theorem dW_2521 : decode code 2521 = .ok (.aload_n 1, 1) := by decide +kernel
theorem dW_2522 : decode code 2522 = .ok (.aload_n 0, 1) := by decide +kernel
theorem dW_2523 : decode code 2523 = .ok (.iload 5, 2) := by decide +kernel
theorem dW_2525 : decode code 2525 = .ok (.iconst 1, 1) := by decide +kernel
theorem dW_2526 : decode code 2526 = .ok (.iadd, 1) := by decide +kernel
theorem dW_2527 : decode code 2527 = .ok (.iaload, 1) := by decide +kernel
theorem dW_2528 : decode code 2528 = .ok (.aload_n 3, 1) := by decide +kernel
theorem dW_2529 : decode code 2529 = .ok (.invokestatic 316, 3) := by decide +kernel
theorem dW_2532 : decode code 2532 = .ok (.istore 6, 2) := by decide +kernel
theorem dW_2534 : decode code 2534 = .ok (.aload_n 2, 1) := by decide +kernel
theorem dW_2535 : decode code 2535 = .ok (.aload_n 0, 1) := by decide +kernel
theorem dW_2536 : decode code 2536 = .ok (.iload 5, 2) := by decide +kernel
theorem dW_2538 : decode code 2538 = .ok (.iconst 1, 1) := by decide +kernel
theorem dW_2539 : decode code 2539 = .ok (.iadd, 1) := by decide +kernel
theorem dW_2540 : decode code 2540 = .ok (.iaload, 1) := by decide +kernel
theorem dW_2541 : decode code 2541 = .ok (.invokevirtual 318, 3) := by decide +kernel
theorem dW_2544 : decode code 2544 = .ok (.istore 7, 2) := by decide +kernel
theorem dW_2546 : decode code 2546 = .ok (.aload_n 2, 1) := by decide +kernel
theorem dW_2547 : decode code 2547 = .ok (.invokevirtual 144, 3) := by decide +kernel
theorem dW_2550 : decode code 2550 = .ok (.iload 6, 2) := by decide +kernel
theorem dW_2552 : decode code 2552 = .ok (.if_icmp .eq 5, 3) := by decide +kernel
theorem dW_2557 : decode code 2557 = .ok (.iload 6, 2) := by decide +kernel
theorem dW_2559 : decode code 2559 = .ok (.ifCond .ne 15, 3) := by decide +kernel
theorem dW_2562 : decode code 2562 = .ok (.aload_n 3, 1) := by decide +kernel
theorem dW_2563 : decode code 2563 = .ok (.iconst 0, 1) := by decide +kernel
theorem dW_2564 : decode code 2564 = .ok (.laload, 1) := by decide +kernel
theorem dW_2565 : decode code 2565 = .ok (.iload 7, 2) := by decide +kernel
theorem dW_2567 : decode code 2567 = .ok (.i2l, 1) := by decide +kernel
theorem dW_2568 : decode code 2568 = .ok (.lcmp, 1) := by decide +kernel
theorem dW_2569 : decode code 2569 = .ok (.ifCond .eq 5, 3) := by decide +kernel
theorem dW_2574 : decode code 2574 = .ok (.goto 334, 3) := by decide +kernel
theorem dW_2577 : decode code 2577 = .ok (.aload_n 1, 1) := by decide +kernel
theorem dW_2578 : decode code 2578 = .ok (.aload_n 0, 1) := by decide +kernel
theorem dW_2579 : decode code 2579 = .ok (.iload 5, 2) := by decide +kernel
theorem dW_2581 : decode code 2581 = .ok (.iconst 1, 1) := by decide +kernel
theorem dW_2582 : decode code 2582 = .ok (.iadd, 1) := by decide +kernel
theorem dW_2583 : decode code 2583 = .ok (.iaload, 1) := by decide +kernel
theorem dW_2584 : decode code 2584 = .ok (.aload_n 3, 1) := by decide +kernel
theorem dW_2585 : decode code 2585 = .ok (.invokestatic 319, 3) := by decide +kernel
theorem dW_2588 : decode code 2588 = .ok (.istore 6, 2) := by decide +kernel
theorem dW_2590 : decode code 2590 = .ok (.aload_n 2, 1) := by decide +kernel
theorem dW_2591 : decode code 2591 = .ok (.aload_n 0, 1) := by decide +kernel
theorem dW_2592 : decode code 2592 = .ok (.iload 5, 2) := by decide +kernel
theorem dW_2594 : decode code 2594 = .ok (.iconst 1, 1) := by decide +kernel
theorem dW_2595 : decode code 2595 = .ok (.iadd, 1) := by decide +kernel
theorem dW_2596 : decode code 2596 = .ok (.iaload, 1) := by decide +kernel
theorem dW_2597 : decode code 2597 = .ok (.invokevirtual 321, 3) := by decide +kernel
theorem dW_2600 : decode code 2600 = .ok (.istore 7, 2) := by decide +kernel
theorem dW_2602 : decode code 2602 = .ok (.aload_n 2, 1) := by decide +kernel
theorem dW_2603 : decode code 2603 = .ok (.invokevirtual 144, 3) := by decide +kernel
theorem dW_2606 : decode code 2606 = .ok (.iload 6, 2) := by decide +kernel
theorem dW_2608 : decode code 2608 = .ok (.if_icmp .eq 5, 3) := by decide +kernel
theorem dW_2613 : decode code 2613 = .ok (.iload 6, 2) := by decide +kernel
theorem dW_2615 : decode code 2615 = .ok (.ifCond .ne 15, 3) := by decide +kernel
theorem dW_2618 : decode code 2618 = .ok (.aload_n 3, 1) := by decide +kernel
theorem dW_2619 : decode code 2619 = .ok (.iconst 0, 1) := by decide +kernel
theorem dW_2620 : decode code 2620 = .ok (.laload, 1) := by decide +kernel
theorem dW_2621 : decode code 2621 = .ok (.iload 7, 2) := by decide +kernel
theorem dW_2623 : decode code 2623 = .ok (.i2l, 1) := by decide +kernel
theorem dW_2624 : decode code 2624 = .ok (.lcmp, 1) := by decide +kernel
theorem dW_2625 : decode code 2625 = .ok (.ifCond .eq 5, 3) := by decide +kernel
theorem dW_2630 : decode code 2630 = .ok (.goto 278, 3) := by decide +kernel
theorem dW_2633 : decode code 2633 = .ok (.aload_n 1, 1) := by decide +kernel
theorem dW_2634 : decode code 2634 = .ok (.aload_n 0, 1) := by decide +kernel
theorem dW_2635 : decode code 2635 = .ok (.iload 5, 2) := by decide +kernel
theorem dW_2637 : decode code 2637 = .ok (.iconst 1, 1) := by decide +kernel
theorem dW_2638 : decode code 2638 = .ok (.iadd, 1) := by decide +kernel
theorem dW_2639 : decode code 2639 = .ok (.iaload, 1) := by decide +kernel
theorem dW_2640 : decode code 2640 = .ok (.aload_n 0, 1) := by decide +kernel
theorem dW_2641 : decode code 2641 = .ok (.iload 5, 2) := by decide +kernel
theorem dW_2643 : decode code 2643 = .ok (.iconst 2, 1) := by decide +kernel
theorem dW_2644 : decode code 2644 = .ok (.iadd, 1) := by decide +kernel
theorem dW_2645 : decode code 2645 = .ok (.iaload, 1) := by decide +kernel
theorem dW_2646 : decode code 2646 = .ok (.aload_n 3, 1) := by decide +kernel
theorem dW_2647 : decode code 2647 = .ok (.invokestatic 322, 3) := by decide +kernel
