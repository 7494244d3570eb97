/-! the law's cases, 3 -/
set_option maxRecDepth 20000 in
set_option maxHeartbeats 2000000 in
theorem case_45 {b L : Nat} {xs : Nat → Int32} {xt : List ExceptionTableEntry} {nme : String} {x : Int32} {cells slots : Nat} {M : Mm} (G : GL M) (hs : ∀ d : Int32, 0 ≤ d → d < 6 → ¬ (x + d < 0 ∨ L ≤ (x + d).toNatClampNeg)) (hc : cells + 4 ≤ 601024) (hsl : slots + 24 ≤ 7293034) (kk : ∀ M2, GL M2 → Z RL code 10 ret xt nme room_1 (lwQ b L xs) (allR 2) SH (cells + 4) (slots + 24) 2908 (ls0 b x) [] M2) : Z RL code 10 ret xt nme room_1 (lwQ b L xs) (allR 2) SH cells slots 2273 (ls0 b x) [] M := by
  obtain ⟨res, M1, e1, f1, hN⟩ := api_setGap G (xs (x + 1).toNatClampNeg) (xs (x + 2).toNatClampNeg)
  have he : ∀ e, res = .inr e → e ∈ [2, 1] := by
    obtain ⟨r0, N0, -, -, -, ag0⟩ := hN M1 fr_rf
    exact ag_in (ag_T ag0)
  refine z_aload_n (i := 1) dW_2273 rfl rfl ?_
  refine z_arg (d := 1) dW_2274 dW_2275 dW_2277 dW_2278 dW_2279 rfl rfl rfl (hs 1 (by decide) (by decide)) ?_
  refine z_arg (d := 2) dW_2280 dW_2281 dW_2283 dW_2284 dW_2285 rfl rfl rfl (hs 2 (by decide) (by decide)) ?_
  refine z_aload_n (i := 3) dW_2286 rfl rfl ?_
  refine z_callSX (av := [.inr (0, 0, 0), .inl (.int (xs (x + 1).toNatClampNeg)), .inl (.int (xs (x + 2).toNatClampNeg)), .inr (21, 0, 0)]) (W_setGap M (xs (x + 1).toNatClampNeg) (xs (x + 2).toNatClampNeg) e1 he) dW_2287 ml_L_304 cw_L_setGap rfl ⟨by decide, by decide, hc, hsl⟩ (by decide) rfl (fun v M9 hw => ?_) (fun E M9 h => h.elim)
  obtain ⟨k, hv, hF, hw⟩ := wp_k (by decide) hw
  subst hv
  obtain ⟨r, M2, e2, G2, f2, ag⟩ := hN M9 hF
  have hth := wp_th hw (ag_T ag)
  refine z_istore (i := 6) dW_2290 (by decide) rfl ?_
  refine z_aload_n (i := 2) dW_2292 rfl rfl ?_
  refine z_arg (d := 1) dW_2293 dW_2294 dW_2296 dW_2297 dW_2298 rfl rfl rfl (hs 1 (by decide) (by decide)) ?_
  refine z_arg (d := 2) dW_2299 dW_2300 dW_2302 dW_2303 dW_2304 rfl rfl rfl (hs 2 (by decide) (by decide)) ?_
  refine z_fVi (wv := 2) (n := 2) (sX10_setGap (wv := 1) M9 (xs (x + 1).toNatClampNeg) (xs (x + 2).toNatClampNeg) e2) dW_2305 ml_L_306 cd_X10_setGap mk18 rfl rfl rfl (rmk_r (by decide) (by decide) hc hsl) rfl rfl ?_
  refine z_istore (i := 7) dW_2308 (by decide) rfl ?_
  refine z_aload_n (i := 2) dW_2310 rfl rfl ?_
  refine z_fVi (wv := 2) (n := 0) (sX10_thrown (wv := 1) M2) dW_2311 ml_L_144 cd_X10_thrown mk18 rfl rfl rfl (rmk_r (by decide) (by decide) hc hsl) rfl rfl ?_
  refine z_iload (i := 6) dW_2314 rfl ?_
  refine z_icmp_eq (tgt := 2321) dW_2316 rfl (fun _ => ?_) (fun hne => absurd hth hne)
  refine z_iload (i := 6) dW_2321 rfl ?_
  refine z_if_ne (tgt := 2338) dW_2323 rfl (fun _ => z_goto (tgt := 2908) dW_2338 rfl (z_fgt (i := 6) (z_fgt (i := 7) (kk M2 G2)))) (fun h0 => ?_)
  obtain ⟨hval, hres⟩ := wp_val hw (ag_T ag) h0 rfl f2
  refine z_aload_n (i := 3) dW_2326 rfl rfl ?_
  refine z_iconst (v := (0 : Int32)) dW_2327 (by decide) ?_
  refine z_lald dW_2328 mk21 rfl (by decide) hval ?_
  refine z_iload (i := 7) dW_2329 rfl ?_
  refine z_i2l dW_2331 ?_
  refine z_lcmp dW_2332 ?_
  exact z_if_eq (tgt := 2338) dW_2333 rfl (fun _ => z_goto (tgt := 2908) dW_2338 rfl (z_fgt (i := 6) (z_fgt (i := 7) (kk M2 G2)))) (fun hne => absurd lcmp_0 hne)
set_option maxRecDepth 20000 in
set_option maxHeartbeats 2000000 in
theorem case_46 {b L : Nat} {xs : Nat → Int32} {xt : List ExceptionTableEntry} {nme : String} {x : Int32} {cells slots : Nat} {M : Mm} (G : GL M) (hs : ∀ d : Int32, 0 ≤ d → d < 6 → ¬ (x + d < 0 ∨ L ≤ (x + d).toNatClampNeg)) (hc : cells + 4 ≤ 601024) (hsl : slots + 24 ≤ 7293034) (kk : ∀ M2, GL M2 → Z RL code 10 ret xt nme room_1 (lwQ b L xs) (allR 2) SH (cells + 4) (slots + 24) 2908 (ls0 b x) [] M2) : Z RL code 10 ret xt nme room_1 (lwQ b L xs) (allR 2) SH cells slots 2341 (ls0 b x) [] M := by
  obtain ⟨res, M1, e1, f1, hN⟩ := api_bend G (xs (x + 1).toNatClampNeg) (xs (x + 2).toNatClampNeg)
  have he : ∀ e, res = .inr e → e ∈ [2, 1, 0] := by
    obtain ⟨r0, N0, -, -, -, ag0⟩ := hN M1 fr_rf
    exact ag_in (ag_T ag0)
  refine z_aload_n (i := 1) dW_2341 rfl rfl ?_
  refine z_arg (d := 1) dW_2342 dW_2343 dW_2345 dW_2346 dW_2347 rfl rfl rfl (hs 1 (by decide) (by decide)) ?_
  refine z_arg (d := 2) dW_2348 dW_2349 dW_2351 dW_2352 dW_2353 rfl rfl rfl (hs 2 (by decide) (by decide)) ?_
  refine z_aload_n (i := 3) dW_2354 rfl rfl ?_
  refine z_callSX (av := [.inr (0, 0, 0), .inl (.int (xs (x + 1).toNatClampNeg)), .inl (.int (xs (x + 2).toNatClampNeg)), .inr (21, 0, 0)]) (W_bend M (xs (x + 1).toNatClampNeg) (xs (x + 2).toNatClampNeg) e1 he) dW_2355 ml_L_307 cw_L_bend rfl ⟨by decide, by decide, hc, hsl⟩ (by decide) rfl (fun v M9 hw => ?_) (fun E M9 h => h.elim)
  obtain ⟨k, hv, hF, hw⟩ := wp_k (by decide) hw
  subst hv
  obtain ⟨r, M2, e2, G2, f2, ag⟩ := hN M9 hF
  have hth := wp_th hw (ag_T ag)
  refine z_istore (i := 6) dW_2358 (by decide) rfl ?_
  refine z_aload_n (i := 2) dW_2360 rfl rfl ?_
  refine z_arg (d := 1) dW_2361 dW_2362 dW_2364 dW_2365 dW_2366 rfl rfl rfl (hs 1 (by decide) (by decide)) ?_
  refine z_arg (d := 2) dW_2367 dW_2368 dW_2370 dW_2371 dW_2372 rfl rfl rfl (hs 2 (by decide) (by decide)) ?_
  refine z_fVi (wv := 2) (n := 2) (sX10_bend (wv := 1) M9 (xs (x + 1).toNatClampNeg) (xs (x + 2).toNatClampNeg) e2) dW_2373 ml_L_309 cd_X10_bend mk18 rfl rfl rfl (rmk_r (by decide) (by decide) hc hsl) rfl rfl ?_
  refine z_istore (i := 7) dW_2376 (by decide) rfl ?_
  refine z_aload_n (i := 2) dW_2378 rfl rfl ?_
  refine z_fVi (wv := 2) (n := 0) (sX10_thrown (wv := 1) M2) dW_2379 ml_L_144 cd_X10_thrown mk18 rfl rfl rfl (rmk_r (by decide) (by decide) hc hsl) rfl rfl ?_
  refine z_iload (i := 6) dW_2382 rfl ?_
  refine z_icmp_eq (tgt := 2389) dW_2384 rfl (fun _ => ?_) (fun hne => absurd hth hne)
  refine z_iload (i := 6) dW_2389 rfl ?_
  refine z_if_ne (tgt := 2406) dW_2391 rfl (fun _ => z_goto (tgt := 2908) dW_2406 rfl (z_fgt (i := 6) (z_fgt (i := 7) (kk M2 G2)))) (fun h0 => ?_)
  obtain ⟨hval, hres⟩ := wp_val hw (ag_T ag) h0 rfl f2
  refine z_aload_n (i := 3) dW_2394 rfl rfl ?_
  refine z_iconst (v := (0 : Int32)) dW_2395 (by decide) ?_
  refine z_lald dW_2396 mk21 rfl (by decide) hval ?_
  refine z_iload (i := 7) dW_2397 rfl ?_
  refine z_i2l dW_2399 ?_
  refine z_lcmp dW_2400 ?_
  exact z_if_eq (tgt := 2406) dW_2401 rfl (fun _ => z_goto (tgt := 2908) dW_2406 rfl (z_fgt (i := 6) (z_fgt (i := 7) (kk M2 G2)))) (fun hne => absurd lcmp_0 hne)
set_option maxRecDepth 20000 in
set_option maxHeartbeats 2000000 in
theorem case_47 {b L : Nat} {xs : Nat → Int32} {xt : List ExceptionTableEntry} {nme : String} {x : Int32} {cells slots : Nat} {M : Mm} (G : GL M) (hs : ∀ d : Int32, 0 ≤ d → d < 6 → ¬ (x + d < 0 ∨ L ≤ (x + d).toNatClampNeg)) (hc : cells + 4 ≤ 601024) (hsl : slots + 24 ≤ 7293034) (kk : ∀ M2, GL M2 → Z RL code 10 ret xt nme room_1 (lwQ b L xs) (allR 2) SH (cells + 4) (slots + 24) 2908 (ls0 b x) [] M2) : Z RL code 10 ret xt nme room_1 (lwQ b L xs) (allR 2) SH cells slots 2409 (ls0 b x) [] M := by
  obtain ⟨res, M1, e1, f1, hN⟩ := api_replaceTooth G (xs (x + 1).toNatClampNeg)
  have he : ∀ e, res = .inr e → e ∈ [2] := by
    obtain ⟨r0, N0, -, -, -, ag0⟩ := hN M1 fr_rf
    exact ag_in (ag_T ag0)
  refine z_aload_n (i := 1) dW_2409 rfl rfl ?_
  refine z_arg (d := 1) dW_2410 dW_2411 dW_2413 dW_2414 dW_2415 rfl rfl rfl (hs 1 (by decide) (by decide)) ?_
  refine z_aload_n (i := 3) dW_2416 rfl rfl ?_
  refine z_callSX (av := [.inr (0, 0, 0), .inl (.int (xs (x + 1).toNatClampNeg)), .inr (21, 0, 0)]) (W_replaceTooth M (xs (x + 1).toNatClampNeg) e1 he) dW_2417 ml_L_310 cw_L_replaceTooth rfl ⟨by decide, by decide, hc, hsl⟩ (by decide) rfl (fun v M9 hw => ?_) (fun E M9 h => h.elim)
  obtain ⟨k, hv, hF, hw⟩ := wp_k (by decide) hw
  subst hv
  obtain ⟨r, M2, e2, G2, f2, ag⟩ := hN M9 hF
  have hth := wp_th hw (ag_T ag)
  refine z_istore (i := 6) dW_2420 (by decide) rfl ?_
  refine z_aload_n (i := 2) dW_2422 rfl rfl ?_
  refine z_arg (d := 1) dW_2423 dW_2424 dW_2426 dW_2427 dW_2428 rfl rfl rfl (hs 1 (by decide) (by decide)) ?_
  refine z_fVi (wv := 2) (n := 1) (sX10_replaceTooth (wv := 1) M9 (xs (x + 1).toNatClampNeg) e2) dW_2429 ml_L_312 cd_X10_replaceTooth mk18 rfl rfl rfl (rmk_r (by decide) (by decide) hc hsl) rfl rfl ?_
  refine z_istore (i := 7) dW_2432 (by decide) rfl ?_
  refine z_aload_n (i := 2) dW_2434 rfl rfl ?_
  refine z_fVi (wv := 2) (n := 0) (sX10_thrown (wv := 1) M2) dW_2435 ml_L_144 cd_X10_thrown mk18 rfl rfl rfl (rmk_r (by decide) (by decide) hc hsl) rfl rfl ?_
  refine z_iload (i := 6) dW_2438 rfl ?_
  refine z_icmp_eq (tgt := 2445) dW_2440 rfl (fun _ => ?_) (fun hne => absurd hth hne)
  refine z_iload (i := 6) dW_2445 rfl ?_
  refine z_if_ne (tgt := 2462) dW_2447 rfl (fun _ => z_goto (tgt := 2908) dW_2462 rfl (z_fgt (i := 6) (z_fgt (i := 7) (kk M2 G2)))) (fun h0 => ?_)
  obtain ⟨hval, hres⟩ := wp_val hw (ag_T ag) h0 rfl f2
  refine z_aload_n (i := 3) dW_2450 rfl rfl ?_
  refine z_iconst (v := (0 : Int32)) dW_2451 (by decide) ?_
  refine z_lald dW_2452 mk21 rfl (by decide) hval ?_
  refine z_iload (i := 7) dW_2453 rfl ?_
  refine z_i2l dW_2455 ?_
  refine z_lcmp dW_2456 ?_
  exact z_if_eq (tgt := 2462) dW_2457 rfl (fun _ => z_goto (tgt := 2908) dW_2462 rfl (z_fgt (i := 6) (z_fgt (i := 7) (kk M2 G2)))) (fun hne => absurd lcmp_0 hne)
set_option maxRecDepth 20000 in
set_option maxHeartbeats 2000000 in
theorem case_48 {b L : Nat} {xs : Nat → Int32} {xt : List ExceptionTableEntry} {nme : String} {x : Int32} {cells slots : Nat} {M : Mm} (G : GL M) (hs : ∀ d : Int32, 0 ≤ d → d < 6 → ¬ (x + d < 0 ∨ L ≤ (x + d).toNatClampNeg)) (hc : cells + 4 ≤ 601024) (hsl : slots + 24 ≤ 7293034) (kk : ∀ M2, GL M2 → Z RL code 10 ret xt nme room_1 (lwQ b L xs) (allR 2) SH (cells + 4) (slots + 24) 2908 (ls0 b x) [] M2) : Z RL code 10 ret xt nme room_1 (lwQ b L xs) (allR 2) SH cells slots 2465 (ls0 b x) [] M := by
  obtain ⟨res, M1, e1, f1, hN⟩ := api_setVane G (xs (x + 1).toNatClampNeg)
  have he : ∀ e, res = .inr e → e ∈ [1] := by
    obtain ⟨r0, N0, -, -, -, ag0⟩ := hN M1 fr_rf
    exact ag_in (ag_T ag0)
  refine z_aload_n (i := 1) dW_2465 rfl rfl ?_
  refine z_arg (d := 1) dW_2466 dW_2467 dW_2469 dW_2470 dW_2471 rfl rfl rfl (hs 1 (by decide) (by decide)) ?_
  refine z_aload_n (i := 3) dW_2472 rfl rfl ?_
  refine z_callSX (av := [.inr (0, 0, 0), .inl (.int (xs (x + 1).toNatClampNeg)), .inr (21, 0, 0)]) (W_setVane M (xs (x + 1).toNatClampNeg) e1 he) dW_2473 ml_L_313 cw_L_setVane rfl ⟨by decide, by decide, hc, hsl⟩ (by decide) rfl (fun v M9 hw => ?_) (fun E M9 h => h.elim)
  obtain ⟨k, hv, hF, hw⟩ := wp_k (by decide) hw
  subst hv
  obtain ⟨r, M2, e2, G2, f2, ag⟩ := hN M9 hF
  have hth := wp_th hw (ag_T ag)
  refine z_istore (i := 6) dW_2476 (by decide) rfl ?_
  refine z_aload_n (i := 2) dW_2478 rfl rfl ?_
  refine z_arg (d := 1) dW_2479 dW_2480 dW_2482 dW_2483 dW_2484 rfl rfl rfl (hs 1 (by decide) (by decide)) ?_
  refine z_fVi (wv := 2) (n := 1) (sX10_setVane (wv := 1) M9 (xs (x + 1).toNatClampNeg) e2) dW_2485 ml_L_315 cd_X10_setVane mk18 rfl rfl rfl (rmk_r (by decide) (by decide) hc hsl) rfl rfl ?_
  refine z_istore (i := 7) dW_2488 (by decide) rfl ?_
  refine z_aload_n (i := 2) dW_2490 rfl rfl ?_
  refine z_fVi (wv := 2) (n := 0) (sX10_thrown (wv := 1) M2) dW_2491 ml_L_144 cd_X10_thrown mk18 rfl rfl rfl (rmk_r (by decide) (by decide) hc hsl) rfl rfl ?_
  refine z_iload (i := 6) dW_2494 rfl ?_
  refine z_icmp_eq (tgt := 2501) dW_2496 rfl (fun _ => ?_) (fun hne => absurd hth hne)
  refine z_iload (i := 6) dW_2501 rfl ?_
  refine z_if_ne (tgt := 2518) dW_2503 rfl (fun _ => z_goto (tgt := 2908) dW_2518 rfl (z_fgt (i := 6) (z_fgt (i := 7) (kk M2 G2)))) (fun h0 => ?_)
  obtain ⟨hval, hres⟩ := wp_val hw (ag_T ag) h0 rfl f2
  refine z_aload_n (i := 3) dW_2506 rfl rfl ?_
  refine z_iconst (v := (0 : Int32)) dW_2507 (by decide) ?_
  refine z_lald dW_2508 mk21 rfl (by decide) hval ?_
  refine z_iload (i := 7) dW_2509 rfl ?_
  refine z_i2l dW_2511 ?_
  refine z_lcmp dW_2512 ?_
  exact z_if_eq (tgt := 2518) dW_2513 rfl (fun _ => z_goto (tgt := 2908) dW_2518 rfl (z_fgt (i := 6) (z_fgt (i := 7) (kk M2 G2)))) (fun hne => absurd lcmp_0 hne)
set_option maxRecDepth 20000 in
set_option maxHeartbeats 2000000 in
theorem case_49 {b L : Nat} {xs : Nat → Int32} {xt : List ExceptionTableEntry} {nme : String} {x : Int32} {cells slots : Nat} {M : Mm} (G : GL M) (hs : ∀ d : Int32, 0 ≤ d → d < 6 → ¬ (x + d < 0 ∨ L ≤ (x + d).toNatClampNeg)) (hc : cells + 4 ≤ 601024) (hsl : slots + 24 ≤ 7293034) (kk : ∀ M2, GL M2 → Z RL code 10 ret xt nme room_1 (lwQ b L xs) (allR 2) SH (cells + 4) (slots + 24) 2908 (ls0 b x) [] M2) : Z RL code 10 ret xt nme room_1 (lwQ b L xs) (allR 2) SH cells slots 2521 (ls0 b x) [] M := by
  obtain ⟨res, M1, e1, f1, hN⟩ := api_wind G (xs (x + 1).toNatClampNeg)
  have he : ∀ e, res = .inr e → e ∈ [1, 0] := by
    obtain ⟨r0, N0, -, -, -, ag0⟩ := hN M1 fr_rf
    exact ag_in (ag_T ag0)
  refine z_aload_n (i := 1) dW_2521 rfl rfl ?_
  refine z_arg (d := 1) dW_2522 dW_2523 dW_2525 dW_2526 dW_2527 rfl rfl rfl (hs 1 (by decide) (by decide)) ?_
  refine z_aload_n (i := 3) dW_2528 rfl rfl ?_
  refine z_callSX (av := [.inr (0, 0, 0), .inl (.int (xs (x + 1).toNatClampNeg)), .inr (21, 0, 0)]) (W_wind M (xs (x + 1).toNatClampNeg) e1 he) dW_2529 ml_L_316 cw_L_wind rfl ⟨by decide, by decide, hc, hsl⟩ (by decide) rfl (fun v M9 hw => ?_) (fun E M9 h => h.elim)
  obtain ⟨k, hv, hF, hw⟩ := wp_k (by decide) hw
  subst hv
  obtain ⟨r, M2, e2, G2, f2, ag⟩ := hN M9 hF
  have hth := wp_th hw (ag_T ag)
  refine z_istore (i := 6) dW_2532 (by decide) rfl ?_
  refine z_aload_n (i := 2) dW_2534 rfl rfl ?_
  refine z_arg (d := 1) dW_2535 dW_2536 dW_2538 dW_2539 dW_2540 rfl rfl rfl (hs 1 (by decide) (by decide)) ?_
  refine z_fVi (wv := 2) (n := 1) (sX10_wind (wv := 1) M9 (xs (x + 1).toNatClampNeg) e2) dW_2541 ml_L_318 cd_X10_wind mk18 rfl rfl rfl (rmk_r (by decide) (by decide) hc hsl) rfl rfl ?_
  refine z_istore (i := 7) dW_2544 (by decide) rfl ?_
  refine z_aload_n (i := 2) dW_2546 rfl rfl ?_
  refine z_fVi (wv := 2) (n := 0) (sX10_thrown (wv := 1) M2) dW_2547 ml_L_144 cd_X10_thrown mk18 rfl rfl rfl (rmk_r (by decide) (by decide) hc hsl) rfl rfl ?_
  refine z_iload (i := 6) dW_2550 rfl ?_
  refine z_icmp_eq (tgt := 2557) dW_2552 rfl (fun _ => ?_) (fun hne => absurd hth hne)
  refine z_iload (i := 6) dW_2557 rfl ?_
  refine z_if_ne (tgt := 2574) dW_2559 rfl (fun _ => z_goto (tgt := 2908) dW_2574 rfl (z_fgt (i := 6) (z_fgt (i := 7) (kk M2 G2)))) (fun h0 => ?_)
  obtain ⟨hval, hres⟩ := wp_val hw (ag_T ag) h0 rfl f2
  refine z_aload_n (i := 3) dW_2562 rfl rfl ?_
  refine z_iconst (v := (0 : Int32)) dW_2563 (by decide) ?_
  refine z_lald dW_2564 mk21 rfl (by decide) hval ?_
  refine z_iload (i := 7) dW_2565 rfl ?_
  refine z_i2l dW_2567 ?_
  refine z_lcmp dW_2568 ?_
  exact z_if_eq (tgt := 2574) dW_2569 rfl (fun _ => z_goto (tgt := 2908) dW_2574 rfl (z_fgt (i := 6) (z_fgt (i := 7) (kk M2 G2)))) (fun hne => absurd lcmp_0 hne)
set_option maxRecDepth 20000 in
set_option maxHeartbeats 2000000 in
theorem case_50 {b L : Nat} {xs : Nat → Int32} {xt : List ExceptionTableEntry} {nme : String} {x : Int32} {cells slots : Nat} {M : Mm} (G : GL M) (hs : ∀ d : Int32, 0 ≤ d → d < 6 → ¬ (x + d < 0 ∨ L ≤ (x + d).toNatClampNeg)) (hc : cells + 4 ≤ 601024) (hsl : slots + 24 ≤ 7293034) (kk : ∀ M2, GL M2 → Z RL code 10 ret xt nme room_1 (lwQ b L xs) (allR 2) SH (cells + 4) (slots + 24) 2908 (ls0 b x) [] M2) : Z RL code 10 ret xt nme room_1 (lwQ b L xs) (allR 2) SH cells slots 2577 (ls0 b x) [] M := by
  obtain ⟨res, M1, e1, f1, hN⟩ := api_play G (xs (x + 1).toNatClampNeg)
  have he : ∀ e, res = .inr e → e ∈ [1, 0] := by
    obtain ⟨r0, N0, -, -, -, ag0⟩ := hN M1 fr_rf
    exact ag_in (ag_T ag0)
  refine z_aload_n (i := 1) dW_2577 rfl rfl ?_
  refine z_arg (d := 1) dW_2578 dW_2579 dW_2581 dW_2582 dW_2583 rfl rfl rfl (hs 1 (by decide) (by decide)) ?_
  refine z_aload_n (i := 3) dW_2584 rfl rfl ?_
  refine z_callSX (av := [.inr (0, 0, 0), .inl (.int (xs (x + 1).toNatClampNeg)), .inr (21, 0, 0)]) (W_play M (xs (x + 1).toNatClampNeg) e1 he) dW_2585 ml_L_319 cw_L_play rfl ⟨by decide, by decide, hc, hsl⟩ (by decide) rfl (fun v M9 hw => ?_) (fun E M9 h => h.elim)
  obtain ⟨k, hv, hF, hw⟩ := wp_k (by decide) hw
  subst hv
  obtain ⟨r, M2, e2, G2, f2, ag⟩ := hN M9 hF
  have hth := wp_th hw (ag_T ag)
  refine z_istore (i := 6) dW_2588 (by decide) rfl ?_
  refine z_aload_n (i := 2) dW_2590 rfl rfl ?_
  refine z_arg (d := 1) dW_2591 dW_2592 dW_2594 dW_2595 dW_2596 rfl rfl rfl (hs 1 (by decide) (by decide)) ?_
  refine z_fVi (wv := 2) (n := 1) (sX10_play (wv := 1) M9 (xs (x + 1).toNatClampNeg) e2) dW_2597 ml_L_321 cd_X10_play mk18 rfl rfl rfl (rmk_r (by decide) (by decide) hc hsl) rfl rfl ?_
  refine z_istore (i := 7) dW_2600 (by decide) rfl ?_
  refine z_aload_n (i := 2) dW_2602 rfl rfl ?_
  refine z_fVi (wv := 2) (n := 0) (sX10_thrown (wv := 1) M2) dW_2603 ml_L_144 cd_X10_thrown mk18 rfl rfl rfl (rmk_r (by decide) (by decide) hc hsl) rfl rfl ?_
  refine z_iload (i := 6) dW_2606 rfl ?_
  refine z_icmp_eq (tgt := 2613) dW_2608 rfl (fun _ => ?_) (fun hne => absurd hth hne)
  refine z_iload (i := 6) dW_2613 rfl ?_
  refine z_if_ne (tgt := 2630) dW_2615 rfl (fun _ => z_goto (tgt := 2908) dW_2630 rfl (z_fgt (i := 6) (z_fgt (i := 7) (kk M2 G2)))) (fun h0 => ?_)
  obtain ⟨hval, hres⟩ := wp_val hw (ag_T ag) h0 rfl f2
  refine z_aload_n (i := 3) dW_2618 rfl rfl ?_
  refine z_iconst (v := (0 : Int32)) dW_2619 (by decide) ?_
  refine z_lald dW_2620 mk21 rfl (by decide) hval ?_
  refine z_iload (i := 7) dW_2621 rfl ?_
  refine z_i2l dW_2623 ?_
  refine z_lcmp dW_2624 ?_
  exact z_if_eq (tgt := 2630) dW_2625 rfl (fun _ => z_goto (tgt := 2908) dW_2630 rfl (z_fgt (i := 6) (z_fgt (i := 7) (kk M2 G2)))) (fun hne => absurd lcmp_0 hne)
set_option maxRecDepth 20000 in
set_option maxHeartbeats 2000000 in
theorem case_51 {b L : Nat} {xs : Nat → Int32} {xt : List ExceptionTableEntry} {nme : String} {x : Int32} {cells slots : Nat} {M : Mm} (G : GL M) (hs : ∀ d : Int32, 0 ≤ d → d < 6 → ¬ (x + d < 0 ∨ L ≤ (x + d).toNatClampNeg)) (hc : cells + 4 ≤ 601024) (hsl : slots + 24 ≤ 7293034) (kk : ∀ M2, GL M2 → Z RL code 10 ret xt nme room_1 (lwQ b L xs) (allR 2) SH (cells + 4) (slots + 24) 2908 (ls0 b x) [] M2) : Z RL code 10 ret xt nme room_1 (lwQ b L xs) (allR 2) SH cells slots 2633 (ls0 b x) [] M := by
  obtain ⟨res, M1, e1, f1, hN⟩ := api_writePins G (xs (x + 1).toNatClampNeg) (xs (x + 2).toNatClampNeg)
  have he : ∀ e, res = .inr e → e ∈ [2] := by
    obtain ⟨r0, N0, -, -, -, ag0⟩ := hN M1 fr_rf
    exact ag_in (ag_T ag0)
  refine z_aload_n (i := 1) dW_2633 rfl rfl ?_
  refine z_arg (d := 1) dW_2634 dW_2635 dW_2637 dW_2638 dW_2639 rfl rfl rfl (hs 1 (by decide) (by decide)) ?_
  refine z_arg (d := 2) dW_2640 dW_2641 dW_2643 dW_2644 dW_2645 rfl rfl rfl (hs 2 (by decide) (by decide)) ?_
  refine z_aload_n (i := 3) dW_2646 rfl rfl ?_
  refine z_callSX (av := [.inr (0, 0, 0), .inl (.int (xs (x + 1).toNatClampNeg)), .inl (.int (xs (x + 2).toNatClampNeg)), .inr (21, 0, 0)]) (W_writePins M (xs (x + 1).toNatClampNeg) (xs (x + 2).toNatClampNeg) e1 he) dW_2647 ml_L_322 cw_L_writePins rfl ⟨by decide, by decide, hc, hsl⟩ (by decide) rfl (fun v M9 hw => ?_) (fun E M9 h => h.elim)
  obtain ⟨k, hv, hF, hw⟩ := wp_k (by decide) hw
  subst hv
  obtain ⟨r, M2, e2, G2, f2, ag⟩ := hN M9 hF
  have hth := wp_th hw (ag_T ag)
  refine z_istore (i := 6) dW_2650 (by decide) rfl ?_
  refine z_aload_n (i := 2) dW_2652 rfl rfl ?_
  refine z_arg (d := 1) dW_2653 dW_2654 dW_2656 dW_2657 dW_2658 rfl rfl rfl (hs 1 (by decide) (by decide)) ?_
  refine z_arg (d := 2) dW_2659 dW_2660 dW_2662 dW_2663 dW_2664 rfl rfl rfl (hs 2 (by decide) (by decide)) ?_
  refine z_fVi (wv := 2) (n := 2) (sX10_writePins (wv := 1) M9 (xs (x + 1).toNatClampNeg) (xs (x + 2).toNatClampNeg) e2) dW_2665 ml_L_324 cd_X10_writePins mk18 rfl rfl rfl (rmk_r (by decide) (by decide) hc hsl) rfl rfl ?_
  refine z_istore (i := 7) dW_2668 (by decide) rfl ?_
  refine z_aload_n (i := 2) dW_2670 rfl rfl ?_
  refine z_fVi (wv := 2) (n := 0) (sX10_thrown (wv := 1) M2) dW_2671 ml_L_144 cd_X10_thrown mk18 rfl rfl rfl (rmk_r (by decide) (by decide) hc hsl) rfl rfl ?_
  refine z_iload (i := 6) dW_2674 rfl ?_
  refine z_icmp_eq (tgt := 2681) dW_2676 rfl (fun _ => ?_) (fun hne => absurd hth hne)
  refine z_iload (i := 6) dW_2681 rfl ?_
  refine z_if_ne (tgt := 2698) dW_2683 rfl (fun _ => z_goto (tgt := 2908) dW_2698 rfl (z_fgt (i := 6) (z_fgt (i := 7) (kk M2 G2)))) (fun h0 => ?_)
  obtain ⟨hval, hres⟩ := wp_val hw (ag_T ag) h0 rfl f2
  refine z_aload_n (i := 3) dW_2686 rfl rfl ?_
  refine z_iconst (v := (0 : Int32)) dW_2687 (by decide) ?_
  refine z_lald dW_2688 mk21 rfl (by decide) hval ?_
  refine z_iload (i := 7) dW_2689 rfl ?_
  refine z_i2l dW_2691 ?_
  refine z_lcmp dW_2692 ?_
  exact z_if_eq (tgt := 2698) dW_2693 rfl (fun _ => z_goto (tgt := 2908) dW_2698 rfl (z_fgt (i := 6) (z_fgt (i := 7) (kk M2 G2)))) (fun hne => absurd lcmp_0 hne)
set_option maxRecDepth 20000 in
set_option maxHeartbeats 2000000 in
theorem case_52 {b L : Nat} {xs : Nat → Int32} {xt : List ExceptionTableEntry} {nme : String} {x : Int32} {cells slots : Nat} {M : Mm} (G : GL M) (hs : ∀ d : Int32, 0 ≤ d → d < 6 → ¬ (x + d < 0 ∨ L ≤ (x + d).toNatClampNeg)) (hc : cells + 4 ≤ 601024) (hsl : slots + 24 ≤ 7293034) (kk : ∀ M2, GL M2 → Z RL code 10 ret xt nme room_1 (lwQ b L xs) (allR 2) SH (cells + 4) (slots + 24) 2908 (ls0 b x) [] M2) : Z RL code 10 ret xt nme room_1 (lwQ b L xs) (allR 2) SH cells slots 2701 (ls0 b x) [] M := by
  obtain ⟨v, M1, M2, e1, f1, e2, G2, f2⟩ := api_writeComb G
  refine z_aload_n (i := 1) dW_2701 rfl rfl ?_
  refine z_fVi (wv := 2) (n := 0) (sX9_writeComb (wv := 2) M e1) dW_2702 ml_L_325 cd_X9_writeComb mk0 rfl rfl rfl (rmk_r (by decide) (by decide) (by omega) (by omega)) rfl rfl ?_
  refine z_aload_n (i := 2) dW_2705 rfl rfl ?_
  refine z_fVi (wv := 2) (n := 0) (sX10_writeComb (wv := 1) M1 e2) dW_2706 ml_L_328 cd_X10_writeComb mk18 rfl rfl rfl (rmk_r (by decide) (by decide) (by omega) (by omega)) rfl rfl ?_
  exact z_icmp_eq (tgt := 2908) dW_2709 rfl (fun _ => z_wid (by omega) (by omega) (kk M2 G2)) (fun hne => absurd rfl hne)
set_option maxRecDepth 20000 in
set_option maxHeartbeats 2000000 in
theorem case_53 {b L : Nat} {xs : Nat → Int32} {xt : List ExceptionTableEntry} {nme : String} {x : Int32} {cells slots : Nat} {M : Mm} (G : GL M) (hs : ∀ d : Int32, 0 ≤ d → d < 6 → ¬ (x + d < 0 ∨ L ≤ (x + d).toNatClampNeg)) (hc : cells + 4 ≤ 601024) (hsl : slots + 24 ≤ 7293034) (kk : ∀ M2, GL M2 → Z RL code 10 ret xt nme room_1 (lwQ b L xs) (allR 2) SH (cells + 4) (slots + 24) 2908 (ls0 b x) [] M2) : Z RL code 10 ret xt nme room_1 (lwQ b L xs) (allR 2) SH cells slots 2714 (ls0 b x) [] M := by
  obtain ⟨v, M1, M2, e1, f1, e2, G2, f2⟩ := api_outputByte G (xs (x + 1).toNatClampNeg)
  obtain ⟨q, hq, e⟩ := mp_some e1
  cases e
  refine z_aload_n (i := 1) dW_2714 rfl rfl ?_
  refine z_arg (d := 1) dW_2715 dW_2716 dW_2718 dW_2719 dW_2720 rfl rfl rfl (hs 1 (by decide) (by decide)) ?_
  refine z_fVi (wv := 2) (n := 1) (sX9_outputByte (wv := 2) M (xs (x + 1).toNatClampNeg) hq) dW_2721 ml_L_329 cd_X9_outputByte mk0 rfl rfl rfl (rmk_r (by decide) (by decide) (by omega) (by omega)) rfl rfl ?_
  refine z_aload_n (i := 2) dW_2724 rfl rfl ?_
  refine z_arg (d := 1) dW_2725 dW_2726 dW_2728 dW_2729 dW_2730 rfl rfl rfl (hs 1 (by decide) (by decide)) ?_
  refine z_fVi (wv := 2) (n := 1) (sX10_outputByte (wv := 1) M (xs (x + 1).toNatClampNeg) e2) dW_2731 ml_L_332 cd_X10_outputByte mk18 rfl rfl rfl (rmk_r (by decide) (by decide) (by omega) (by omega)) rfl rfl ?_
  exact z_icmp_eq (tgt := 2908) dW_2734 rfl (fun _ => z_wid (by omega) (by omega) (kk M2 G2)) (fun hne => absurd rfl hne)
set_option maxRecDepth 20000 in
set_option maxHeartbeats 2000000 in
theorem case_54 {b L : Nat} {xs : Nat → Int32} {xt : List ExceptionTableEntry} {nme : String} {x : Int32} {cells slots : Nat} {M : Mm} (G : GL M) (hs : ∀ d : Int32, 0 ≤ d → d < 6 → ¬ (x + d < 0 ∨ L ≤ (x + d).toNatClampNeg)) (hc : cells + 4 ≤ 601024) (hsl : slots + 24 ≤ 7293034) (kk : ∀ M2, GL M2 → Z RL code 10 ret xt nme room_1 (lwQ b L xs) (allR 2) SH (cells + 4) (slots + 24) 2908 (ls0 b x) [] M2) : Z RL code 10 ret xt nme room_1 (lwQ b L xs) (allR 2) SH cells slots 2739 (ls0 b x) [] M := by
  obtain ⟨v, M1, M2, e1, f1, e2, G2, f2⟩ := api_undoCount G
  cases e1
  refine z_aload_n (i := 1) dW_2739 rfl rfl ?_
  refine z_fVi (wv := 2) (n := 0) (sX9_undoCount (wv := 2) M) dW_2740 ml_L_333 cd_X9_undoCount mk0 rfl rfl rfl (rmk_r (by decide) (by decide) (by omega) (by omega)) rfl rfl ?_
  refine z_aload_n (i := 2) dW_2743 rfl rfl ?_
  refine z_fVi (wv := 2) (n := 0) (sX10_undoCount (wv := 1) M e2) dW_2744 ml_L_336 cd_X10_undoCount mk18 rfl rfl rfl (rmk_r (by decide) (by decide) (by omega) (by omega)) rfl rfl ?_
  exact z_icmp_eq (tgt := 2908) dW_2747 rfl (fun _ => z_wid (by omega) (by omega) (kk M2 G2)) (fun hne => absurd rfl hne)
set_option maxRecDepth 20000 in
set_option maxHeartbeats 2000000 in
theorem case_55 {b L : Nat} {xs : Nat → Int32} {xt : List ExceptionTableEntry} {nme : String} {x : Int32} {cells slots : Nat} {M : Mm} (G : GL M) (hs : ∀ d : Int32, 0 ≤ d → d < 6 → ¬ (x + d < 0 ∨ L ≤ (x + d).toNatClampNeg)) (hc : cells + 4 ≤ 601024) (hsl : slots + 24 ≤ 7293034) (kk : ∀ M2, GL M2 → Z RL code 10 ret xt nme room_1 (lwQ b L xs) (allR 2) SH (cells + 4) (slots + 24) 2908 (ls0 b x) [] M2) : Z RL code 10 ret xt nme room_1 (lwQ b L xs) (allR 2) SH cells slots 2752 (ls0 b x) [] M := by
  obtain ⟨res, M1, e1, f1, hN⟩ := api_undo G
  have he : ∀ e, res = .inr e → e ∈ [0] := by
    obtain ⟨r0, N0, -, -, -, ag0⟩ := hN M1 fr_rf
    exact ag_in (ag_T ag0)
  refine z_aload_n (i := 1) dW_2752 rfl rfl ?_
  refine z_aload_n (i := 3) dW_2753 rfl rfl ?_
  refine z_callSX (av := [.inr (0, 0, 0), .inr (21, 0, 0)]) (W_undo M e1 he) dW_2754 ml_L_337 cw_L_undo rfl ⟨by decide, by decide, hc, hsl⟩ (by decide) rfl (fun v M9 hw => ?_) (fun E M9 h => h.elim)
  obtain ⟨k, hv, hF, hw⟩ := wp_k (by decide) hw
  subst hv
  obtain ⟨r, M2, e2, G2, f2, ag⟩ := hN M9 hF
  have hth := wp_th hw (ag_T ag)
  refine z_istore (i := 6) dW_2757 (by decide) rfl ?_
  refine z_aload_n (i := 2) dW_2759 rfl rfl ?_
  refine z_fVi (wv := 2) (n := 0) (sX10_undo (wv := 1) M9 e2) dW_2760 ml_L_340 cd_X10_undo mk18 rfl rfl rfl (rmk_r (by decide) (by decide) hc hsl) rfl rfl ?_
  refine z_istore (i := 7) dW_2763 (by decide) rfl ?_
  refine z_aload_n (i := 2) dW_2765 rfl rfl ?_
  refine z_fVi (wv := 2) (n := 0) (sX10_thrown (wv := 1) M2) dW_2766 ml_L_144 cd_X10_thrown mk18 rfl rfl rfl (rmk_r (by decide) (by decide) hc hsl) rfl rfl ?_
  refine z_iload (i := 6) dW_2769 rfl ?_
  refine z_icmp_eq (tgt := 2776) dW_2771 rfl (fun _ => ?_) (fun hne => absurd hth hne)
  refine z_iload (i := 6) dW_2776 rfl ?_
  refine z_if_ne (tgt := 2793) dW_2778 rfl (fun _ => z_goto (tgt := 2908) dW_2793 rfl (z_fgt (i := 6) (z_fgt (i := 7) (kk M2 G2)))) (fun h0 => ?_)
  obtain ⟨hval, hres⟩ := wp_val hw (ag_T ag) h0 rfl f2
  refine z_aload_n (i := 3) dW_2781 rfl rfl ?_
  refine z_iconst (v := (0 : Int32)) dW_2782 (by decide) ?_
  refine z_lald dW_2783 mk21 rfl (by decide) hval ?_
  refine z_iload (i := 7) dW_2784 rfl ?_
  refine z_i2l dW_2786 ?_
  refine z_lcmp dW_2787 ?_
  exact z_if_eq (tgt := 2793) dW_2788 rfl (fun _ => z_goto (tgt := 2908) dW_2793 rfl (z_fgt (i := 6) (z_fgt (i := 7) (kk M2 G2)))) (fun hne => absurd lcmp_0 hne)
set_option maxRecDepth 20000 in
set_option maxHeartbeats 2000000 in
theorem case_56 {b L : Nat} {xs : Nat → Int32} {xt : List ExceptionTableEntry} {nme : String} {x : Int32} {cells slots : Nat} {M : Mm} (G : GL M) (hs : ∀ d : Int32, 0 ≤ d → d < 6 → ¬ (x + d < 0 ∨ L ≤ (x + d).toNatClampNeg)) (hc : cells + 4 ≤ 601024) (hsl : slots + 24 ≤ 7293034) (kk : ∀ M2, GL M2 → Z RL code 10 ret xt nme room_1 (lwQ b L xs) (allR 2) SH (cells + 4) (slots + 24) 2908 (ls0 b x) [] M2) : Z RL code 10 ret xt nme room_1 (lwQ b L xs) (allR 2) SH cells slots 2796 (ls0 b x) [] M := by
  obtain ⟨res, M1, e1, f1, hN⟩ := api_save G (xs (x + 1).toNatClampNeg)
  have he : ∀ e, res = .inr e → e ∈ [2] := by
    obtain ⟨r0, N0, -, -, -, ag0⟩ := hN M1 fr_rf
    exact ag_in (ag_T ag0)
  refine z_aload_n (i := 1) dW_2796 rfl rfl ?_
  refine z_arg (d := 1) dW_2797 dW_2798 dW_2800 dW_2801 dW_2802 rfl rfl rfl (hs 1 (by decide) (by decide)) ?_
  refine z_aload_n (i := 3) dW_2803 rfl rfl ?_
  refine z_callSX (av := [.inr (0, 0, 0), .inl (.int (xs (x + 1).toNatClampNeg)), .inr (21, 0, 0)]) (W_save M (xs (x + 1).toNatClampNeg) e1 he) dW_2804 ml_L_341 cw_L_save rfl ⟨by decide, by decide, hc, hsl⟩ (by decide) rfl (fun v M9 hw => ?_) (fun E M9 h => h.elim)
  obtain ⟨k, hv, hF, hw⟩ := wp_k (by decide) hw
  subst hv
  obtain ⟨r, M2, e2, G2, f2, ag⟩ := hN M9 hF
  have hth := wp_th hw (ag_T ag)
  refine z_istore (i := 6) dW_2807 (by decide) rfl ?_
  refine z_aload_n (i := 2) dW_2809 rfl rfl ?_
  refine z_arg (d := 1) dW_2810 dW_2811 dW_2813 dW_2814 dW_2815 rfl rfl rfl (hs 1 (by decide) (by decide)) ?_
  refine z_fVi (wv := 2) (n := 1) (sX10_save (wv := 1) M9 (xs (x + 1).toNatClampNeg) e2) dW_2816 ml_L_343 cd_X10_save mk18 rfl rfl rfl (rmk_r (by decide) (by decide) hc hsl) rfl rfl ?_
  refine z_istore (i := 7) dW_2819 (by decide) rfl ?_
  refine z_aload_n (i := 2) dW_2821 rfl rfl ?_
  refine z_fVi (wv := 2) (n := 0) (sX10_thrown (wv := 1) M2) dW_2822 ml_L_144 cd_X10_thrown mk18 rfl rfl rfl (rmk_r (by decide) (by decide) hc hsl) rfl rfl ?_
  refine z_iload (i := 6) dW_2825 rfl ?_
  refine z_icmp_eq (tgt := 2832) dW_2827 rfl (fun _ => ?_) (fun hne => absurd hth hne)
  refine z_iload (i := 6) dW_2832 rfl ?_
  refine z_if_ne (tgt := 2849) dW_2834 rfl (fun _ => z_goto (tgt := 2908) dW_2849 rfl (z_fgt (i := 6) (z_fgt (i := 7) (kk M2 G2)))) (fun h0 => ?_)
  obtain ⟨hval, hres⟩ := wp_val hw (ag_T ag) h0 rfl f2
  refine z_aload_n (i := 3) dW_2837 rfl rfl ?_
  refine z_iconst (v := (0 : Int32)) dW_2838 (by decide) ?_
  refine z_lald dW_2839 mk21 rfl (by decide) hval ?_
  refine z_iload (i := 7) dW_2840 rfl ?_
  refine z_i2l dW_2842 ?_
  refine z_lcmp dW_2843 ?_
  exact z_if_eq (tgt := 2849) dW_2844 rfl (fun _ => z_goto (tgt := 2908) dW_2849 rfl (z_fgt (i := 6) (z_fgt (i := 7) (kk M2 G2)))) (fun hne => absurd lcmp_0 hne)
set_option maxRecDepth 20000 in
set_option maxHeartbeats 2000000 in
theorem case_57 {b L : Nat} {xs : Nat → Int32} {xt : List ExceptionTableEntry} {nme : String} {x : Int32} {cells slots : Nat} {M : Mm} (G : GL M) (hs : ∀ d : Int32, 0 ≤ d → d < 6 → ¬ (x + d < 0 ∨ L ≤ (x + d).toNatClampNeg)) (hc : cells + 4 ≤ 601024) (hsl : slots + 24 ≤ 7293034) (kk : ∀ M2, GL M2 → Z RL code 10 ret xt nme room_1 (lwQ b L xs) (allR 2) SH (cells + 4) (slots + 24) 2908 (ls0 b x) [] M2) : Z RL code 10 ret xt nme room_1 (lwQ b L xs) (allR 2) SH cells slots 2852 (ls0 b x) [] M := by
  obtain ⟨res, M1, e1, f1, hN⟩ := api_restore G (xs (x + 1).toNatClampNeg)
  have he : ∀ e, res = .inr e → e ∈ [2, 3] := by
    obtain ⟨r0, N0, -, -, -, ag0⟩ := hN M1 fr_rf
    exact ag_in (ag_T ag0)
  refine z_aload_n (i := 1) dW_2852 rfl rfl ?_
  refine z_arg (d := 1) dW_2853 dW_2854 dW_2856 dW_2857 dW_2858 rfl rfl rfl (hs 1 (by decide) (by decide)) ?_
  refine z_aload_n (i := 3) dW_2859 rfl rfl ?_
  refine z_callSX (av := [.inr (0, 0, 0), .inl (.int (xs (x + 1).toNatClampNeg)), .inr (21, 0, 0)]) (W_restore M (xs (x + 1).toNatClampNeg) e1 he) dW_2860 ml_L_344 cw_L_restore rfl ⟨by decide, by decide, hc, hsl⟩ (by decide) rfl (fun v M9 hw => ?_) (fun E M9 h => h.elim)
  obtain ⟨k, hv, hF, hw⟩ := wp_k (by decide) hw
  subst hv
  obtain ⟨r, M2, e2, G2, f2, ag⟩ := hN M9 hF
  have hth := wp_th hw (ag_T ag)
  refine z_istore (i := 6) dW_2863 (by decide) rfl ?_
  refine z_aload_n (i := 2) dW_2865 rfl rfl ?_
  refine z_arg (d := 1) dW_2866 dW_2867 dW_2869 dW_2870 dW_2871 rfl rfl rfl (hs 1 (by decide) (by decide)) ?_
  refine z_fVi (wv := 2) (n := 1) (sX10_restore (wv := 1) M9 (xs (x + 1).toNatClampNeg) e2) dW_2872 ml_L_346 cd_X10_restore mk18 rfl rfl rfl (rmk_r (by decide) (by decide) hc hsl) rfl rfl ?_
  refine z_istore (i := 7) dW_2875 (by decide) rfl ?_
  refine z_aload_n (i := 2) dW_2877 rfl rfl ?_
  refine z_fVi (wv := 2) (n := 0) (sX10_thrown (wv := 1) M2) dW_2878 ml_L_144 cd_X10_thrown mk18 rfl rfl rfl (rmk_r (by decide) (by decide) hc hsl) rfl rfl ?_
  refine z_iload (i := 6) dW_2881 rfl ?_
  refine z_icmp_eq (tgt := 2888) dW_2883 rfl (fun _ => ?_) (fun hne => absurd hth hne)
  refine z_iload (i := 6) dW_2888 rfl ?_
  refine z_if_ne (tgt := 2905) dW_2890 rfl (fun _ => z_goto (tgt := 2908) dW_2905 rfl (z_fgt (i := 6) (z_fgt (i := 7) (kk M2 G2)))) (fun h0 => ?_)
  obtain ⟨hval, hres⟩ := wp_val hw (ag_T ag) h0 rfl f2
  refine z_aload_n (i := 3) dW_2893 rfl rfl ?_
  refine z_iconst (v := (0 : Int32)) dW_2894 (by decide) ?_
  refine z_lald dW_2895 mk21 rfl (by decide) hval ?_
  refine z_iload (i := 7) dW_2896 rfl ?_
  refine z_i2l dW_2898 ?_
  refine z_lcmp dW_2899 ?_
  exact z_if_eq (tgt := 2905) dW_2900 rfl (fun _ => z_goto (tgt := 2908) dW_2905 rfl (z_fgt (i := 6) (z_fgt (i := 7) (kk M2 G2)))) (fun hne => absurd lcmp_0 hne)
