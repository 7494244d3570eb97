/-! the law's cases, 0 -/
theorem mp_some {α β : Type} {o : Option α} {f : α → β} {b : β} (h : o.map f = some b) : ∃ a, o = some a ∧ f a = b := by
  cases o with
  | none => cases h
  | some a => exact ⟨a, rfl, Option.some.inj h⟩
set_option maxRecDepth 20000 in
set_option maxHeartbeats 2000000 in
theorem case_0 {b L : Nat} {xs : Nat → Int32} {xt : List ExceptionTableEntry} {nme : String} {x : Int32} {cells slots : Nat} {M : Mm} (G : GL M) (hs : ∀ d : Int32, 0 ≤ d → d < 6 → ¬ (x + d < 0 ∨ L ≤ (x + d).toNatClampNeg)) (hc : cells + 4 ≤ 601024) (hsl : slots + 24 ≤ 7293034) (kk : ∀ M2, GL M2 → Z RL code 10 ret xt nme room_1 (lwQ b L xs) (allR 2) SH (cells + 4) (slots + 24) 2908 (ls0 b x) [] M2) : Z RL code 10 ret xt nme room_1 (lwQ b L xs) (allR 2) SH cells slots 292 (ls0 b x) [] M := by
  obtain ⟨res, M1, e1, f1, hN⟩ := api_append G (xs (x + 1).toNatClampNeg) (xs (x + 2).toNatClampNeg) (xs (x + 3).toNatClampNeg) (xs (x + 4).toNatClampNeg) (xs (x + 5).toNatClampNeg)
  have he : ∀ e, res = .inr e → e ∈ [0] := by
    obtain ⟨r0, N0, -, -, -, ag0⟩ := hN M1 fr_rf
    exact ag_in (ag_T ag0)
  refine z_aload_n (i := 1) dW_292 rfl rfl ?_
  refine z_arg (d := 1) dW_293 dW_294 dW_296 dW_297 dW_298 rfl rfl rfl (hs 1 (by decide) (by decide)) ?_
  refine z_arg (d := 2) dW_299 dW_300 dW_302 dW_303 dW_304 rfl rfl rfl (hs 2 (by decide) (by decide)) ?_
  refine z_arg (d := 3) dW_305 dW_306 dW_308 dW_309 dW_310 rfl rfl rfl (hs 3 (by decide) (by decide)) ?_
  refine z_arg (d := 4) dW_311 dW_312 dW_314 dW_315 dW_316 rfl rfl rfl (hs 4 (by decide) (by decide)) ?_
  refine z_arg (d := 5) dW_317 dW_318 dW_320 dW_321 dW_322 rfl rfl rfl (hs 5 (by decide) (by decide)) ?_
  refine z_aload_n (i := 3) dW_323 rfl rfl ?_
  refine z_callSX (av := [.inr (0, 0, 0), .inl (.int (xs (x + 1).toNatClampNeg)), .inl (.int (xs (x + 2).toNatClampNeg)), .inl (.int (xs (x + 3).toNatClampNeg)), .inl (.int (xs (x + 4).toNatClampNeg)), .inl (.int (xs (x + 5).toNatClampNeg)), .inr (21, 0, 0)]) (W_append M (xs (x + 1).toNatClampNeg) (xs (x + 2).toNatClampNeg) (xs (x + 3).toNatClampNeg) (xs (x + 4).toNatClampNeg) (xs (x + 5).toNatClampNeg) e1 he) dW_324 ml_L_138 cw_L_append rfl ⟨by decide, by decide, hc, hsl⟩ (by decide) rfl (fun v M9 hw => ?_) (fun E M9 h => h.elim)
  obtain ⟨k, hv, hF, hw⟩ := wp_k (by decide) hw
  subst hv
  obtain ⟨r, M2, e2, G2, f2, ag⟩ := hN M9 hF
  have hth := wp_th hw (ag_T ag)
  refine z_istore (i := 6) dW_327 (by decide) rfl ?_
  refine z_aload_n (i := 2) dW_329 rfl rfl ?_
  refine z_arg (d := 1) dW_330 dW_331 dW_333 dW_334 dW_335 rfl rfl rfl (hs 1 (by decide) (by decide)) ?_
  refine z_arg (d := 2) dW_336 dW_337 dW_339 dW_340 dW_341 rfl rfl rfl (hs 2 (by decide) (by decide)) ?_
  refine z_arg (d := 3) dW_342 dW_343 dW_345 dW_346 dW_347 rfl rfl rfl (hs 3 (by decide) (by decide)) ?_
  refine z_arg (d := 4) dW_348 dW_349 dW_351 dW_352 dW_353 rfl rfl rfl (hs 4 (by decide) (by decide)) ?_
  refine z_arg (d := 5) dW_354 dW_355 dW_357 dW_358 dW_359 rfl rfl rfl (hs 5 (by decide) (by decide)) ?_
  refine z_fVi (wv := 2) (n := 5) (sX10_append (wv := 1) M9 (xs (x + 1).toNatClampNeg) (xs (x + 2).toNatClampNeg) (xs (x + 3).toNatClampNeg) (xs (x + 4).toNatClampNeg) (xs (x + 5).toNatClampNeg) e2) dW_360 ml_L_143 cd_X10_append mk18 rfl rfl rfl (rmk_r (by decide) (by decide) hc hsl) rfl rfl ?_
  refine z_istore (i := 7) dW_363 (by decide) rfl ?_
  refine z_aload_n (i := 2) dW_365 rfl rfl ?_
  refine z_fVi (wv := 2) (n := 0) (sX10_thrown (wv := 1) M2) dW_366 ml_L_144 cd_X10_thrown mk18 rfl rfl rfl (rmk_r (by decide) (by decide) hc hsl) rfl rfl ?_
  refine z_iload (i := 6) dW_369 rfl ?_
  refine z_icmp_eq (tgt := 376) dW_371 rfl (fun _ => ?_) (fun hne => absurd hth hne)
  refine z_iload (i := 6) dW_376 rfl ?_
  refine z_if_ne (tgt := 393) dW_378 rfl (fun _ => z_goto (tgt := 2908) dW_393 rfl (z_fgt (i := 6) (z_fgt (i := 7) (kk M2 G2)))) (fun h0 => ?_)
  obtain ⟨hval, hres⟩ := wp_val hw (ag_T ag) h0 rfl f2
  refine z_aload_n (i := 3) dW_381 rfl rfl ?_
  refine z_iconst (v := (0 : Int32)) dW_382 (by decide) ?_
  refine z_lald dW_383 mk21 rfl (by decide) hval ?_
  refine z_iload (i := 7) dW_384 rfl ?_
  refine z_i2l dW_386 ?_
  refine z_lcmp dW_387 ?_
  exact z_if_eq (tgt := 393) dW_388 rfl (fun _ => z_goto (tgt := 2908) dW_393 rfl (z_fgt (i := 6) (z_fgt (i := 7) (kk M2 G2)))) (fun hne => absurd lcmp_0 hne)
set_option maxRecDepth 20000 in
set_option maxHeartbeats 2000000 in
theorem case_1 {b L : Nat} {xs : Nat → Int32} {xt : List ExceptionTableEntry} {nme : String} {x : Int32} {cells slots : Nat} {M : Mm} (G : GL M) (hs : ∀ d : Int32, 0 ≤ d → d < 6 → ¬ (x + d < 0 ∨ L ≤ (x + d).toNatClampNeg)) (hc : cells + 4 ≤ 601024) (hsl : slots + 24 ≤ 7293034) (kk : ∀ M2, GL M2 → Z RL code 10 ret xt nme room_1 (lwQ b L xs) (allR 2) SH (cells + 4) (slots + 24) 2908 (ls0 b x) [] M2) : Z RL code 10 ret xt nme room_1 (lwQ b L xs) (allR 2) SH cells slots 396 (ls0 b x) [] M := by
  obtain ⟨res, M1, e1, f1, hN⟩ := api_truncate G (xs (x + 1).toNatClampNeg)
  have he : ∀ e, res = .inr e → e ∈ [1] := by
    obtain ⟨r0, N0, -, -, -, ag0⟩ := hN M1 fr_rf
    exact ag_in (ag_T ag0)
  refine z_aload_n (i := 1) dW_396 rfl rfl ?_
  refine z_arg (d := 1) dW_397 dW_398 dW_400 dW_401 dW_402 rfl rfl rfl (hs 1 (by decide) (by decide)) ?_
  refine z_aload_n (i := 3) dW_403 rfl rfl ?_
  refine z_callSX (av := [.inr (0, 0, 0), .inl (.int (xs (x + 1).toNatClampNeg)), .inr (21, 0, 0)]) (W_truncate M (xs (x + 1).toNatClampNeg) e1 he) dW_404 ml_L_147 cw_L_truncate rfl ⟨by decide, by decide, hc, hsl⟩ (by decide) rfl (fun v M9 hw => ?_) (fun E M9 h => h.elim)
  obtain ⟨k, hv, hF, hw⟩ := wp_k (by decide) hw
  subst hv
  obtain ⟨r, M2, e2, G2, f2, ag⟩ := hN M9 hF
  have hth := wp_th hw (ag_T ag)
  refine z_istore (i := 6) dW_407 (by decide) rfl ?_
  refine z_aload_n (i := 2) dW_409 rfl rfl ?_
  refine z_arg (d := 1) dW_410 dW_411 dW_413 dW_414 dW_415 rfl rfl rfl (hs 1 (by decide) (by decide)) ?_
  refine z_fVi (wv := 2) (n := 1) (sX10_truncate (wv := 1) M9 (xs (x + 1).toNatClampNeg) e2) dW_416 ml_L_150 cd_X10_truncate mk18 rfl rfl rfl (rmk_r (by decide) (by decide) hc hsl) rfl rfl ?_
  refine z_istore (i := 7) dW_419 (by decide) rfl ?_
  refine z_aload_n (i := 2) dW_421 rfl rfl ?_
  refine z_fVi (wv := 2) (n := 0) (sX10_thrown (wv := 1) M2) dW_422 ml_L_144 cd_X10_thrown mk18 rfl rfl rfl (rmk_r (by decide) (by decide) hc hsl) rfl rfl ?_
  refine z_iload (i := 6) dW_425 rfl ?_
  refine z_icmp_eq (tgt := 432) dW_427 rfl (fun _ => ?_) (fun hne => absurd hth hne)
  refine z_iload (i := 6) dW_432 rfl ?_
  refine z_if_ne (tgt := 449) dW_434 rfl (fun _ => z_goto (tgt := 2908) dW_449 rfl (z_fgt (i := 6) (z_fgt (i := 7) (kk M2 G2)))) (fun h0 => ?_)
  obtain ⟨hval, hres⟩ := wp_val hw (ag_T ag) h0 rfl f2
  refine z_aload_n (i := 3) dW_437 rfl rfl ?_
  refine z_iconst (v := (0 : Int32)) dW_438 (by decide) ?_
  refine z_lald dW_439 mk21 rfl (by decide) hval ?_
  refine z_iload (i := 7) dW_440 rfl ?_
  refine z_i2l dW_442 ?_
  refine z_lcmp dW_443 ?_
  exact z_if_eq (tgt := 449) dW_444 rfl (fun _ => z_goto (tgt := 2908) dW_449 rfl (z_fgt (i := 6) (z_fgt (i := 7) (kk M2 G2)))) (fun hne => absurd lcmp_0 hne)
set_option maxRecDepth 20000 in
set_option maxHeartbeats 2000000 in
theorem case_2 {b L : Nat} {xs : Nat → Int32} {xt : List ExceptionTableEntry} {nme : String} {x : Int32} {cells slots : Nat} {M : Mm} (G : GL M) (hs : ∀ d : Int32, 0 ≤ d → d < 6 → ¬ (x + d < 0 ∨ L ≤ (x + d).toNatClampNeg)) (hc : cells + 4 ≤ 601024) (hsl : slots + 24 ≤ 7293034) (kk : ∀ M2, GL M2 → Z RL code 10 ret xt nme room_1 (lwQ b L xs) (allR 2) SH (cells + 4) (slots + 24) 2908 (ls0 b x) [] M2) : Z RL code 10 ret xt nme room_1 (lwQ b L xs) (allR 2) SH cells slots 452 (ls0 b x) [] M := by
  obtain ⟨v, M1, M2, e1, f1, e2, G2, f2⟩ := api_load G
  refine z_aload_n (i := 1) dW_452 rfl rfl ?_
  refine z_fVi (wv := 2) (n := 0) (sX9_load (wv := 2) M e1) dW_453 ml_L_151 cd_X9_load mk0 rfl rfl rfl (rmk_r (by decide) (by decide) (by omega) (by omega)) rfl rfl ?_
  refine z_aload_n (i := 2) dW_456 rfl rfl ?_
  refine z_fVi (wv := 2) (n := 0) (sX10_load (wv := 1) M1 e2) dW_457 ml_L_154 cd_X10_load mk18 rfl rfl rfl (rmk_r (by decide) (by decide) (by omega) (by omega)) rfl rfl ?_
  exact z_icmp_eq (tgt := 2908) dW_460 rfl (fun _ => z_wid (by omega) (by omega) (kk M2 G2)) (fun hne => absurd rfl hne)
set_option maxRecDepth 20000 in
set_option maxHeartbeats 2000000 in
theorem case_3 {b L : Nat} {xs : Nat → Int32} {xt : List ExceptionTableEntry} {nme : String} {x : Int32} {cells slots : Nat} {M : Mm} (G : GL M) (hs : ∀ d : Int32, 0 ≤ d → d < 6 → ¬ (x + d < 0 ∨ L ≤ (x + d).toNatClampNeg)) (hc : cells + 4 ≤ 601024) (hsl : slots + 24 ≤ 7293034) (kk : ∀ M2, GL M2 → Z RL code 10 ret xt nme room_1 (lwQ b L xs) (allR 2) SH (cells + 4) (slots + 24) 2908 (ls0 b x) [] M2) : Z RL code 10 ret xt nme room_1 (lwQ b L xs) (allR 2) SH cells slots 465 (ls0 b x) [] M := by
  obtain ⟨v, M1, M2, e1, f1, e2, G2, f2⟩ := api_runScript G
  refine z_aload_n (i := 1) dW_465 rfl rfl ?_
  refine z_fVi (wv := 2) (n := 0) (sX9_runScript (wv := 2) M e1) dW_466 ml_L_155 cd_X9_runScript mk0 rfl rfl rfl (rmk_r (by decide) (by decide) (by omega) (by omega)) rfl rfl ?_
  refine z_aload_n (i := 2) dW_469 rfl rfl ?_
  refine z_fVi (wv := 2) (n := 0) (sX10_runScript (wv := 1) M1 e2) dW_470 ml_L_158 cd_X10_runScript mk18 rfl rfl rfl (rmk_r (by decide) (by decide) (by omega) (by omega)) rfl rfl ?_
  exact z_icmp_eq (tgt := 2908) dW_473 rfl (fun _ => z_wid (by omega) (by omega) (kk M2 G2)) (fun hne => absurd rfl hne)
set_option maxRecDepth 20000 in
set_option maxHeartbeats 2000000 in
theorem case_4 {b L : Nat} {xs : Nat → Int32} {xt : List ExceptionTableEntry} {nme : String} {x : Int32} {cells slots : Nat} {M : Mm} (G : GL M) (hs : ∀ d : Int32, 0 ≤ d → d < 6 → ¬ (x + d < 0 ∨ L ≤ (x + d).toNatClampNeg)) (hc : cells + 4 ≤ 601024) (hsl : slots + 24 ≤ 7293034) (kk : ∀ M2, GL M2 → Z RL code 10 ret xt nme room_1 (lwQ b L xs) (allR 2) SH (cells + 4) (slots + 24) 2908 (ls0 b x) [] M2) : Z RL code 10 ret xt nme room_1 (lwQ b L xs) (allR 2) SH cells slots 478 (ls0 b x) [] M := by
  obtain ⟨v, M1, M2, e1, f1, e2, G2, f2⟩ := api_errorCode G
  cases e1
  refine z_aload_n (i := 1) dW_478 rfl rfl ?_
  refine z_fVi (wv := 2) (n := 0) (sX9_errorCode (wv := 2) M) dW_479 ml_L_159 cd_X9_errorCode mk0 rfl rfl rfl (rmk_r (by decide) (by decide) (by omega) (by omega)) rfl rfl ?_
  refine z_aload_n (i := 2) dW_482 rfl rfl ?_
  refine z_fVi (wv := 2) (n := 0) (sX10_errorCode (wv := 1) M e2) dW_483 ml_L_162 cd_X10_errorCode mk18 rfl rfl rfl (rmk_r (by decide) (by decide) (by omega) (by omega)) rfl rfl ?_
  exact z_icmp_eq (tgt := 2908) dW_486 rfl (fun _ => z_wid (by omega) (by omega) (kk M2 G2)) (fun hne => absurd rfl hne)
set_option maxRecDepth 20000 in
set_option maxHeartbeats 2000000 in
theorem case_5 {b L : Nat} {xs : Nat → Int32} {xt : List ExceptionTableEntry} {nme : String} {x : Int32} {cells slots : Nat} {M : Mm} (G : GL M) (hs : ∀ d : Int32, 0 ≤ d → d < 6 → ¬ (x + d < 0 ∨ L ≤ (x + d).toNatClampNeg)) (hc : cells + 4 ≤ 601024) (hsl : slots + 24 ≤ 7293034) (kk : ∀ M2, GL M2 → Z RL code 10 ret xt nme room_1 (lwQ b L xs) (allR 2) SH (cells + 4) (slots + 24) 2908 (ls0 b x) [] M2) : Z RL code 10 ret xt nme room_1 (lwQ b L xs) (allR 2) SH cells slots 491 (ls0 b x) [] M := by
  obtain ⟨v, M1, M2, e1, f1, e2, G2, f2⟩ := api_errorPosition G
  cases e1
  refine z_aload_n (i := 1) dW_491 rfl rfl ?_
  refine z_fVi (wv := 2) (n := 0) (sX9_errorPosition (wv := 2) M) dW_492 ml_L_163 cd_X9_errorPosition mk0 rfl rfl rfl (rmk_r (by decide) (by decide) (by omega) (by omega)) rfl rfl ?_
  refine z_aload_n (i := 2) dW_495 rfl rfl ?_
  refine z_fVi (wv := 2) (n := 0) (sX10_errorPosition (wv := 1) M e2) dW_496 ml_L_166 cd_X10_errorPosition mk18 rfl rfl rfl (rmk_r (by decide) (by decide) (by omega) (by omega)) rfl rfl ?_
  exact z_icmp_eq (tgt := 2908) dW_499 rfl (fun _ => z_wid (by omega) (by omega) (kk M2 G2)) (fun hne => absurd rfl hne)
set_option maxRecDepth 20000 in
set_option maxHeartbeats 2000000 in
theorem case_6 {b L : Nat} {xs : Nat → Int32} {xt : List ExceptionTableEntry} {nme : String} {x : Int32} {cells slots : Nat} {M : Mm} (G : GL M) (hs : ∀ d : Int32, 0 ≤ d → d < 6 → ¬ (x + d < 0 ∨ L ≤ (x + d).toNatClampNeg)) (hc : cells + 4 ≤ 601024) (hsl : slots + 24 ≤ 7293034) (kk : ∀ M2, GL M2 → Z RL code 10 ret xt nme room_1 (lwQ b L xs) (allR 2) SH (cells + 4) (slots + 24) 2908 (ls0 b x) [] M2) : Z RL code 10 ret xt nme room_1 (lwQ b L xs) (allR 2) SH cells slots 504 (ls0 b x) [] M := by
  obtain ⟨v, M1, M2, e1, f1, e2, G2, f2⟩ := api_stepCount G
  cases e1
  refine z_aload_n (i := 1) dW_504 rfl rfl ?_
  refine z_fVi (wv := 2) (n := 0) (sX9_stepCount (wv := 2) M) dW_505 ml_L_167 cd_X9_stepCount mk0 rfl rfl rfl (rmk_r (by decide) (by decide) (by omega) (by omega)) rfl rfl ?_
  refine z_aload_n (i := 2) dW_508 rfl rfl ?_
  refine z_fVi (wv := 2) (n := 0) (sX10_stepCount (wv := 1) M e2) dW_509 ml_L_170 cd_X10_stepCount mk18 rfl rfl rfl (rmk_r (by decide) (by decide) (by omega) (by omega)) rfl rfl ?_
  exact z_icmp_eq (tgt := 2908) dW_512 rfl (fun _ => z_wid (by omega) (by omega) (kk M2 G2)) (fun hne => absurd rfl hne)
set_option maxRecDepth 20000 in
set_option maxHeartbeats 2000000 in
theorem case_7 {b L : Nat} {xs : Nat → Int32} {xt : List ExceptionTableEntry} {nme : String} {x : Int32} {cells slots : Nat} {M : Mm} (G : GL M) (hs : ∀ d : Int32, 0 ≤ d → d < 6 → ¬ (x + d < 0 ∨ L ≤ (x + d).toNatClampNeg)) (hc : cells + 4 ≤ 601024) (hsl : slots + 24 ≤ 7293034) (kk : ∀ M2, GL M2 → Z RL code 10 ret xt nme room_1 (lwQ b L xs) (allR 2) SH (cells + 4) (slots + 24) 2908 (ls0 b x) [] M2) : Z RL code 10 ret xt nme room_1 (lwQ b L xs) (allR 2) SH cells slots 517 (ls0 b x) [] M := by
  obtain ⟨v, M1, M2, e1, f1, e2, G2, f2⟩ := api_selectedTune G
  cases e1
  refine z_aload_n (i := 1) dW_517 rfl rfl ?_
  refine z_fVi (wv := 2) (n := 0) (sX9_selectedTune (wv := 2) M) dW_518 ml_L_171 cd_X9_selectedTune mk0 rfl rfl rfl (rmk_r (by decide) (by decide) (by omega) (by omega)) rfl rfl ?_
  refine z_aload_n (i := 2) dW_521 rfl rfl ?_
  refine z_fVi (wv := 2) (n := 0) (sX10_selectedTune (wv := 1) M e2) dW_522 ml_L_174 cd_X10_selectedTune mk18 rfl rfl rfl (rmk_r (by decide) (by decide) (by omega) (by omega)) rfl rfl ?_
  exact z_icmp_eq (tgt := 2908) dW_525 rfl (fun _ => z_wid (by omega) (by omega) (kk M2 G2)) (fun hne => absurd rfl hne)
set_option maxRecDepth 20000 in
set_option maxHeartbeats 2000000 in
theorem case_8 {b L : Nat} {xs : Nat → Int32} {xt : List ExceptionTableEntry} {nme : String} {x : Int32} {cells slots : Nat} {M : Mm} (G : GL M) (hs : ∀ d : Int32, 0 ≤ d → d < 6 → ¬ (x + d < 0 ∨ L ≤ (x + d).toNatClampNeg)) (hc : cells + 4 ≤ 601024) (hsl : slots + 24 ≤ 7293034) (kk : ∀ M2, GL M2 → Z RL code 10 ret xt nme room_1 (lwQ b L xs) (allR 2) SH (cells + 4) (slots + 24) 2908 (ls0 b x) [] M2) : Z RL code 10 ret xt nme room_1 (lwQ b L xs) (allR 2) SH cells slots 530 (ls0 b x) [] M := by
  obtain ⟨v, M1, M2, e1, f1, e2, G2, f2⟩ := api_position G
  cases e1
  refine z_aload_n (i := 1) dW_530 rfl rfl ?_
  refine z_fVi (wv := 2) (n := 0) (sX9_position (wv := 2) M) dW_531 ml_L_175 cd_X9_position mk0 rfl rfl rfl (rmk_r (by decide) (by decide) (by omega) (by omega)) rfl rfl ?_
  refine z_aload_n (i := 2) dW_534 rfl rfl ?_
  refine z_fVi (wv := 2) (n := 0) (sX10_position (wv := 1) M e2) dW_535 ml_L_178 cd_X10_position mk18 rfl rfl rfl (rmk_r (by decide) (by decide) (by omega) (by omega)) rfl rfl ?_
  exact z_icmp_eq (tgt := 2908) dW_538 rfl (fun _ => z_wid (by omega) (by omega) (kk M2 G2)) (fun hne => absurd rfl hne)
set_option maxRecDepth 20000 in
set_option maxHeartbeats 2000000 in
theorem case_9 {b L : Nat} {xs : Nat → Int32} {xt : List ExceptionTableEntry} {nme : String} {x : Int32} {cells slots : Nat} {M : Mm} (G : GL M) (hs : ∀ d : Int32, 0 ≤ d → d < 6 → ¬ (x + d < 0 ∨ L ≤ (x + d).toNatClampNeg)) (hc : cells + 4 ≤ 601024) (hsl : slots + 24 ≤ 7293034) (kk : ∀ M2, GL M2 → Z RL code 10 ret xt nme room_1 (lwQ b L xs) (allR 2) SH (cells + 4) (slots + 24) 2908 (ls0 b x) [] M2) : Z RL code 10 ret xt nme room_1 (lwQ b L xs) (allR 2) SH cells slots 543 (ls0 b x) [] M := by
  obtain ⟨res, M1, e1, f1, hN⟩ := api_isPin G (xs (x + 1).toNatClampNeg) (xs (x + 2).toNatClampNeg) (xs (x + 3).toNatClampNeg)
  have he : ∀ e, res = .inr e → e ∈ [2] := by
    obtain ⟨r0, N0, -, -, -, ag0⟩ := hN M1 fr_rf
    exact ag_in (ag_T ag0)
  refine z_aload_n (i := 1) dW_543 rfl rfl ?_
  refine z_arg (d := 1) dW_544 dW_545 dW_547 dW_548 dW_549 rfl rfl rfl (hs 1 (by decide) (by decide)) ?_
  refine z_arg (d := 2) dW_550 dW_551 dW_553 dW_554 dW_555 rfl rfl rfl (hs 2 (by decide) (by decide)) ?_
  refine z_arg (d := 3) dW_556 dW_557 dW_559 dW_560 dW_561 rfl rfl rfl (hs 3 (by decide) (by decide)) ?_
  refine z_aload_n (i := 3) dW_562 rfl rfl ?_
  refine z_callSX (av := [.inr (0, 0, 0), .inl (.int (xs (x + 1).toNatClampNeg)), .inl (.int (xs (x + 2).toNatClampNeg)), .inl (.int (xs (x + 3).toNatClampNeg)), .inr (21, 0, 0)]) (W_isPin M (xs (x + 1).toNatClampNeg) (xs (x + 2).toNatClampNeg) (xs (x + 3).toNatClampNeg) e1 he) dW_563 ml_L_179 cw_L_isPin rfl ⟨by decide, by decide, hc, hsl⟩ (by decide) rfl (fun v M9 hw => ?_) (fun E M9 h => h.elim)
  obtain ⟨k, hv, hF, hw⟩ := wp_k (by decide) hw
  subst hv
  obtain ⟨r, M2, e2, G2, f2, ag⟩ := hN M9 hF
  have hth := wp_th hw (ag_T ag)
  refine z_istore (i := 6) dW_566 (by decide) rfl ?_
  refine z_aload_n (i := 2) dW_568 rfl rfl ?_
  refine z_arg (d := 1) dW_569 dW_570 dW_572 dW_573 dW_574 rfl rfl rfl (hs 1 (by decide) (by decide)) ?_
  refine z_arg (d := 2) dW_575 dW_576 dW_578 dW_579 dW_580 rfl rfl rfl (hs 2 (by decide) (by decide)) ?_
  refine z_arg (d := 3) dW_581 dW_582 dW_584 dW_585 dW_586 rfl rfl rfl (hs 3 (by decide) (by decide)) ?_
  refine z_fVi (wv := 2) (n := 3) (sX10_isPin (wv := 1) M9 (xs (x + 1).toNatClampNeg) (xs (x + 2).toNatClampNeg) (xs (x + 3).toNatClampNeg) e2) dW_587 ml_L_182 cd_X10_isPin mk18 rfl rfl rfl (rmk_r (by decide) (by decide) hc hsl) rfl rfl ?_
  refine z_istore (i := 7) dW_590 (by decide) rfl ?_
  refine z_aload_n (i := 2) dW_592 rfl rfl ?_
  refine z_fVi (wv := 2) (n := 0) (sX10_thrown (wv := 1) M2) dW_593 ml_L_144 cd_X10_thrown mk18 rfl rfl rfl (rmk_r (by decide) (by decide) hc hsl) rfl rfl ?_
  refine z_iload (i := 6) dW_596 rfl ?_
  refine z_icmp_eq (tgt := 603) dW_598 rfl (fun _ => ?_) (fun hne => absurd hth hne)
  refine z_iload (i := 6) dW_603 rfl ?_
  refine z_if_ne (tgt := 627) dW_605 rfl (fun _ => z_goto (tgt := 2908) dW_627 rfl (z_fgt (i := 6) (z_fgt (i := 7) (kk M2 G2)))) (fun h0 => ?_)
  obtain ⟨hval, hres⟩ := wp_val hw (ag_T ag) h0 rfl f2
  refine z_aload_n (i := 3) dW_608 rfl rfl ?_
  refine z_iconst (v := (0 : Int32)) dW_609 (by decide) ?_
  refine z_lald dW_610 mk21 rfl (by decide) hval ?_
  refine z_iload (i := 7) dW_611 rfl ?_
  refine z_if_eq (tgt := 620) dW_613 rfl (fun hb => ?_) (fun hb => ?_)
  · refine z_lconst (v := 0) dW_620 rfl ?_
    refine z_lcmp dW_621 ?_
    exact z_if_eq (tgt := 627) dW_622 rfl (fun _ => z_goto (tgt := 2908) dW_627 rfl (z_fgt (i := 6) (z_fgt (i := 7) (kk M2 G2)))) (fun hne => absurd (by unfold fB; rw [if_pos hb]; exact lcmp_0) hne)
  · refine z_lconst (v := 1) dW_616 rfl ?_
    refine z_goto (tgt := 621) dW_617 rfl ?_
    refine z_lcmp dW_621 ?_
    exact z_if_eq (tgt := 627) dW_622 rfl (fun _ => z_goto (tgt := 2908) dW_627 rfl (z_fgt (i := 6) (z_fgt (i := 7) (kk M2 G2)))) (fun hne => absurd (by unfold fB; rw [if_neg hb]; exact lcmp_0) hne)
set_option maxRecDepth 20000 in
set_option maxHeartbeats 2000000 in
theorem case_10 {b L : Nat} {xs : Nat → Int32} {xt : List ExceptionTableEntry} {nme : String} {x : Int32} {cells slots : Nat} {M : Mm} (G : GL M) (hs : ∀ d : Int32, 0 ≤ d → d < 6 → ¬ (x + d < 0 ∨ L ≤ (x + d).toNatClampNeg)) (hc : cells + 4 ≤ 601024) (hsl : slots + 24 ≤ 7293034) (kk : ∀ M2, GL M2 → Z RL code 10 ret xt nme room_1 (lwQ b L xs) (allR 2) SH (cells + 4) (slots + 24) 2908 (ls0 b x) [] M2) : Z RL code 10 ret xt nme room_1 (lwQ b L xs) (allR 2) SH cells slots 630 (ls0 b x) [] M := by
  obtain ⟨res, M1, e1, f1, hN⟩ := api_pinCount G (xs (x + 1).toNatClampNeg)
  have he : ∀ e, res = .inr e → e ∈ [2] := by
    obtain ⟨r0, N0, -, -, -, ag0⟩ := hN M1 fr_rf
    exact ag_in (ag_T ag0)
  refine z_aload_n (i := 1) dW_630 rfl rfl ?_
  refine z_arg (d := 1) dW_631 dW_632 dW_634 dW_635 dW_636 rfl rfl rfl (hs 1 (by decide) (by decide)) ?_
  refine z_aload_n (i := 3) dW_637 rfl rfl ?_
  refine z_callSX (av := [.inr (0, 0, 0), .inl (.int (xs (x + 1).toNatClampNeg)), .inr (21, 0, 0)]) (W_pinCount M (xs (x + 1).toNatClampNeg) e1 he) dW_638 ml_L_183 cw_L_pinCount rfl ⟨by decide, by decide, hc, hsl⟩ (by decide) rfl (fun v M9 hw => ?_) (fun E M9 h => h.elim)
  obtain ⟨k, hv, hF, hw⟩ := wp_k (by decide) hw
  subst hv
  obtain ⟨r, M2, e2, G2, f2, ag⟩ := hN M9 hF
  have hth := wp_th hw (ag_T ag)
  refine z_istore (i := 6) dW_641 (by decide) rfl ?_
  refine z_aload_n (i := 2) dW_643 rfl rfl ?_
  refine z_arg (d := 1) dW_644 dW_645 dW_647 dW_648 dW_649 rfl rfl rfl (hs 1 (by decide) (by decide)) ?_
  refine z_fVi (wv := 2) (n := 1) (sX10_pinCount (wv := 1) M9 (xs (x + 1).toNatClampNeg) e2) dW_650 ml_L_185 cd_X10_pinCount mk18 rfl rfl rfl (rmk_r (by decide) (by decide) hc hsl) rfl rfl ?_
  refine z_istore (i := 7) dW_653 (by decide) rfl ?_
  refine z_aload_n (i := 2) dW_655 rfl rfl ?_
  refine z_fVi (wv := 2) (n := 0) (sX10_thrown (wv := 1) M2) dW_656 ml_L_144 cd_X10_thrown mk18 rfl rfl rfl (rmk_r (by decide) (by decide) hc hsl) rfl rfl ?_
  refine z_iload (i := 6) dW_659 rfl ?_
  refine z_icmp_eq (tgt := 666) dW_661 rfl (fun _ => ?_) (fun hne => absurd hth hne)
  refine z_iload (i := 6) dW_666 rfl ?_
  refine z_if_ne (tgt := 683) dW_668 rfl (fun _ => z_goto (tgt := 2908) dW_683 rfl (z_fgt (i := 6) (z_fgt (i := 7) (kk M2 G2)))) (fun h0 => ?_)
  obtain ⟨hval, hres⟩ := wp_val hw (ag_T ag) h0 rfl f2
  refine z_aload_n (i := 3) dW_671 rfl rfl ?_
  refine z_iconst (v := (0 : Int32)) dW_672 (by decide) ?_
  refine z_lald dW_673 mk21 rfl (by decide) hval ?_
  refine z_iload (i := 7) dW_674 rfl ?_
  refine z_i2l dW_676 ?_
  refine z_lcmp dW_677 ?_
  exact z_if_eq (tgt := 683) dW_678 rfl (fun _ => z_goto (tgt := 2908) dW_683 rfl (z_fgt (i := 6) (z_fgt (i := 7) (kk M2 G2)))) (fun hne => absurd lcmp_0 hne)
set_option maxRecDepth 20000 in
set_option maxHeartbeats 2000000 in
theorem case_11 {b L : Nat} {xs : Nat → Int32} {xt : List ExceptionTableEntry} {nme : String} {x : Int32} {cells slots : Nat} {M : Mm} (G : GL M) (hs : ∀ d : Int32, 0 ≤ d → d < 6 → ¬ (x + d < 0 ∨ L ≤ (x + d).toNatClampNeg)) (hc : cells + 4 ≤ 601024) (hsl : slots + 24 ≤ 7293034) (kk : ∀ M2, GL M2 → Z RL code 10 ret xt nme room_1 (lwQ b L xs) (allR 2) SH (cells + 4) (slots + 24) 2908 (ls0 b x) [] M2) : Z RL code 10 ret xt nme room_1 (lwQ b L xs) (allR 2) SH cells slots 686 (ls0 b x) [] M := by
  obtain ⟨res, M1, e1, f1, hN⟩ := api_chord G (xs (x + 1).toNatClampNeg) (xs (x + 2).toNatClampNeg)
  have he : ∀ e, res = .inr e → e ∈ [2] := by
    obtain ⟨r0, N0, -, -, -, ag0⟩ := hN M1 fr_rf
    exact ag_in (ag_T ag0)
  refine z_aload_n (i := 1) dW_686 rfl rfl ?_
  refine z_arg (d := 1) dW_687 dW_688 dW_690 dW_691 dW_692 rfl rfl rfl (hs 1 (by decide) (by decide)) ?_
  refine z_arg (d := 2) dW_693 dW_694 dW_696 dW_697 dW_698 rfl rfl rfl (hs 2 (by decide) (by decide)) ?_
  refine z_aload_n (i := 3) dW_699 rfl rfl ?_
  refine z_callSX (av := [.inr (0, 0, 0), .inl (.int (xs (x + 1).toNatClampNeg)), .inl (.int (xs (x + 2).toNatClampNeg)), .inr (21, 0, 0)]) (W_chord M (xs (x + 1).toNatClampNeg) (xs (x + 2).toNatClampNeg) e1 he) dW_700 ml_L_186 cw_L_chord rfl ⟨by decide, by decide, hc, hsl⟩ (by decide) rfl (fun v M9 hw => ?_) (fun E M9 h => h.elim)
  obtain ⟨k, hv, hF, hw⟩ := wp_k (by decide) hw
  subst hv
  obtain ⟨r, M2, e2, G2, f2, ag⟩ := hN M9 hF
  have hth := wp_th hw (ag_T ag)
  refine z_istore (i := 6) dW_703 (by decide) rfl ?_
  refine z_aload_n (i := 2) dW_705 rfl rfl ?_
  refine z_arg (d := 1) dW_706 dW_707 dW_709 dW_710 dW_711 rfl rfl rfl (hs 1 (by decide) (by decide)) ?_
  refine z_arg (d := 2) dW_712 dW_713 dW_715 dW_716 dW_717 rfl rfl rfl (hs 2 (by decide) (by decide)) ?_
  refine z_fVi (wv := 2) (n := 2) (sX10_chord (wv := 1) M9 (xs (x + 1).toNatClampNeg) (xs (x + 2).toNatClampNeg) e2) dW_718 ml_L_189 cd_X10_chord mk18 rfl rfl rfl (rmk_r (by decide) (by decide) hc hsl) rfl rfl ?_
  refine z_istore (i := 7) dW_721 (by decide) rfl ?_
  refine z_aload_n (i := 2) dW_723 rfl rfl ?_
  refine z_fVi (wv := 2) (n := 0) (sX10_thrown (wv := 1) M2) dW_724 ml_L_144 cd_X10_thrown mk18 rfl rfl rfl (rmk_r (by decide) (by decide) hc hsl) rfl rfl ?_
  refine z_iload (i := 6) dW_727 rfl ?_
  refine z_icmp_eq (tgt := 734) dW_729 rfl (fun _ => ?_) (fun hne => absurd hth hne)
  refine z_iload (i := 6) dW_734 rfl ?_
  refine z_if_ne (tgt := 751) dW_736 rfl (fun _ => z_goto (tgt := 2908) dW_751 rfl (z_fgt (i := 6) (z_fgt (i := 7) (kk M2 G2)))) (fun h0 => ?_)
  obtain ⟨hval, hres⟩ := wp_val hw (ag_T ag) h0 rfl f2
  refine z_aload_n (i := 3) dW_739 rfl rfl ?_
  refine z_iconst (v := (0 : Int32)) dW_740 (by decide) ?_
  refine z_lald dW_741 mk21 rfl (by decide) hval ?_
  refine z_iload (i := 7) dW_742 rfl ?_
  refine z_i2l dW_744 ?_
  refine z_lcmp dW_745 ?_
  exact z_if_eq (tgt := 751) dW_746 rfl (fun _ => z_goto (tgt := 2908) dW_751 rfl (z_fgt (i := 6) (z_fgt (i := 7) (kk M2 G2)))) (fun hne => absurd lcmp_0 hne)
set_option maxRecDepth 20000 in
set_option maxHeartbeats 2000000 in
theorem case_12 {b L : Nat} {xs : Nat → Int32} {xt : List ExceptionTableEntry} {nme : String} {x : Int32} {cells slots : Nat} {M : Mm} (G : GL M) (hs : ∀ d : Int32, 0 ≤ d → d < 6 → ¬ (x + d < 0 ∨ L ≤ (x + d).toNatClampNeg)) (hc : cells + 4 ≤ 601024) (hsl : slots + 24 ≤ 7293034) (kk : ∀ M2, GL M2 → Z RL code 10 ret xt nme room_1 (lwQ b L xs) (allR 2) SH (cells + 4) (slots + 24) 2908 (ls0 b x) [] M2) : Z RL code 10 ret xt nme room_1 (lwQ b L xs) (allR 2) SH cells slots 754 (ls0 b x) [] M := by
  obtain ⟨res, M1, e1, f1, hN⟩ := api_distance G (xs (x + 1).toNatClampNeg) (xs (x + 2).toNatClampNeg) (xs (x + 3).toNatClampNeg)
  have he : ∀ e, res = .inr e → e ∈ [2, 3] := by
    obtain ⟨r0, N0, -, -, -, ag0⟩ := hN M1 fr_rf
    exact ag_in (ag_T ag0)
  refine z_aload_n (i := 1) dW_754 rfl rfl ?_
  refine z_arg (d := 1) dW_755 dW_756 dW_758 dW_759 dW_760 rfl rfl rfl (hs 1 (by decide) (by decide)) ?_
  refine z_arg (d := 2) dW_761 dW_762 dW_764 dW_765 dW_766 rfl rfl rfl (hs 2 (by decide) (by decide)) ?_
  refine z_arg (d := 3) dW_767 dW_768 dW_770 dW_771 dW_772 rfl rfl rfl (hs 3 (by decide) (by decide)) ?_
  refine z_aload_n (i := 3) dW_773 rfl rfl ?_
  refine z_callSX (av := [.inr (0, 0, 0), .inl (.int (xs (x + 1).toNatClampNeg)), .inl (.int (xs (x + 2).toNatClampNeg)), .inl (.int (xs (x + 3).toNatClampNeg)), .inr (21, 0, 0)]) (W_distance M (xs (x + 1).toNatClampNeg) (xs (x + 2).toNatClampNeg) (xs (x + 3).toNatClampNeg) e1 he) dW_774 ml_L_190 cw_L_distance rfl ⟨by decide, by decide, hc, hsl⟩ (by decide) rfl (fun v M9 hw => ?_) (fun E M9 h => h.elim)
  obtain ⟨k, hv, hF, hw⟩ := wp_k (by decide) hw
  subst hv
  obtain ⟨r, M2, e2, G2, f2, ag⟩ := hN M9 hF
  have hth := wp_th hw (ag_T ag)
  refine z_istore (i := 6) dW_777 (by decide) rfl ?_
  refine z_aload_n (i := 2) dW_779 rfl rfl ?_
  refine z_arg (d := 1) dW_780 dW_781 dW_783 dW_784 dW_785 rfl rfl rfl (hs 1 (by decide) (by decide)) ?_
  refine z_arg (d := 2) dW_786 dW_787 dW_789 dW_790 dW_791 rfl rfl rfl (hs 2 (by decide) (by decide)) ?_
  refine z_arg (d := 3) dW_792 dW_793 dW_795 dW_796 dW_797 rfl rfl rfl (hs 3 (by decide) (by decide)) ?_
  refine z_fVi (wv := 2) (n := 3) (sX10_distance (wv := 1) M9 (xs (x + 1).toNatClampNeg) (xs (x + 2).toNatClampNeg) (xs (x + 3).toNatClampNeg) e2) dW_798 ml_L_192 cd_X10_distance mk18 rfl rfl rfl (rmk_r (by decide) (by decide) hc hsl) rfl rfl ?_
  refine z_istore (i := 7) dW_801 (by decide) rfl ?_
  refine z_aload_n (i := 2) dW_803 rfl rfl ?_
  refine z_fVi (wv := 2) (n := 0) (sX10_thrown (wv := 1) M2) dW_804 ml_L_144 cd_X10_thrown mk18 rfl rfl rfl (rmk_r (by decide) (by decide) hc hsl) rfl rfl ?_
  refine z_iload (i := 6) dW_807 rfl ?_
  refine z_icmp_eq (tgt := 814) dW_809 rfl (fun _ => ?_) (fun hne => absurd hth hne)
  refine z_iload (i := 6) dW_814 rfl ?_
  refine z_if_ne (tgt := 831) dW_816 rfl (fun _ => z_goto (tgt := 2908) dW_831 rfl (z_fgt (i := 6) (z_fgt (i := 7) (kk M2 G2)))) (fun h0 => ?_)
  obtain ⟨hval, hres⟩ := wp_val hw (ag_T ag) h0 rfl f2
  refine z_aload_n (i := 3) dW_819 rfl rfl ?_
  refine z_iconst (v := (0 : Int32)) dW_820 (by decide) ?_
  refine z_lald dW_821 mk21 rfl (by decide) hval ?_
  refine z_iload (i := 7) dW_822 rfl ?_
  refine z_i2l dW_824 ?_
  refine z_lcmp dW_825 ?_
  exact z_if_eq (tgt := 831) dW_826 rfl (fun _ => z_goto (tgt := 2908) dW_831 rfl (z_fgt (i := 6) (z_fgt (i := 7) (kk M2 G2)))) (fun hne => absurd lcmp_0 hne)
set_option maxRecDepth 20000 in
set_option maxHeartbeats 2000000 in
theorem case_13 {b L : Nat} {xs : Nat → Int32} {xt : List ExceptionTableEntry} {nme : String} {x : Int32} {cells slots : Nat} {M : Mm} (G : GL M) (hs : ∀ d : Int32, 0 ≤ d → d < 6 → ¬ (x + d < 0 ∨ L ≤ (x + d).toNatClampNeg)) (hc : cells + 4 ≤ 601024) (hsl : slots + 24 ≤ 7293034) (kk : ∀ M2, GL M2 → Z RL code 10 ret xt nme room_1 (lwQ b L xs) (allR 2) SH (cells + 4) (slots + 24) 2908 (ls0 b x) [] M2) : Z RL code 10 ret xt nme room_1 (lwQ b L xs) (allR 2) SH cells slots 834 (ls0 b x) [] M := by
  obtain ⟨res, M1, e1, f1, hN⟩ := api_closePins G (xs (x + 1).toNatClampNeg)
  have he : ∀ e, res = .inr e → e ∈ [2] := by
    obtain ⟨r0, N0, -, -, -, ag0⟩ := hN M1 fr_rf
    exact ag_in (ag_T ag0)
  refine z_aload_n (i := 1) dW_834 rfl rfl ?_
  refine z_arg (d := 1) dW_835 dW_836 dW_838 dW_839 dW_840 rfl rfl rfl (hs 1 (by decide) (by decide)) ?_
  refine z_aload_n (i := 3) dW_841 rfl rfl ?_
  refine z_callSX (av := [.inr (0, 0, 0), .inl (.int (xs (x + 1).toNatClampNeg)), .inr (21, 0, 0)]) (W_closePins M (xs (x + 1).toNatClampNeg) e1 he) dW_842 ml_L_193 cw_L_closePins rfl ⟨by decide, by decide, hc, hsl⟩ (by decide) rfl (fun v M9 hw => ?_) (fun E M9 h => h.elim)
  obtain ⟨k, hv, hF, hw⟩ := wp_k (by decide) hw
  subst hv
  obtain ⟨r, M2, e2, G2, f2, ag⟩ := hN M9 hF
  have hth := wp_th hw (ag_T ag)
  refine z_istore (i := 6) dW_845 (by decide) rfl ?_
  refine z_aload_n (i := 2) dW_847 rfl rfl ?_
  refine z_arg (d := 1) dW_848 dW_849 dW_851 dW_852 dW_853 rfl rfl rfl (hs 1 (by decide) (by decide)) ?_
  refine z_fVi (wv := 2) (n := 1) (sX10_closePins (wv := 1) M9 (xs (x + 1).toNatClampNeg) e2) dW_854 ml_L_195 cd_X10_closePins mk18 rfl rfl rfl (rmk_r (by decide) (by decide) hc hsl) rfl rfl ?_
  refine z_istore (i := 7) dW_857 (by decide) rfl ?_
  refine z_aload_n (i := 2) dW_859 rfl rfl ?_
  refine z_fVi (wv := 2) (n := 0) (sX10_thrown (wv := 1) M2) dW_860 ml_L_144 cd_X10_thrown mk18 rfl rfl rfl (rmk_r (by decide) (by decide) hc hsl) rfl rfl ?_
  refine z_iload (i := 6) dW_863 rfl ?_
  refine z_icmp_eq (tgt := 870) dW_865 rfl (fun _ => ?_) (fun hne => absurd hth hne)
  refine z_iload (i := 6) dW_870 rfl ?_
  refine z_if_ne (tgt := 887) dW_872 rfl (fun _ => z_goto (tgt := 2908) dW_887 rfl (z_fgt (i := 6) (z_fgt (i := 7) (kk M2 G2)))) (fun h0 => ?_)
  obtain ⟨hval, hres⟩ := wp_val hw (ag_T ag) h0 rfl f2
  refine z_aload_n (i := 3) dW_875 rfl rfl ?_
  refine z_iconst (v := (0 : Int32)) dW_876 (by decide) ?_
  refine z_lald dW_877 mk21 rfl (by decide) hval ?_
  refine z_iload (i := 7) dW_878 rfl ?_
  refine z_i2l dW_880 ?_
  refine z_lcmp dW_881 ?_
  exact z_if_eq (tgt := 887) dW_882 rfl (fun _ => z_goto (tgt := 2908) dW_887 rfl (z_fgt (i := 6) (z_fgt (i := 7) (kk M2 G2)))) (fun hne => absurd lcmp_0 hne)
set_option maxRecDepth 20000 in
set_option maxHeartbeats 2000000 in
theorem case_14 {b L : Nat} {xs : Nat → Int32} {xt : List ExceptionTableEntry} {nme : String} {x : Int32} {cells slots : Nat} {M : Mm} (G : GL M) (hs : ∀ d : Int32, 0 ≤ d → d < 6 → ¬ (x + d < 0 ∨ L ≤ (x + d).toNatClampNeg)) (hc : cells + 4 ≤ 601024) (hsl : slots + 24 ≤ 7293034) (kk : ∀ M2, GL M2 → Z RL code 10 ret xt nme room_1 (lwQ b L xs) (allR 2) SH (cells + 4) (slots + 24) 2908 (ls0 b x) [] M2) : Z RL code 10 ret xt nme room_1 (lwQ b L xs) (allR 2) SH cells slots 890 (ls0 b x) [] M := by
  obtain ⟨res, M1, e1, f1, hN⟩ := api_longestRest G (xs (x + 1).toNatClampNeg)
  have he : ∀ e, res = .inr e → e ∈ [2] := by
    obtain ⟨r0, N0, -, -, -, ag0⟩ := hN M1 fr_rf
    exact ag_in (ag_T ag0)
  refine z_aload_n (i := 1) dW_890 rfl rfl ?_
  refine z_arg (d := 1) dW_891 dW_892 dW_894 dW_895 dW_896 rfl rfl rfl (hs 1 (by decide) (by decide)) ?_
  refine z_aload_n (i := 3) dW_897 rfl rfl ?_
  refine z_callSX (av := [.inr (0, 0, 0), .inl (.int (xs (x + 1).toNatClampNeg)), .inr (21, 0, 0)]) (W_longestRest M (xs (x + 1).toNatClampNeg) e1 he) dW_898 ml_L_196 cw_L_longestRest rfl ⟨by decide, by decide, hc, hsl⟩ (by decide) rfl (fun v M9 hw => ?_) (fun E M9 h => h.elim)
  obtain ⟨k, hv, hF, hw⟩ := wp_k (by decide) hw
  subst hv
  obtain ⟨r, M2, e2, G2, f2, ag⟩ := hN M9 hF
  have hth := wp_th hw (ag_T ag)
  refine z_istore (i := 6) dW_901 (by decide) rfl ?_
  refine z_aload_n (i := 2) dW_903 rfl rfl ?_
  refine z_arg (d := 1) dW_904 dW_905 dW_907 dW_908 dW_909 rfl rfl rfl (hs 1 (by decide) (by decide)) ?_
  refine z_fVi (wv := 2) (n := 1) (sX10_longestRest (wv := 1) M9 (xs (x + 1).toNatClampNeg) e2) dW_910 ml_L_198 cd_X10_longestRest mk18 rfl rfl rfl (rmk_r (by decide) (by decide) hc hsl) rfl rfl ?_
  refine z_istore (i := 7) dW_913 (by decide) rfl ?_
  refine z_aload_n (i := 2) dW_915 rfl rfl ?_
  refine z_fVi (wv := 2) (n := 0) (sX10_thrown (wv := 1) M2) dW_916 ml_L_144 cd_X10_thrown mk18 rfl rfl rfl (rmk_r (by decide) (by decide) hc hsl) rfl rfl ?_
  refine z_iload (i := 6) dW_919 rfl ?_
  refine z_icmp_eq (tgt := 926) dW_921 rfl (fun _ => ?_) (fun hne => absurd hth hne)
  refine z_iload (i := 6) dW_926 rfl ?_
  refine z_if_ne (tgt := 943) dW_928 rfl (fun _ => z_goto (tgt := 2908) dW_943 rfl (z_fgt (i := 6) (z_fgt (i := 7) (kk M2 G2)))) (fun h0 => ?_)
  obtain ⟨hval, hres⟩ := wp_val hw (ag_T ag) h0 rfl f2
  refine z_aload_n (i := 3) dW_931 rfl rfl ?_
  refine z_iconst (v := (0 : Int32)) dW_932 (by decide) ?_
  refine z_lald dW_933 mk21 rfl (by decide) hval ?_
  refine z_iload (i := 7) dW_934 rfl ?_
  refine z_i2l dW_936 ?_
  refine z_lcmp dW_937 ?_
  exact z_if_eq (tgt := 943) dW_938 rfl (fun _ => z_goto (tgt := 2908) dW_943 rfl (z_fgt (i := 6) (z_fgt (i := 7) (kk M2 G2)))) (fun hne => absurd lcmp_0 hne)
