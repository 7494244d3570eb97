/-! the law: which case, the loop -/
theorem law_sw {b L : Nat} {xs : Nat → Int32} {xt : List ExceptionTableEntry} {nme : String} {x : Int32} {cells slots : Nat} {M : Mm} (G : GL M) (hs : ∀ d : Int32, 0 ≤ d → d < 6 → ¬ (x + d < 0 ∨ L ≤ (x + d).toNatClampNeg)) (hc : cells + 4 ≤ 601024) (hsl : slots + 24 ≤ 7293034) (kk : ∀ M2, GL M2 → Z RL code 10 ret xt nme room_1 (lwQ b L xs) (allR 2) SH (cells + 4) (slots + 24) 2908 (ls0 b x) [] M2) : ∀ k, k < 64 → Z RL code 10 ret xt nme room_1 (lwQ b L xs) (allR 2) SH cells slots 45 (ls0 b x) [.inl (.int (nI k))] M
  | 0, _ => z_tin (tgt := 292) dW_45 (by decide) (by decide) rfl rfl (case_0 G hs hc hsl kk)
  | 1, _ => z_tin (tgt := 396) dW_45 (by decide) (by decide) rfl rfl (case_1 G hs hc hsl kk)
  | 2, _ => z_tin (tgt := 452) dW_45 (by decide) (by decide) rfl rfl (case_2 G hs hc hsl kk)
  | 3, _ => z_tin (tgt := 465) dW_45 (by decide) (by decide) rfl rfl (case_3 G hs hc hsl kk)
  | 4, _ => z_tin (tgt := 478) dW_45 (by decide) (by decide) rfl rfl (case_4 G hs hc hsl kk)
  | 5, _ => z_tin (tgt := 491) dW_45 (by decide) (by decide) rfl rfl (case_5 G hs hc hsl kk)
  | 6, _ => z_tin (tgt := 504) dW_45 (by decide) (by decide) rfl rfl (case_6 G hs hc hsl kk)
  | 7, _ => z_tin (tgt := 517) dW_45 (by decide) (by decide) rfl rfl (case_7 G hs hc hsl kk)
  | 8, _ => z_tin (tgt := 530) dW_45 (by decide) (by decide) rfl rfl (case_8 G hs hc hsl kk)
  | 9, _ => z_tin (tgt := 543) dW_45 (by decide) (by decide) rfl rfl (case_9 G hs hc hsl kk)
  | 10, _ => z_tin (tgt := 630) dW_45 (by decide) (by decide) rfl rfl (case_10 G hs hc hsl kk)
  | 11, _ => z_tin (tgt := 686) dW_45 (by decide) (by decide) rfl rfl (case_11 G hs hc hsl kk)
  | 12, _ => z_tin (tgt := 754) dW_45 (by decide) (by decide) rfl rfl (case_12 G hs hc hsl kk)
  | 13, _ => z_tin (tgt := 834) dW_45 (by decide) (by decide) rfl rfl (case_13 G hs hc hsl kk)
  | 14, _ => z_tin (tgt := 890) dW_45 (by decide) (by decide) rfl rfl (case_14 G hs hc hsl kk)
  | 15, _ => z_tin (tgt := 946) dW_45 (by decide) (by decide) rfl rfl (case_15 G hs hc hsl kk)
  | 16, _ => z_tin (tgt := 959) dW_45 (by decide) (by decide) rfl rfl (case_16 G hs hc hsl kk)
  | 17, _ => z_tin (tgt := 1015) dW_45 (by decide) (by decide) rfl rfl (case_17 G hs hc hsl kk)
  | 18, _ => z_tin (tgt := 1071) dW_45 (by decide) (by decide) rfl rfl (case_18 G hs hc hsl kk)
  | 19, _ => z_tin (tgt := 1127) dW_45 (by decide) (by decide) rfl rfl (case_19 G hs hc hsl kk)
  | 20, _ => z_tin (tgt := 1183) dW_45 (by decide) (by decide) rfl rfl (case_20 G hs hc hsl kk)
  | 21, _ => z_tin (tgt := 1239) dW_45 (by decide) (by decide) rfl rfl (case_21 G hs hc hsl kk)
  | 22, _ => z_tin (tgt := 1302) dW_45 (by decide) (by decide) rfl rfl (case_22 G hs hc hsl kk)
  | 23, _ => z_tin (tgt := 1358) dW_45 (by decide) (by decide) rfl rfl (case_23 G hs hc hsl kk)
  | 24, _ => z_tin (tgt := 1371) dW_45 (by decide) (by decide) rfl rfl (case_24 G hs hc hsl kk)
  | 25, _ => z_tin (tgt := 1384) dW_45 (by decide) (by decide) rfl rfl (case_25 G hs hc hsl kk)
  | 26, _ => z_tin (tgt := 1397) dW_45 (by decide) (by decide) rfl rfl (case_26 G hs hc hsl kk)
  | 27, _ => z_tin (tgt := 1438) dW_45 (by decide) (by decide) rfl rfl (case_27 G hs hc hsl kk)
  | 28, _ => z_tin (tgt := 1452) dW_45 (by decide) (by decide) rfl rfl (case_28 G hs hc hsl kk)
  | 29, _ => z_tin (tgt := 1465) dW_45 (by decide) (by decide) rfl rfl (case_29 G hs hc hsl kk)
  | 30, _ => z_tin (tgt := 1478) dW_45 (by decide) (by decide) rfl rfl (case_30 G hs hc hsl kk)
  | 31, _ => z_tin (tgt := 1491) dW_45 (by decide) (by decide) rfl rfl (case_31 G hs hc hsl kk)
  | 32, _ => z_tin (tgt := 1504) dW_45 (by decide) (by decide) rfl rfl (case_32 G hs hc hsl kk)
  | 33, _ => z_tin (tgt := 1581) dW_45 (by decide) (by decide) rfl rfl (case_33 G hs hc hsl kk)
  | 34, _ => z_tin (tgt := 1659) dW_45 (by decide) (by decide) rfl rfl (case_34 G hs hc hsl kk)
  | 35, _ => z_tin (tgt := 1672) dW_45 (by decide) (by decide) rfl rfl (case_35 G hs hc hsl kk)
  | 36, _ => z_tin (tgt := 1685) dW_45 (by decide) (by decide) rfl rfl (case_36 G hs hc hsl kk)
  | 37, _ => z_tin (tgt := 1741) dW_45 (by decide) (by decide) rfl rfl (case_37 G hs hc hsl kk)
  | 38, _ => z_tin (tgt := 1797) dW_45 (by decide) (by decide) rfl rfl (case_38 G hs hc hsl kk)
  | 39, _ => z_tin (tgt := 1853) dW_45 (by decide) (by decide) rfl rfl (case_39 G hs hc hsl kk)
  | 40, _ => z_tin (tgt := 1933) dW_45 (by decide) (by decide) rfl rfl (case_40 G hs hc hsl kk)
  | 41, _ => z_tin (tgt := 2013) dW_45 (by decide) (by decide) rfl rfl (case_41 G hs hc hsl kk)
  | 42, _ => z_tin (tgt := 2081) dW_45 (by decide) (by decide) rfl rfl (case_42 G hs hc hsl kk)
  | 43, _ => z_tin (tgt := 2149) dW_45 (by decide) (by decide) rfl rfl (case_43 G hs hc hsl kk)
  | 44, _ => z_tin (tgt := 2217) dW_45 (by decide) (by decide) rfl rfl (case_44 G hs hc hsl kk)
  | 45, _ => z_tin (tgt := 2273) dW_45 (by decide) (by decide) rfl rfl (case_45 G hs hc hsl kk)
  | 46, _ => z_tin (tgt := 2341) dW_45 (by decide) (by decide) rfl rfl (case_46 G hs hc hsl kk)
  | 47, _ => z_tin (tgt := 2409) dW_45 (by decide) (by decide) rfl rfl (case_47 G hs hc hsl kk)
  | 48, _ => z_tin (tgt := 2465) dW_45 (by decide) (by decide) rfl rfl (case_48 G hs hc hsl kk)
  | 49, _ => z_tin (tgt := 2521) dW_45 (by decide) (by decide) rfl rfl (case_49 G hs hc hsl kk)
  | 50, _ => z_tin (tgt := 2577) dW_45 (by decide) (by decide) rfl rfl (case_50 G hs hc hsl kk)
  | 51, _ => z_tin (tgt := 2633) dW_45 (by decide) (by decide) rfl rfl (case_51 G hs hc hsl kk)
  | 52, _ => z_tin (tgt := 2701) dW_45 (by decide) (by decide) rfl rfl (case_52 G hs hc hsl kk)
  | 53, _ => z_tin (tgt := 2714) dW_45 (by decide) (by decide) rfl rfl (case_53 G hs hc hsl kk)
  | 54, _ => z_tin (tgt := 2739) dW_45 (by decide) (by decide) rfl rfl (case_54 G hs hc hsl kk)
  | 55, _ => z_tin (tgt := 2752) dW_45 (by decide) (by decide) rfl rfl (case_55 G hs hc hsl kk)
  | 56, _ => z_tin (tgt := 2796) dW_45 (by decide) (by decide) rfl rfl (case_56 G hs hc hsl kk)
  | 57, _ => z_tin (tgt := 2852) dW_45 (by decide) (by decide) rfl rfl (case_57 G hs hc hsl kk)
  | 58, _ => z_tout (tgt := 2908) dW_45 (Or.inr (by decide)) rfl (z_wid (by omega) (by omega) (kk M G))
  | 59, _ => z_tout (tgt := 2908) dW_45 (Or.inr (by decide)) rfl (z_wid (by omega) (by omega) (kk M G))
  | 60, _ => z_tout (tgt := 2908) dW_45 (Or.inr (by decide)) rfl (z_wid (by omega) (by omega) (kk M G))
  | 61, _ => z_tout (tgt := 2908) dW_45 (Or.inr (by decide)) rfl (z_wid (by omega) (by omega) (kk M G))
  | 62, _ => z_tout (tgt := 2908) dW_45 (Or.inr (by decide)) rfl (z_wid (by omega) (by omega) (kk M G))
  | 63, _ => z_tout (tgt := 2908) dW_45 (Or.inr (by decide)) rfl (z_wid (by omega) (by omega) (kk M G))
  | k + 64, h => absurd h (by omega)
theorem and63 (y : Int32) : ∃ k, k < 64 ∧ y &&& 63 = nI k := by
  obtain ⟨j, hj, e⟩ := pk_andE y (m := 63) 6 (by decide)
  exact ⟨j, by omega, e⟩
theorem sub6 (L : Nat) (h : L < 3073) : (nI L - 6).toInt = (L : Int) - 6 := by
  rcases Nat.lt_or_ge L 6 with q | q
  · exact (by decide : ∀ L, L < 6 → (nI L - 6).toInt = (L : Int) - 6) L q
  · have e : nI L - 6 = nI (L - 6) := by
      have h1 : nI (L - 6) + 6 = nI L := by
        rw [show (6 : Int32) = nI 6 from rfl, nI_add, show L - 6 + 6 = L by omega]
      rw [← h1]
      exact Int32.add_sub_cancel _ _
    rw [e, nI_toInt (by omega)]
    omega
theorem d6 {d : Int32} (h0 : 0 ≤ d) (h6 : d < 6) : ∃ k, k < 6 ∧ d = nI k := by
  obtain ⟨j, hj, rfl⟩ := nI_of (Int32.not_lt.mpr h0)
  refine ⟨j, ?_, rfl⟩
  rcases Nat.lt_or_ge j 6 with q | q
  · exact q
  · exact absurd h6 (nI_nlt (b := 6) q hj)
set_option maxRecDepth 20000 in
theorem law_loop {b L : Nat} {xs : Nat → Int32} {xt : List ExceptionTableEntry} {nme : String} (hL : L ≤ 3072) : ∀ n i cells slots M, GL M → L < i + 6 * n + 6 → i ≤ 3078 → cells + 4 * n ≤ 601024 → slots + 24 * n ≤ 7293034 → Z RL code 10 ret xt nme room_1 (lwQ b L xs) (allR 2) SH cells slots 28 (ls0 b (nI i)) [] M := by
  intro n
  induction n with
  | zero =>
    intro i cells slots M G hi hi2 hc hsl
    refine z_iload (i := 5) dW_28 rfl ?_
    refine z_aloadQ_n (i := 0) dW_30 rfl rfl ?_
    refine z_slenL dW_31 ?_
    refine z_bipush (v := (6 : Int32)) dW_32 (by decide) ?_
    refine z_isub dW_34 ?_
    refine z_icmp_gt (tgt := 2914) dW_35 rfl (fun _ => ?_) (fun h => absurd (Int32.lt_iff_toInt_lt.mpr (by rw [sub6 L (by omega), nI_toInt (by omega)]; omega)) h)
    refine z_iconst (v := (1 : Int32)) dW_2914 (by decide) ?_
    exact z_lend dW_2915 (by omega) (by omega)
  | succ n ih =>
    intro i cells slots M G hi hi2 hc hsl
    refine z_iload (i := 5) dW_28 rfl ?_
    refine z_aloadQ_n (i := 0) dW_30 rfl rfl ?_
    refine z_slenL dW_31 ?_
    refine z_bipush (v := (6 : Int32)) dW_32 (by decide) ?_
    refine z_isub dW_34 ?_
    refine z_icmp_gt (tgt := 2914) dW_35 rfl (fun _ => ?_) (fun h => ?_)
    · refine z_iconst (v := (1 : Int32)) dW_2914 (by decide) ?_
      exact z_lend dW_2915 (by omega) (by omega)
    · have hiL : i + 6 ≤ L := by
        rcases Nat.lt_or_ge L (i + 6) with q | q
        · exact absurd (Int32.lt_iff_toInt_lt.mpr (by rw [sub6 L (by omega), nI_toInt (by omega)]; omega)) h
        · exact q
      have hs : ∀ d : Int32, 0 ≤ d → d < 6 → ¬ (nI i + d < 0 ∨ L ≤ (nI i + d).toNatClampNeg) := fun d h0 h6 => by
        obtain ⟨k, hk, rfl⟩ := d6 h0 h6
        rw [nI_add]
        exact nI_in (by omega) (by omega)
      have h00 : ¬ (nI i < 0 ∨ L ≤ (nI i).toNatClampNeg) := nI_in (by omega) (by omega)
      refine z_aloadQ_n (i := 0) dW_38 rfl rfl ?_
      refine z_iload (i := 5) dW_39 rfl ?_
      refine z_sld dW_41 h00 ?_
      refine z_bipush (v := (63 : Int32)) dW_42 (by decide) ?_
      refine z_iand dW_44 ?_
      obtain ⟨k, hk, e⟩ := and63 (xs (nI i).toNatClampNeg)
      rw [e]
      refine law_sw G hs (by omega) (by omega) (fun M2 G2 => ?_) k hk
      refine z_iinc (i := 5) (v := nI (i + 6)) dW_2908 rfl (nI_add i 6) (by decide) rfl ?_
      refine z_goto (tgt := 28) dW_2911 rfl ?_
      exact ih (i + 6) _ _ M2 G2 (by omega) (by omega) (by omega) (by omega)
theorem cw_L_8 : Cond.classLink RL 8 (Rc 9) ∈ AL ∧ Cond.instantiable (Rc 9) (Nc 9) ∈ AL ∧ Cond.initialized (Rc 9) ∈ AL := ⟨al_mem 97 (by decide +kernel) (by decide +kernel), al_mem 98 (by decide +kernel) (by decide +kernel), al_mem 69 (by decide +kernel) (by decide +kernel)⟩
theorem cw_L_135 : Cond.classLink RL 135 (Rc 10) ∈ AL ∧ Cond.instantiable (Rc 10) (Nc 10) ∈ AL ∧ Cond.initialized (Rc 10) ∈ AL := ⟨al_mem 1388 (by decide +kernel) (by decide +kernel), al_mem 1389 (by decide +kernel) (by decide +kernel), al_mem 86 (by decide +kernel) (by decide +kernel)⟩
theorem ac_d : Cond.arrayClass (newarray.typeOf .double) ∈ AL := al_mem 1997 (by decide +kernel) (by decide +kernel)
theorem df_9 : ∀ j, j < Nc 9 → defaultValue (tyc 9 j) = vp_V (([true, true, true, true, true, true, true, true, true, true, true] : List Bool).map fun b => if b = true then .null else .int 0) j := by
  intro j hj
  match j, hj with
  | 0, _ => rfl
  | 1, _ => rfl
  | 2, _ => rfl
  | 3, _ => rfl
  | 4, _ => rfl
  | 5, _ => rfl
  | 6, _ => rfl
  | 7, _ => rfl
  | 8, _ => rfl
  | 9, _ => rfl
  | 10, _ => rfl
theorem df_10 : ∀ j, j < Nc 10 → defaultValue (tyc 10 j) = vp_V (([true, true, true, true, true, true, true, false, false, true, false, false, false, false, false, false, false, false, false, true, true, true, true, false, false, false, true, false] : List Bool).map fun b => if b = true then .null else .int 0) j := by
  intro j hj
  match j, hj with
  | 0, _ => rfl
  | 1, _ => rfl
  | 2, _ => rfl
  | 3, _ => rfl
  | 4, _ => rfl
  | 5, _ => rfl
  | 6, _ => rfl
  | 7, _ => rfl
  | 8, _ => rfl
  | 9, _ => rfl
  | 10, _ => rfl
  | 11, _ => rfl
  | 12, _ => rfl
  | 13, _ => rfl
  | 14, _ => rfl
  | 15, _ => rfl
  | 16, _ => rfl
  | 17, _ => rfl
  | 18, _ => rfl
  | 19, _ => rfl
  | 20, _ => rfl
  | 21, _ => rfl
  | 22, _ => rfl
  | 23, _ => rfl
  | 24, _ => rfl
  | 25, _ => rfl
  | 26, _ => rfl
  | 27, _ => rfl
  | j + 28, hj => exact absurd hj (by show ¬ j + 28 < 28; omega)
theorem he_Dd {tc : Nat → ClassId} {ad : Rf → Nat} {sh : Sh} {M : Mm} {r : Rf} {n : Nat} (hk : kd r = .inr (3, n)) : ent tc ad (shN sh r) (mN M r) r = .inl (tc 3, n, .inr (.inr (.inr (.inl fun _ => 0)))) := by
  unfold ent
  rw [hk]
  show Sum.inl (tc 3, n, Sum.inr (Sum.inr (Sum.inr (Sum.inl (fun j => ((mN M r).2 r j).toUInt64))))) = _
  rw [show (fun j => ((mN M r).2 r j).toUInt64) = fun _ => (0 : UInt64) from funext fun j => by rw [show (mN M r).2 r j = 0 from if_pos rfl]; rfl]
theorem lz_1 : agB K0 (shN SH (0, 0, 0)) (shM K0) = true := by decide +kernel
theorem lz_2 : agB (allR 0) SH (shM (allR 0)) = true := by decide +kernel
theorem lz_30 : agB T0 (shN (shM (allR 0)) (18, 0, 0)) (shX T0) = true := by decide +kernel
theorem lz_3 {M : Mm} : ∀ x ∈ allR 0 ++ [(18, 0, 0)], AgR (shN (shM (allR 0)) (18, 0, 0)) (shX T0) M M x := by
  intro x hx
  rcases List.mem_append.mp hx with hx | hx
  · have h18 := cl_18 x hx
    have n1 : x ≠ (18, 0, 0) := fun c => by rw [c] at h18; exact absurd h18 (by decide)
    exact ⟨fun i _ => by rw [shN_o n1]; unfold shX; rw [if_pos h18], fun _ => rfl, fun _ => rfl⟩
  · exact agB_spec lz_30 x hx
theorem lz_4 : agB (allR 1) SH (shM (allR 1)) = true := by decide +kernel
theorem lz_5 : agB ((allR 1 ++ [(21, 0, 0)]) ++ [(22, 0, 0)]) (shN (shN (shM (allR 1)) (21, 0, 0)) (22, 0, 0)) SH = true := by decide +kernel
theorem lz_n : (18, 0, 0) ∉ allR 0 ∧ (21, 0, 0) ∉ allR 1 ∧ (22, 0, 0) ∉ allR 1 ++ [(21, 0, 0)] := by decide +kernel
theorem lz_a2 : (allR 1 ++ [(21, 0, 0)]) ++ [(22, 0, 0)] = allR 2 := by
  show (clR ++ rfR ++ [(21, 0, 0)]) ++ [(22, 0, 0)] = clR ++ rfR ++ otR
  rw [List.append_assoc]
  rfl
theorem ls_l {b : Nat} {P : MV → Prop} {a : List (Option MV)} (h : ∀ x ∈ a, ∀ v, x = some v → P v) : ∀ (i : Nat) (v : MV), a[i]? = some (some v) → P v := fun i v hi => h _ (List.mem_of_getElem? hi) v rfl
set_option maxRecDepth 20000 in
set_option maxHeartbeats 4000000 in
theorem law_Z {b L : Nat} {xs : Nat → Int32} {xt : List ExceptionTableEntry} {nme : String} (hL : L ≤ 3072) : Z RL code 10 ret xt nme room_1 (lwQ b L xs) [] SH 0 0 0 [some (.inl (.ref b)), none, none, none, none, none, none, none, none, none] [] MI := by
  obtain ⟨MA, res, t1, t2, G⟩ := GL_start
  refine z_new (ci := 9) (r := (0, 0, 0)) (ks := [true, true, true, true, true, true, true, true, true, true, true]) List.nodup_nil List.not_mem_nil (by decide) dW_0 cw_L_8 rfl (by decide) df_9 (fun x h => absurd h List.not_mem_nil) lwQ_G (fun i v hi => ?_) (fun v h => absurd h List.not_mem_nil) (by decide) (by decide) ?_
  · match i, hi with
    | 0, hi => cases hi; exact inl_ne
    | i + 1, hi =>
      have : ([none, none, none, none, none, none, none, none, none] : List (Option MV))[i]? = some (some v) := hi
      have h2 := List.mem_of_getElem? this
      simp at h2
  rw [mNI (by decide)]
  refine z_pic (rs' := K0) (agB_spec lz_1) (fun x => Iff.rfl) ?_
  refine z_dup dW_3 rfl ?_
  refine z_callI (av := []) (nY9 t1) dW_4 ml_L_134 cd_X9_init rfl rfl ⟨by decide, by decide, by decide, by decide⟩ (Nat.le_of_ble_eq_true rfl) rfl lwQ_G (fun i v hi => ?_) (st_1 (P := inR _) (Or.inl (by decide))) ?_
  · match i, hi with
    | 0, hi => cases hi; trivial
    | i + 1, hi =>
      have : ([none, none, none, none, none, none, none, none, none] : List (Option MV))[i]? = some (some v) := hi
      have h2 := List.mem_of_getElem? this
      simp at h2
  refine z_astore_n (i := 1) dW_7 rfl (by decide) rfl ?_
  refine z_pic (agB_spec lz_2) (fun x => Iff.rfl) (z_wid (c2 := 213) (s2 := 5906) (by decide) (by decide) ?_)
  refine z_new (ci := 10) (r := (18, 0, 0)) (ks := [true, true, true, true, true, true, true, false, false, true, false, false, false, false, false, false, false, false, false, true, true, true, true, false, false, false, true, false]) allR_nd lz_n.1 (by decide) dW_8 cw_L_135 rfl (by decide) df_10 shC_M lwQ_G (fun i v hi => ?_) (fun v h => absurd h List.not_mem_nil) (by decide) (by decide) ?_
  · match i, hi with
    | 0, hi => cases hi; exact inl_ne
    | 1, hi => cases hi; exact inr_ne (by decide)
    | i + 2, hi =>
      have : ([none, none, none, none, none, none, none, none] : List (Option MV))[i]? = some (some v) := hi
      have h2 := List.mem_of_getElem? this
      simp at h2
  refine z_pic (rs' := J0) (sh' := shX T0) (M' := mN MA (18, 0, 0)) lz_3 (fun x => Iff.rfl) ?_
  refine z_dup dW_11 rfl ?_
  refine z_callI (av := []) (nY10 t2) dW_12 ml_L_137 cd_X10_init rfl rfl ⟨by decide, by decide, by decide, by decide⟩ (Nat.le_of_ble_eq_true rfl) rfl lwQ_G (fun i v hi => ?_) (st_1 (P := inR _) (Or.inl m_r)) ?_
  · match i, hi with
    | 0, hi => cases hi; trivial
    | 1, hi => cases hi; exact Or.inl (m_l mk0)
    | i + 2, hi =>
      have : ([none, none, none, none, none, none, none, none] : List (Option MV))[i]? = some (some v) := hi
      have h2 := List.mem_of_getElem? this
      simp at h2
  refine z_astore_n (i := 2) dW_15 rfl (by decide) rfl ?_
  refine z_pic (agB_spec lz_4) (fun x => Iff.rfl) (z_wid (c2 := 227) (s2 := 10660) (by decide) (by decide) ?_)
  refine z_iconst (v := (1 : Int32)) dW_16 (by decide) ?_
  refine z_newa (atype := .long) (ty := .long) (t := 2) (N := 1) (a0 := (1, .inr (.inl fun _ => 0))) (r := (21, 0, 0)) allR_nd lz_n.2.1 (by decide) dW_17 ac_l rfl (fun _ => rfl) (fun _ => rfl) (fun tc ad => he_L rfl) (by decide) (by decide) (Nat.le_of_ble_eq_true rfl) shC_M lwQ_G (fun i v hi => ?_) (fun v h => absurd h List.not_mem_nil) (by decide) (by decide) ?_
  · match i, hi with
    | 0, hi => cases hi; exact inl_ne
    | 1, hi => cases hi; exact inr_ne (by decide)
    | 2, hi => cases hi; exact inr_ne (by decide)
    | i + 3, hi =>
      have : ([none, none, none, none, none, none, none] : List (Option MV))[i]? = some (some v) := hi
      have h2 := List.mem_of_getElem? this
      simp at h2
  refine z_astore_n (i := 3) dW_19 rfl (by decide) rfl ?_
  refine z_iconst (v := (1 : Int32)) dW_20 (by decide) ?_
  refine z_newa (atype := .double) (ty := .double) (t := 3) (N := 1) (a0 := (1, .inr (.inr (.inr (.inl fun _ => 0))))) (r := (22, 0, 0)) (nd_snoc allR_nd lz_n.2.1) lz_n.2.2 (by decide) dW_21 ac_d rfl (fun _ => rfl) (fun _ => rfl) (fun tc ad => he_Dd rfl) (by decide) (by decide) (Nat.le_of_ble_eq_true rfl) (shC_N shC_M) lwQ_G (fun i v hi => ?_) (fun v h => absurd h List.not_mem_nil) (by decide) (by decide) ?_
  · match i, hi with
    | 0, hi => cases hi; exact inl_ne
    | 1, hi => cases hi; exact inr_ne (by decide)
    | 2, hi => cases hi; exact inr_ne (by decide)
    | 3, hi => cases hi; exact inr_ne (by decide)
    | i + 4, hi =>
      have : ([none, none, none, none, none, none] : List (Option MV))[i]? = some (some v) := hi
      have h2 := List.mem_of_getElem? this
      simp at h2
  refine z_astore (i := 4) dW_23 (by decide) rfl ?_
  refine z_iconst (v := (0 : Int32)) dW_25 (by decide) ?_
  refine z_istore (i := 5) dW_26 (by decide) rfl ?_
  refine z_pic (rs' := allR 2) (agB_spec lz_5) (fun x => by rw [lz_a2]) (z_wid (c2 := 229) (s2 := 10662) (by decide) (by decide) ?_)
  have hF : Fr sOut res (mN (mN res (21, 0, 0)) (22, 0, 0)) := by
    intro r hr
    have n1 : r ≠ (21, 0, 0) := fun c => by rw [c] at hr; exact absurd hr (by decide)
    have n2 : r ≠ (22, 0, 0) := fun c => by rw [c] at hr; exact absurd hr (by decide)
    exact ⟨funext fun j => (mN_o n2 j).1.trans (mN_o n1 j).1, funext fun j => (mN_o n2 j).2.trans (mN_o n1 j).2⟩
  have G2 : GL (mN (mN res (21, 0, 0)) (22, 0, 0)) := gl_fr ⟨fr_mono (fun r hr => by rw [hr]; rfl) hF, fun j _ => by rw [(hF R8 rfl).1]⟩ G
  exact law_loop hL 512 0 229 10662 _ G2 (by omega) (by omega) (by omega) (by omega)
theorem whole_start {p : Program} {e : Env} {s : State} {m : MethodId} {below : List Frame} {meth : Method} {c : Code} (l : Launch) (hflags : l.flags = flags0) {b L : Nat} {xs : Nat → Int32} (hL : L ≤ 3072) (C0 : lw_At p s m meth c b L xs) : W p l e room_1 s m #[Value.ref b] below meth c s.heap [] 0 0 (lw_Z below #[Value.ref b] s) (entryFrame m ([Value.ref b] : List Value).toArray 10) := by
  obtain ⟨hx, hb, hr, hml, hown, hts, hX, hbl, hlocks, hgv⟩ := id C0
  have hn : narrow_1.before #[Value.ref b] s = true := by
    rw [Cond.before_and, Bool.and_eq_true] at hgv
    exact hgv.2
  have hal : ∀ w ∈ AL, w.before #[Value.ref b] s = true := fun w hw => hts w (List.mem_filter.mp hw).1
  have hnw := nsw_all hts
  have hA : ∀ a : Nat, a < s.heap.size → ¬ (fun q : Nat => s.heap.size ≤ q) a := fun a h => Nat.not_le.mpr h
  obtain ⟨D, hD⟩ := kn_all hal
  obtain ⟨tc, htc⟩ := ar_all hal hnw
  have h0 : ∀ j : Nat, ∃ q : Nat × Nat, j < 22 → SP j #[Value.ref b] s (fun q : Nat => s.heap.size ≤ q) q := fun j => by
    by_cases hj : j < 22
    · obtain ⟨q, hq⟩ := sp_all hA hn j hj
      exact ⟨q, fun _ => hq⟩
    · exact ⟨(0, 0), fun h => absurd h hj⟩
  obtain ⟨f, hf⟩ := Classical.axiomOfChoice h0
  obtain ⟨ad, had⟩ : ∃ ad : Rf → Nat, ∀ j, ad (30, j, 0) = (f j).1 ∧ ad (33, j, 0) = (f j).2 := ⟨fun r => if r.1 = 30 then (f r.2.1).1 else (f r.2.1).2, fun j => ⟨if_pos rfl, if_neg (show ¬ (33 : Nat) = 30 by decide)⟩⟩
  have hst : l.stackTraces = false := by
    unfold Launch.stackTraces
    rw [hflags]
    decide +kernel
  have hFx : Fx l ad (fun q : Nat => s.heap.size ≤ q) s s.heap := by
    refine ⟨hst, fun j hj => ?_, stt_all (A := fun _ => True) hts hn (fun j hj => ?_), vx_Zqof (hts _ (List.mem_of_getElem? sl_3)) (hts _ (List.mem_of_getElem? si_3)) (nar hn _ sx_uns) hA, vx_Zqof (hts _ (List.mem_of_getElem? sl_4)) (hts _ (List.mem_of_getElem? si_3)) (nar hn _ sx_sup) hA, ⟨va_Zof (hts _ (List.mem_of_getElem? sl_1)) (hts _ (List.mem_of_getElem? si_1)) (va_eqt (nar hn _ sx_com)) hA, va_Zqof (hts _ (List.mem_of_getElem? sl_2)) (hts _ (List.mem_of_getElem? si_2)) (nar hn _ sx_fmt) hA⟩, exs_nc hn, hnw⟩
    · obtain ⟨q1, q2, q3, q4, q5⟩ := hf j hj
      rw [(had j).1, (had j).2]
      exact ⟨q2, q3, q4, q5⟩
    · rw [(had j).1]
      exact (hf j hj).1
  have hl : zl ad ((lg_sl (([.inl (.ref b)] : List MV).map (rv ad)) ++ List.replicate (10 - (lg_sl (([.inl (.ref b)] : List MV).map (rv ad))).length) Slot.unset).toArray) 10 [some (.inl (.ref b)), none, none, none, none, none, none, none, none, none] :=
    zl_entry ad (by rw [els_len]; exact Nat.le_of_ble_eq_true rfl) (fun i v h => els_pad ad (n := 9) h)
  rw [lg_entry_eq]
  refine w_mono (Q := lwQ b L xs below #[Value.ref b] s D tc ad (fun q : Nat => s.heap.size ≤ q)) (fun t ht => ht ⟨rfl, hX, hbl, hA b hbl, fun q h => h⟩) ?_
  exact law_Z (xt := c.exceptionTable.toList) (nme := meth.name) hL p l e s m #[Value.ref b] below meth c D tc ad (fun q : Nat => s.heap.size ≤ q) s.heap [] _
    ⟨hx, hb, hml, hown, hal, hlocks, hr, rfl, rfl, ⟨hD, htc⟩, fun q h => h, hFx, fun r h => absurd h List.not_mem_nil, fun r h => absurd h List.not_mem_nil⟩
    (fun k q h => by
      have : ([] : va_W)[k]? = some q := h
      simp at this) va_S.rf hl
