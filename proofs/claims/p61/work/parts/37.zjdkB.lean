set_option maxRecDepth 20000 in
theorem lp_J5_100 : lkP RJ5 100 yJ5_ensureCapacityInternal_d00df := ⟨al_mc al_c4 56 rfl (by decide +kernel), al_mc al_c4 58 rfl (by decide +kernel), al_mc al_c1 19 rfl (by decide +kernel), by decide +kernel, rfl⟩
set_option maxRecDepth 20000 in
theorem lp_J5_104 : lkP RJ5 104 yJ5_newCapacity_0f7a4 := ⟨al_mc al_c4 60 rfl (by decide +kernel), al_mc al_c4 62 rfl (by decide +kernel), al_mc al_c1 19 rfl (by decide +kernel), by decide +kernel, rfl⟩
set_option maxRecDepth 20000 in
theorem lp_J5_208 : lkP RJ5 208 yJ5_putStringAt_47b60 := ⟨al_mc al_c4 106 rfl (by decide +kernel), al_mc al_c4 108 rfl (by decide +kernel), al_mc al_c1 19 rfl (by decide +kernel), by decide +kernel, rfl⟩
set_option maxRecDepth 20000 in
theorem lu_J5_83 : lkU RJ5 83 yJ5_isLatin1_aae02 := ⟨al_mc al_c4 85 rfl (by decide +kernel), al_mc al_c4 87 rfl (by decide +kernel), al_mc al_c4 88 rfl (by decide +kernel), al_mc al_c4 86 rfl (by decide +kernel), al_mc al_c1 19 rfl (by decide +kernel), rfl⟩
set_option maxRecDepth 20000 in
theorem lw_J4_29 : lkW RJ4 29 yJ5_append_cf1ce := ⟨al_mc al_c4 49 rfl (by decide +kernel), al_mc al_c7 70 rfl (by decide +kernel), al_mc al_c4 38 rfl (by decide +kernel), al_mc al_c4 50 rfl (by decide +kernel), al_mc al_c1 19 rfl (by decide +kernel), rfl⟩
set_option maxRecDepth 20000 in
theorem lw_J4_50 : lkW RJ4 50 yJ5_append_3fe6f := ⟨al_mc al_c5 173 rfl (by decide +kernel), al_mc al_c7 78 rfl (by decide +kernel), al_mc al_c4 38 rfl (by decide +kernel), al_mc al_c5 174 rfl (by decide +kernel), al_mc al_c1 19 rfl (by decide +kernel), rfl⟩
set_option maxRecDepth 20000 in
theorem lw_J4_53 : lkW RJ4 53 yJ5_append_c97b9 := ⟨al_mc al_c4 145 rfl (by decide +kernel), al_mc al_c7 77 rfl (by decide +kernel), al_mc al_c4 38 rfl (by decide +kernel), al_mc al_c4 146 rfl (by decide +kernel), al_mc al_c1 19 rfl (by decide +kernel), rfl⟩
set_option maxRecDepth 20000 in
theorem ml_J7_150A : Cond.methodLink RJ7 150 arraycopyName ∈ AL := al_mc al_c4 84 rfl (by decide +kernel)

theorem dJ7_copyOf_9075b_0 : decode cJ7_copyOf_9075b 0 = .ok (.iload_n 1, 1) := by decide +kernel
theorem dJ7_copyOf_9075b_1 : decode cJ7_copyOf_9075b 1 = .ok (.aload_n 0, 1) := by decide +kernel
theorem dJ7_copyOf_9075b_2 : decode cJ7_copyOf_9075b 2 = .ok (.arraylength, 1) := by decide +kernel
theorem dJ7_copyOf_9075b_3 : decode cJ7_copyOf_9075b 3 = .ok (.if_icmp .ne 11, 3) := by decide +kernel
theorem dJ7_copyOf_9075b_6 : decode cJ7_copyOf_9075b 6 = .ok (.aload_n 0, 1) := by decide +kernel
theorem dJ7_copyOf_9075b_7 : decode cJ7_copyOf_9075b 7 = .ok (.invokevirtual 310, 3) := by decide +kernel
theorem dJ7_copyOf_9075b_10 : decode cJ7_copyOf_9075b 10 = .ok (.checkcast 311, 3) := by decide +kernel
theorem dJ7_copyOf_9075b_13 : decode cJ7_copyOf_9075b 13 = .ok (.areturn, 1) := by decide +kernel
theorem dJ7_copyOf_9075b_14 : decode cJ7_copyOf_9075b 14 = .ok (.iload_n 1, 1) := by decide +kernel
theorem dJ7_copyOf_9075b_15 : decode cJ7_copyOf_9075b 15 = .ok (.newarray .byte, 2) := by decide +kernel
theorem dJ7_copyOf_9075b_17 : decode cJ7_copyOf_9075b 17 = .ok (.astore_n 2, 1) := by decide +kernel
theorem dJ7_copyOf_9075b_18 : decode cJ7_copyOf_9075b 18 = .ok (.aload_n 0, 1) := by decide +kernel
theorem dJ7_copyOf_9075b_19 : decode cJ7_copyOf_9075b 19 = .ok (.iconst 0, 1) := by decide +kernel
theorem dJ7_copyOf_9075b_20 : decode cJ7_copyOf_9075b 20 = .ok (.aload_n 2, 1) := by decide +kernel
theorem dJ7_copyOf_9075b_21 : decode cJ7_copyOf_9075b 21 = .ok (.iconst 0, 1) := by decide +kernel
theorem dJ7_copyOf_9075b_22 : decode cJ7_copyOf_9075b 22 = .ok (.aload_n 0, 1) := by decide +kernel
theorem dJ7_copyOf_9075b_23 : decode cJ7_copyOf_9075b 23 = .ok (.arraylength, 1) := by decide +kernel
theorem dJ7_copyOf_9075b_24 : decode cJ7_copyOf_9075b 24 = .ok (.iload_n 1, 1) := by decide +kernel
theorem dJ7_copyOf_9075b_25 : decode cJ7_copyOf_9075b 25 = .ok (.invokestatic 304, 3) := by decide +kernel
theorem dJ7_copyOf_9075b_28 : decode cJ7_copyOf_9075b 28 = .ok (.invokestatic 150, 3) := by decide +kernel
theorem dJ7_copyOf_9075b_31 : decode cJ7_copyOf_9075b 31 = .ok (.aload_n 2, 1) := by decide +kernel
theorem dJ7_copyOf_9075b_32 : decode cJ7_copyOf_9075b 32 = .ok (.areturn, 1) := by decide +kernel
def fJ7_copyOf_9075b (M : Mm) (z : Nat) (x2 : Int32) (B : Nat) : Option Mm := if (0 : Int32) ≤ (M.1 (25, z, 0) LG) then (if x2 = (M.1 (25, z, 0) LG) then none else if ¬ x2 < 0 ∧ x2.toNatClampNeg ≤ B then (if (0 : Int32) ≤ ((nB M (27, 0, 0) x2).1 (25, z, 0) LG) then (if abOk (nB M (27, 0, 0) x2) (25, z, 0) (27, 0, 0) (0 : Int32) (fJ9_min_7cf53 (nB M (27, 0, 0) x2) ((nB M (27, 0, 0) x2).1 (25, z, 0) LG) x2) = true then some (cpB (nB M (27, 0, 0) x2) ((nB M (27, 0, 0) x2).1 (25, z, 0)) (27, 0, 0) 0 (fJ9_min_7cf53 (nB M (27, 0, 0) x2) ((nB M (27, 0, 0) x2).1 (25, z, 0) LG) x2).toNatClampNeg) else none) else none) else none) else none
set_option maxRecDepth 20000 in
set_option maxHeartbeats 2000000 in
theorem sJ7_copyOf_9075b {wv : Wv} (M : Mm) (z : Nat) (x2 : Int32) (B : Nat) (hz : TbI wv z) (hB : B ≤ LG) (hA : (wv.1 ++ [(27, 0, 0)]).Nodup ∧ clo [(27, 0, 0)]) (hf : FrI wv [(27, 0, 0)]) {res : Mm} (h : fJ7_copyOf_9075b M z x2 B = some res) : TG yJ7_copyOf_9075b cJ7_copyOf_9075b 3 (some (.array .byte)) 2 1 B [(27, 0, 0)] (allR wv) SH [.inr (25, z, 0), .inl (.int x2)] M (some (.inr (27, 0, 0))) (allR (wvA wv [(27, 0, 0)] hA)) SH res := by
  rw [fJ7_copyOf_9075b] at h
  refine TG.go (n := 1) (ls := [some (.inr (25, z, 0)), some (.inl (.int x2)), none]) (by decide +kernel) rfl rfl rfl rfl ?_
  refine z_iload_n (i := 1) dJ7_copyOf_9075b_0 rfl rfl ?_
  refine z_aload_n (i := 0) dJ7_copyOf_9075b_1 rfl rfl ?_
  obtain ⟨hc1, h⟩ := chk2 h
  refine z_alenB dJ7_copyOf_9075b_2 hz.2 rfl hc1 ?_
  refine z_icmp_ne (tgt := 14) dJ7_copyOf_9075b_3 rfl (fun hc2 => ?_) (fun hc2 => ?_)
  · have h := it_f h hc2
    refine z_iload_n (i := 1) dJ7_copyOf_9075b_14 rfl rfl ?_
    obtain ⟨hc3, h⟩ := chk2 h
    refine z_newBW (B := B) (r := (27, 0, 0)) hA hf rfl dJ7_copyOf_9075b_15 (by show 27 < 30; decide) hc3.1 hc3.2 hB (qi_G (by simp)) rfl rfl (by show _ ≤ 1; omega) (by show _ ≤ B; omega) ?_
    refine z_astore_n (i := 2) dJ7_copyOf_9075b_17 rfl (Nat.le_of_ble_eq_true rfl) rfl ?_
    refine z_aload_n (i := 0) dJ7_copyOf_9075b_18 rfl rfl ?_
    refine z_iconst (v := (0 : Int32)) dJ7_copyOf_9075b_19 kc_0 ?_
    refine z_aload_n (i := 2) dJ7_copyOf_9075b_20 rfl rfl ?_
    refine z_iconst (v := (0 : Int32)) dJ7_copyOf_9075b_21 kc_0 ?_
    refine z_aload_n (i := 0) dJ7_copyOf_9075b_22 rfl rfl ?_
    obtain ⟨hc4, h⟩ := chk2 h
    refine z_alenB dJ7_copyOf_9075b_23 (tbU hz).2 rfl hc4 ?_
    refine z_iload_n (i := 1) dJ7_copyOf_9075b_24 rfl rfl ?_
    refine z_fSi (sJ9_min_7cf53 (nB M (27, 0, 0) x2) ((nB M (27, 0, 0) x2).1 (25, z, 0) LG) x2) dJ7_copyOf_9075b_25 ml_J7_304 cd_J9_min_7cf53 rfl rfl (rmk_r (by decide) (by decide) (by omega) (by omega)) rfl rfl ?_
    obtain ⟨hc5, h⟩ := chk2 h
    refine z_acopyB allR_nd dJ7_copyOf_9075b_28 ml_J7_150A (tbU hz).2 al0 rfl rfl (abOk_1 hc5) (abOk_2 hc5) (abOk_3 hc5) (abOk_4 hc5) (abOk_5 hc5) (abOk_6 hc5) ⟨Nat.le_of_ble_eq_true rfl, Nat.le_of_ble_eq_true rfl⟩ ?_
    refine z_aload_n (i := 2) dJ7_copyOf_9075b_31 rfl rfl ?_
    obtain rfl := Option.some.inj h
    exact z_garet dJ7_copyOf_9075b_32 rfl (Or.inr ⟨_, rfl⟩) (by omega) (by omega) same_rf
  · have h := it_t h hc2
    refine z_aload_n (i := 0) dJ7_copyOf_9075b_6 rfl rfl ?_
    cases h
theorem dJ5_ensureCapacityInternal_d00df_0 : decode cJ5_ensureCapacityInternal_d00df 0 = .ok (.aload_n 0, 1) := by decide +kernel
theorem dJ5_ensureCapacityInternal_d00df_1 : decode cJ5_ensureCapacityInternal_d00df 1 = .ok (.getfield 15, 3) := by decide +kernel
theorem dJ5_ensureCapacityInternal_d00df_4 : decode cJ5_ensureCapacityInternal_d00df 4 = .ok (.arraylength, 1) := by decide +kernel
theorem dJ5_ensureCapacityInternal_d00df_5 : decode cJ5_ensureCapacityInternal_d00df 5 = .ok (.aload_n 0, 1) := by decide +kernel
theorem dJ5_ensureCapacityInternal_d00df_6 : decode cJ5_ensureCapacityInternal_d00df 6 = .ok (.getfield 22, 3) := by decide +kernel
theorem dJ5_ensureCapacityInternal_d00df_9 : decode cJ5_ensureCapacityInternal_d00df 9 = .ok (.ishr, 1) := by decide +kernel
theorem dJ5_ensureCapacityInternal_d00df_10 : decode cJ5_ensureCapacityInternal_d00df 10 = .ok (.istore_n 2, 1) := by decide +kernel
theorem dJ5_ensureCapacityInternal_d00df_11 : decode cJ5_ensureCapacityInternal_d00df 11 = .ok (.iload_n 1, 1) := by decide +kernel
theorem dJ5_ensureCapacityInternal_d00df_12 : decode cJ5_ensureCapacityInternal_d00df 12 = .ok (.iload_n 2, 1) := by decide +kernel
theorem dJ5_ensureCapacityInternal_d00df_13 : decode cJ5_ensureCapacityInternal_d00df 13 = .ok (.isub, 1) := by decide +kernel
theorem dJ5_ensureCapacityInternal_d00df_14 : decode cJ5_ensureCapacityInternal_d00df 14 = .ok (.ifCond .le 24, 3) := by decide +kernel
theorem dJ5_ensureCapacityInternal_d00df_17 : decode cJ5_ensureCapacityInternal_d00df 17 = .ok (.aload_n 0, 1) := by decide +kernel
theorem dJ5_ensureCapacityInternal_d00df_18 : decode cJ5_ensureCapacityInternal_d00df 18 = .ok (.aload_n 0, 1) := by decide +kernel
theorem dJ5_ensureCapacityInternal_d00df_19 : decode cJ5_ensureCapacityInternal_d00df 19 = .ok (.getfield 15, 3) := by decide +kernel
theorem dJ5_ensureCapacityInternal_d00df_22 : decode cJ5_ensureCapacityInternal_d00df 22 = .ok (.aload_n 0, 1) := by decide +kernel
theorem dJ5_ensureCapacityInternal_d00df_23 : decode cJ5_ensureCapacityInternal_d00df 23 = .ok (.iload_n 1, 1) := by decide +kernel
theorem dJ5_ensureCapacityInternal_d00df_24 : decode cJ5_ensureCapacityInternal_d00df 24 = .ok (.invokevirtual 104, 3) := by decide +kernel
theorem dJ5_ensureCapacityInternal_d00df_27 : decode cJ5_ensureCapacityInternal_d00df 27 = .ok (.aload_n 0, 1) := by decide +kernel
theorem dJ5_ensureCapacityInternal_d00df_28 : decode cJ5_ensureCapacityInternal_d00df 28 = .ok (.getfield 22, 3) := by decide +kernel
theorem dJ5_ensureCapacityInternal_d00df_31 : decode cJ5_ensureCapacityInternal_d00df 31 = .ok (.ishl, 1) := by decide +kernel
theorem dJ5_ensureCapacityInternal_d00df_32 : decode cJ5_ensureCapacityInternal_d00df 32 = .ok (.invokestatic 108, 3) := by decide +kernel
theorem dJ5_ensureCapacityInternal_d00df_35 : decode cJ5_ensureCapacityInternal_d00df 35 = .ok (.putfield 15, 3) := by decide +kernel
theorem dJ5_ensureCapacityInternal_d00df_38 : decode cJ5_ensureCapacityInternal_d00df 38 = .ok (.return_, 1) := by decide +kernel
def fJ5_ensureCapacityInternal_d00df (M : Mm) (z : Nat) (x2 : Int32) (B : Nat) : Option Mm := if (0 : Int32) ≤ (M.1 (25, z, 0) LG) then (if (M.1 (24, z, 0) 1) = (0 : Int32) then (if (x2 - (M.1 (25, z, 0) LG)) ≤ 0 then some M else (fJ5_newCapacity_0f7a4 M z x2).bind fun q4 => if (M.1 (24, z, 0) 1) = (0 : Int32) then ((fJ7_copyOf_9075b M z q4 B).bind fun q7 => some (mvR q7 (27, 0, 0) (25, z, 0))) else none) else none) else none
set_option maxRecDepth 20000 in
set_option maxHeartbeats 2000000 in
theorem sJ5_ensureCapacityInternal_d00df {wv : Wv} (M : Mm) (z : Nat) (x2 : Int32) (B : Nat) (hz : TbI wv z) (hB : B ≤ LG) (hf : FrI wv [(27, 0, 0)]) {res : Mm} (h : fJ5_ensureCapacityInternal_d00df M z x2 B = some res) : TG yJ5_ensureCapacityInternal_d00df cJ5_ensureCapacityInternal_d00df 3 none 3 1 B [(25, z, 0), (27, 0, 0)] (allR wv) SH [.inr (24, z, 0), .inl (.int x2)] M none (allR wv) SH res := by
  have hA : (wv.1 ++ [((27, 0, 0) : Rf)]).Nodup ∧ clo [(27, 0, 0)] := nd_clo hf rfl
  rw [fJ5_ensureCapacityInternal_d00df] at h
  refine TG.go (n := 1) (ls := [some (.inr (24, z, 0)), some (.inl (.int x2)), none]) (by decide +kernel) rfl rfl rfl rfl ?_
  refine z_aload_n (i := 0) dJ5_ensureCapacityInternal_d00df_0 rfl rfl ?_
  refine z_getR (r' := (25, z, 0)) dJ5_ensureCapacityInternal_d00df_1 fl_J5_15 hz.1 rfl rfl ?_
  obtain ⟨hc1, h⟩ := chk2 h
  refine z_alenB dJ5_ensureCapacityInternal_d00df_4 hz.2 rfl hc1 ?_
  refine z_aload_n (i := 0) dJ5_ensureCapacityInternal_d00df_5 rfl rfl ?_
  obtain ⟨hc2, h⟩ := chk2 h
  refine z_getI (x := (0 : Int32)) dJ5_ensureCapacityInternal_d00df_6 fl_J5_22 hz.1 rfl hc2 ?_
  refine z_ishr0 dJ5_ensureCapacityInternal_d00df_9 ?_
  refine z_istore_n (i := 2) dJ5_ensureCapacityInternal_d00df_10 rfl (Nat.le_of_ble_eq_true rfl) rfl ?_
  refine z_iload_n (i := 1) dJ5_ensureCapacityInternal_d00df_11 rfl rfl ?_
  refine z_iload_n (i := 2) dJ5_ensureCapacityInternal_d00df_12 rfl rfl ?_
  refine z_isub dJ5_ensureCapacityInternal_d00df_13 ?_
  refine z_if_le (tgt := 38) dJ5_ensureCapacityInternal_d00df_14 rfl (fun hc3 => ?_) (fun hc3 => ?_)
  · have h := it_t h hc3
    obtain rfl := Option.some.inj h
    exact z_gvret dJ5_ensureCapacityInternal_d00df_38 rfl (by omega) (by omega) same_rf
  · have h := it_f h hc3
    refine z_aload_n (i := 0) dJ5_ensureCapacityInternal_d00df_17 rfl rfl ?_
    refine z_aload_n (i := 0) dJ5_ensureCapacityInternal_d00df_18 rfl rfl ?_
    refine z_getR (r' := (25, z, 0)) dJ5_ensureCapacityInternal_d00df_19 fl_J5_15 hz.1 rfl rfl ?_
    refine z_aload_n (i := 0) dJ5_ensureCapacityInternal_d00df_22 rfl rfl ?_
    refine z_iload_n (i := 1) dJ5_ensureCapacityInternal_d00df_23 rfl rfl ?_
    obtain ⟨q4, hq5, h⟩ := bnd h
    refine z_cGP (tg_of (sJ5_newCapacity_0f7a4 M z x2 hz hq5)) dJ5_ensureCapacityInternal_d00df_24 lp_J5_104 cd_J5_newCapacity_0f7a4 hz.1 rfl rfl (rq_o (by decide) (by decide) (by omega) (by omega)) rfl rfl qi_nil rfl rfl rfl hzl ?_
    refine z_aload_n (i := 0) dJ5_ensureCapacityInternal_d00df_27 rfl rfl ?_
    obtain ⟨hc6, h⟩ := chk2 h
    refine z_getI (x := (0 : Int32)) dJ5_ensureCapacityInternal_d00df_28 fl_J5_22 hz.1 rfl hc6 ?_
    refine z_ishl0 dJ5_ensureCapacityInternal_d00df_31 ?_
    obtain ⟨q7, hq8, h⟩ := bnd h
    refine z_cGS (sJ7_copyOf_9075b M z q4 B hz hB hA hf hq8) dJ5_ensureCapacityInternal_d00df_32 ml_J5_108 cd_J7_copyOf_9075b rfl rfl (rq_o (by decide) (by decide) (by omega) (by omega)) rfl rfl (qi_G (by simp)) rfl rfl rfl ?_
    refine z_putV hz hf dJ5_ensureCapacityInternal_d00df_35 fl_J5_15 (qi_G (by simp)) rfl rfl ?_
    obtain rfl := Option.some.inj h
    exact z_gvret dJ5_ensureCapacityInternal_d00df_38 rfl (by omega) (by omega) same_rf
theorem dJ5_append_3fe6f_0 : decode cJ5_append_3fe6f 0 = .ok (.aload_n 0, 1) := by decide +kernel
theorem dJ5_append_3fe6f_1 : decode cJ5_append_3fe6f 1 = .ok (.aload_n 0, 1) := by decide +kernel
theorem dJ5_append_3fe6f_2 : decode cJ5_append_3fe6f 2 = .ok (.getfield 79, 3) := by decide +kernel
theorem dJ5_append_3fe6f_5 : decode cJ5_append_3fe6f 5 = .ok (.iconst 1, 1) := by decide +kernel
theorem dJ5_append_3fe6f_6 : decode cJ5_append_3fe6f 6 = .ok (.iadd, 1) := by decide +kernel
theorem dJ5_append_3fe6f_7 : decode cJ5_append_3fe6f 7 = .ok (.invokevirtual 100, 3) := by decide +kernel
theorem dJ5_append_3fe6f_10 : decode cJ5_append_3fe6f 10 = .ok (.aload_n 0, 1) := by decide +kernel
theorem dJ5_append_3fe6f_11 : decode cJ5_append_3fe6f 11 = .ok (.invokevirtual 83, 3) := by decide +kernel
theorem dJ5_append_3fe6f_14 : decode cJ5_append_3fe6f 14 = .ok (.ifCond .eq 31, 3) := by decide +kernel
theorem dJ5_append_3fe6f_17 : decode cJ5_append_3fe6f 17 = .ok (.iload_n 1, 1) := by decide +kernel
theorem dJ5_append_3fe6f_18 : decode cJ5_append_3fe6f 18 = .ok (.invokestatic 191, 3) := by decide +kernel
theorem dJ5_append_3fe6f_21 : decode cJ5_append_3fe6f 21 = .ok (.ifCond .eq 24, 3) := by decide +kernel
theorem dJ5_append_3fe6f_24 : decode cJ5_append_3fe6f 24 = .ok (.aload_n 0, 1) := by decide +kernel
theorem dJ5_append_3fe6f_25 : decode cJ5_append_3fe6f 25 = .ok (.getfield 15, 3) := by decide +kernel
theorem dJ5_append_3fe6f_28 : decode cJ5_append_3fe6f 28 = .ok (.aload_n 0, 1) := by decide +kernel
theorem dJ5_append_3fe6f_29 : decode cJ5_append_3fe6f 29 = .ok (.dup, 1) := by decide +kernel
theorem dJ5_append_3fe6f_30 : decode cJ5_append_3fe6f 30 = .ok (.getfield 79, 3) := by decide +kernel
theorem dJ5_append_3fe6f_33 : decode cJ5_append_3fe6f 33 = .ok (.dup_x1, 1) := by decide +kernel
theorem dJ5_append_3fe6f_34 : decode cJ5_append_3fe6f 34 = .ok (.iconst 1, 1) := by decide +kernel
theorem dJ5_append_3fe6f_35 : decode cJ5_append_3fe6f 35 = .ok (.iadd, 1) := by decide +kernel
theorem dJ5_append_3fe6f_36 : decode cJ5_append_3fe6f 36 = .ok (.putfield 79, 3) := by decide +kernel
theorem dJ5_append_3fe6f_39 : decode cJ5_append_3fe6f 39 = .ok (.iload_n 1, 1) := by decide +kernel
theorem dJ5_append_3fe6f_40 : decode cJ5_append_3fe6f 40 = .ok (.i2b, 1) := by decide +kernel
theorem dJ5_append_3fe6f_41 : decode cJ5_append_3fe6f 41 = .ok (.bastore, 1) := by decide +kernel
theorem dJ5_append_3fe6f_42 : decode cJ5_append_3fe6f 42 = .ok (.goto 33, 3) := by decide +kernel
theorem dJ5_append_3fe6f_45 : decode cJ5_append_3fe6f 45 = .ok (.aload_n 0, 1) := by decide +kernel
theorem dJ5_append_3fe6f_46 : decode cJ5_append_3fe6f 46 = .ok (.invokevirtual 83, 3) := by decide +kernel
theorem dJ5_append_3fe6f_49 : decode cJ5_append_3fe6f 49 = .ok (.ifCond .eq 7, 3) := by decide +kernel
theorem dJ5_append_3fe6f_52 : decode cJ5_append_3fe6f 52 = .ok (.aload_n 0, 1) := by decide +kernel
theorem dJ5_append_3fe6f_53 : decode cJ5_append_3fe6f 53 = .ok (.invokevirtual 195, 3) := by decide +kernel
theorem dJ5_append_3fe6f_56 : decode cJ5_append_3fe6f 56 = .ok (.aload_n 0, 1) := by decide +kernel
theorem dJ5_append_3fe6f_57 : decode cJ5_append_3fe6f 57 = .ok (.getfield 15, 3) := by decide +kernel
theorem dJ5_append_3fe6f_60 : decode cJ5_append_3fe6f 60 = .ok (.aload_n 0, 1) := by decide +kernel
theorem dJ5_append_3fe6f_61 : decode cJ5_append_3fe6f 61 = .ok (.dup, 1) := by decide +kernel
theorem dJ5_append_3fe6f_62 : decode cJ5_append_3fe6f 62 = .ok (.getfield 79, 3) := by decide +kernel
theorem dJ5_append_3fe6f_65 : decode cJ5_append_3fe6f 65 = .ok (.dup_x1, 1) := by decide +kernel
theorem dJ5_append_3fe6f_66 : decode cJ5_append_3fe6f 66 = .ok (.iconst 1, 1) := by decide +kernel
theorem dJ5_append_3fe6f_67 : decode cJ5_append_3fe6f 67 = .ok (.iadd, 1) := by decide +kernel
theorem dJ5_append_3fe6f_68 : decode cJ5_append_3fe6f 68 = .ok (.putfield 79, 3) := by decide +kernel
theorem dJ5_append_3fe6f_71 : decode cJ5_append_3fe6f 71 = .ok (.iload_n 1, 1) := by decide +kernel
theorem dJ5_append_3fe6f_72 : decode cJ5_append_3fe6f 72 = .ok (.invokestatic 197, 3) := by decide +kernel
theorem dJ5_append_3fe6f_75 : decode cJ5_append_3fe6f 75 = .ok (.aload_n 0, 1) := by decide +kernel
theorem dJ5_append_3fe6f_76 : decode cJ5_append_3fe6f 76 = .ok (.areturn, 1) := by decide +kernel
def fJ5_append_3fe6f (M : Mm) (z : Nat) (x2 : Int32) (B : Nat) : Option Mm := (fJ5_ensureCapacityInternal_d00df M z ((M.1 (24, z, 0) 3) + (1 : Int32)) B).bind fun q1 => (fJ5_isLatin1_aae02 q1 z).bind fun q3 => if q3 = 0 then ((fJ5_isLatin1_aae02 q1 z).bind fun q6 => if q6 = 0 then none else none) else (fJ1_canEncode_fc78d q1 x2).bind fun q9 => if q9 = 0 then ((fJ5_isLatin1_aae02 q1 z).bind fun q12 => if q12 = 0 then none else none) else if bsOk (putI q1 (24, z, 0) 3 ((q1.1 (24, z, 0) 3) + (1 : Int32))) (25, z, 0) (q1.1 (24, z, 0) 3) (x2.toInt8.toInt32) = true then some (putI (putI q1 (24, z, 0) 3 ((q1.1 (24, z, 0) 3) + (1 : Int32))) (25, z, 0) (q1.1 (24, z, 0) 3).toNatClampNeg (x2.toInt8.toInt32)) else none
set_option maxRecDepth 20000 in
set_option maxHeartbeats 2000000 in
theorem sJ5_append_3fe6f {wv : Wv} (M : Mm) (z : Nat) (x2 : Int32) (B : Nat) (hz : TbI wv z) (hB : B ≤ LG) (hf : FrI wv [(27, 0, 0)]) {res : Mm} (h : fJ5_append_3fe6f M z x2 B = some res) : TG yJ5_append_3fe6f cJ5_append_3fe6f 2 (some (.object "java/lang/AbstractStringBuilder")) 4 1 B [(25, z, 0), (27, 0, 0)] (allR wv) SH [.inr (24, z, 0), .inl (.int x2)] M (some (.inr (24, z, 0))) (allR wv) SH res := by
  rw [fJ5_append_3fe6f] at h
  refine TG.go (n := 0) (ls := [some (.inr (24, z, 0)), some (.inl (.int x2))]) (by decide +kernel) rfl rfl rfl rfl ?_
  refine z_aload_n (i := 0) dJ5_append_3fe6f_0 rfl rfl ?_
  refine z_aload_n (i := 0) dJ5_append_3fe6f_1 rfl rfl ?_
  refine z_getI (x := (M.1 (24, z, 0) 3)) dJ5_append_3fe6f_2 fl_J5_79 hz.1 rfl rfl ?_
  refine z_iconst (v := (1 : Int32)) dJ5_append_3fe6f_5 kc_1 ?_
  refine z_iadd dJ5_append_3fe6f_6 ?_
  obtain ⟨q1, hq2, h⟩ := bnd h
  refine z_cGP (sJ5_ensureCapacityInternal_d00df M z ((M.1 (24, z, 0) 3) + (1 : Int32)) B hz hB hf hq2) dJ5_append_3fe6f_7 lp_J5_100 cd_J5_ensureCapacityInternal_d00df hz.1 rfl rfl (rq_o (by decide) (by decide) (by omega) (by omega)) rfl rfl (qi_G (by simp)) rfl rfl rfl hzl ?_
  refine z_aload_n (i := 0) dJ5_append_3fe6f_10 rfl rfl ?_
  obtain ⟨q3, hq4, h⟩ := bnd h
  refine z_cGU (tg_of (sJ5_isLatin1_aae02 q1 z hz hq4)) dJ5_append_3fe6f_11 lu_J5_83 cd_J5_isLatin1_aae02 hz.1 rfl rfl (rq_o (by decide) (by decide) (by omega) (by omega)) rfl rfl qi_nil rfl rfl rfl ?_
  refine z_if_eq (tgt := 45) dJ5_append_3fe6f_14 rfl (fun hc5 => ?_) (fun hc5 => ?_)
  · have h := it_t h hc5
    refine z_aload_n (i := 0) dJ5_append_3fe6f_45 rfl rfl ?_
    obtain ⟨q6, hq7, h⟩ := bnd h
    refine z_cGU (tg_of (sJ5_isLatin1_aae02 q1 z hz hq7)) dJ5_append_3fe6f_46 lu_J5_83 cd_J5_isLatin1_aae02 hz.1 rfl rfl (rq_o (by decide) (by decide) (by omega) (by omega)) rfl rfl qi_nil rfl rfl rfl ?_
    refine z_if_eq (tgt := 56) dJ5_append_3fe6f_49 rfl (fun hc8 => ?_) (fun hc8 => ?_)
    · have h := it_t h hc8
      refine z_aload_n (i := 0) dJ5_append_3fe6f_56 rfl rfl ?_
      refine z_getR (r' := (25, z, 0)) dJ5_append_3fe6f_57 fl_J5_15 hz.1 rfl rfl ?_
      refine z_aload_n (i := 0) dJ5_append_3fe6f_60 rfl rfl ?_
      refine z_dup dJ5_append_3fe6f_61 rfl ?_
      refine z_getI (x := (q1.1 (24, z, 0) 3)) dJ5_append_3fe6f_62 fl_J5_79 hz.1 rfl rfl ?_
      refine z_dup_x1 dJ5_append_3fe6f_65 rfl rfl ?_
      refine z_iconst (v := (1 : Int32)) dJ5_append_3fe6f_66 kc_1 ?_
      refine z_iadd dJ5_append_3fe6f_67 ?_
      refine z_putI allR_nd dJ5_append_3fe6f_68 fl_J5_79 hz.1 rfl rfl ?_
      refine z_iload_n (i := 1) dJ5_append_3fe6f_71 rfl rfl ?_
      cases h
    · have h := it_f h hc8
      refine z_aload_n (i := 0) dJ5_append_3fe6f_52 rfl rfl ?_
      cases h
  · have h := it_f h hc5
    refine z_iload_n (i := 1) dJ5_append_3fe6f_17 rfl rfl ?_
    obtain ⟨q9, hq10, h⟩ := bnd h
    refine z_fSi (sJ1_canEncode_fc78d q1 x2 hq10) dJ5_append_3fe6f_18 ml_J5_191 cd_J1_canEncode_fc78d rfl rfl (rmk_r (by decide) (by decide) (by omega) (by omega)) rfl rfl ?_
    refine z_if_eq (tgt := 45) dJ5_append_3fe6f_21 rfl (fun hc11 => ?_) (fun hc11 => ?_)
    · have h := it_t h hc11
      refine z_aload_n (i := 0) dJ5_append_3fe6f_45 rfl rfl ?_
      obtain ⟨q12, hq13, h⟩ := bnd h
      refine z_cGU (tg_of (sJ5_isLatin1_aae02 q1 z hz hq13)) dJ5_append_3fe6f_46 lu_J5_83 cd_J5_isLatin1_aae02 hz.1 rfl rfl (rq_o (by decide) (by decide) (by omega) (by omega)) rfl rfl qi_nil rfl rfl rfl ?_
      refine z_if_eq (tgt := 56) dJ5_append_3fe6f_49 rfl (fun hc14 => ?_) (fun hc14 => ?_)
      · have h := it_t h hc14
        refine z_aload_n (i := 0) dJ5_append_3fe6f_56 rfl rfl ?_
        refine z_getR (r' := (25, z, 0)) dJ5_append_3fe6f_57 fl_J5_15 hz.1 rfl rfl ?_
        refine z_aload_n (i := 0) dJ5_append_3fe6f_60 rfl rfl ?_
        refine z_dup dJ5_append_3fe6f_61 rfl ?_
        refine z_getI (x := (q1.1 (24, z, 0) 3)) dJ5_append_3fe6f_62 fl_J5_79 hz.1 rfl rfl ?_
        refine z_dup_x1 dJ5_append_3fe6f_65 rfl rfl ?_
        refine z_iconst (v := (1 : Int32)) dJ5_append_3fe6f_66 kc_1 ?_
        refine z_iadd dJ5_append_3fe6f_67 ?_
        refine z_putI allR_nd dJ5_append_3fe6f_68 fl_J5_79 hz.1 rfl rfl ?_
        refine z_iload_n (i := 1) dJ5_append_3fe6f_71 rfl rfl ?_
        cases h
      · have h := it_f h hc14
        refine z_aload_n (i := 0) dJ5_append_3fe6f_52 rfl rfl ?_
        cases h
    · have h := it_f h hc11
      refine z_aload_n (i := 0) dJ5_append_3fe6f_24 rfl rfl ?_
      refine z_getR (r' := (25, z, 0)) dJ5_append_3fe6f_25 fl_J5_15 hz.1 rfl rfl ?_
      refine z_aload_n (i := 0) dJ5_append_3fe6f_28 rfl rfl ?_
      refine z_dup dJ5_append_3fe6f_29 rfl ?_
      refine z_getI (x := (q1.1 (24, z, 0) 3)) dJ5_append_3fe6f_30 fl_J5_79 hz.1 rfl rfl ?_
      refine z_dup_x1 dJ5_append_3fe6f_33 rfl rfl ?_
      refine z_iconst (v := (1 : Int32)) dJ5_append_3fe6f_34 kc_1 ?_
      refine z_iadd dJ5_append_3fe6f_35 ?_
      refine z_putI allR_nd dJ5_append_3fe6f_36 fl_J5_79 hz.1 rfl rfl ?_
      refine z_iload_n (i := 1) dJ5_append_3fe6f_39 rfl rfl ?_
      refine z_i2b (v := x2.toInt8.toInt32) dJ5_append_3fe6f_40 rfl ?_
      obtain ⟨hc15, h⟩ := chk2 h
      refine z_bast (j := (q1.1 (24, z, 0) 3).toNatClampNeg) allR_nd dJ5_append_3fe6f_41 hz.2 rfl (bsOk_i hc15) (bsOk_l hc15) rfl (bsOk_n hc15) ?_
      refine z_goto (tgt := 75) dJ5_append_3fe6f_42 rfl ?_
      refine z_aload_n (i := 0) dJ5_append_3fe6f_75 rfl rfl ?_
      obtain rfl := Option.some.inj h
      exact z_garet dJ5_append_3fe6f_76 rfl (Or.inl ⟨_, rfl⟩) (by omega) (by omega) same_rf
theorem dJ5_append_c97b9_0 : decode cJ5_append_c97b9 0 = .ok (.aload_n 0, 1) := by decide +kernel
theorem dJ5_append_c97b9_1 : decode cJ5_append_c97b9 1 = .ok (.getfield 79, 3) := by decide +kernel
theorem dJ5_append_c97b9_4 : decode cJ5_append_c97b9 4 = .ok (.istore_n 2, 1) := by decide +kernel
theorem dJ5_append_c97b9_5 : decode cJ5_append_c97b9 5 = .ok (.iload_n 2, 1) := by decide +kernel
theorem dJ5_append_c97b9_6 : decode cJ5_append_c97b9 6 = .ok (.iload_n 1, 1) := by decide +kernel
theorem dJ5_append_c97b9_7 : decode cJ5_append_c97b9 7 = .ok (.invokestatic 245, 3) := by decide +kernel
theorem dJ5_append_c97b9_10 : decode cJ5_append_c97b9 10 = .ok (.iadd, 1) := by decide +kernel
theorem dJ5_append_c97b9_11 : decode cJ5_append_c97b9 11 = .ok (.istore_n 3, 1) := by decide +kernel
theorem dJ5_append_c97b9_12 : decode cJ5_append_c97b9 12 = .ok (.aload_n 0, 1) := by decide +kernel
theorem dJ5_append_c97b9_13 : decode cJ5_append_c97b9 13 = .ok (.iload_n 3, 1) := by decide +kernel
theorem dJ5_append_c97b9_14 : decode cJ5_append_c97b9 14 = .ok (.invokevirtual 100, 3) := by decide +kernel
theorem dJ5_append_c97b9_17 : decode cJ5_append_c97b9 17 = .ok (.aload_n 0, 1) := by decide +kernel
theorem dJ5_append_c97b9_18 : decode cJ5_append_c97b9 18 = .ok (.invokevirtual 83, 3) := by decide +kernel
theorem dJ5_append_c97b9_21 : decode cJ5_append_c97b9 21 = .ok (.ifCond .eq 16, 3) := by decide +kernel
theorem dJ5_append_c97b9_24 : decode cJ5_append_c97b9 24 = .ok (.iload_n 1, 1) := by decide +kernel
theorem dJ5_append_c97b9_25 : decode cJ5_append_c97b9 25 = .ok (.iload_n 3, 1) := by decide +kernel
theorem dJ5_append_c97b9_26 : decode cJ5_append_c97b9 26 = .ok (.aload_n 0, 1) := by decide +kernel
theorem dJ5_append_c97b9_27 : decode cJ5_append_c97b9 27 = .ok (.getfield 15, 3) := by decide +kernel
theorem dJ5_append_c97b9_30 : decode cJ5_append_c97b9 30 = .ok (.invokestatic 248, 3) := by decide +kernel
theorem dJ5_append_c97b9_33 : decode cJ5_append_c97b9 33 = .ok (.pop, 1) := by decide +kernel
theorem dJ5_append_c97b9_34 : decode cJ5_append_c97b9 34 = .ok (.goto 14, 3) := by decide +kernel
theorem dJ5_append_c97b9_37 : decode cJ5_append_c97b9 37 = .ok (.iload_n 1, 1) := by decide +kernel
theorem dJ5_append_c97b9_38 : decode cJ5_append_c97b9 38 = .ok (.iload_n 2, 1) := by decide +kernel
theorem dJ5_append_c97b9_39 : decode cJ5_append_c97b9 39 = .ok (.iload_n 3, 1) := by decide +kernel
theorem dJ5_append_c97b9_40 : decode cJ5_append_c97b9 40 = .ok (.aload_n 0, 1) := by decide +kernel
theorem dJ5_append_c97b9_41 : decode cJ5_append_c97b9 41 = .ok (.getfield 15, 3) := by decide +kernel
theorem dJ5_append_c97b9_44 : decode cJ5_append_c97b9 44 = .ok (.invokestatic 251, 3) := by decide +kernel
theorem dJ5_append_c97b9_47 : decode cJ5_append_c97b9 47 = .ok (.pop, 1) := by decide +kernel
theorem dJ5_append_c97b9_48 : decode cJ5_append_c97b9 48 = .ok (.aload_n 0, 1) := by decide +kernel
theorem dJ5_append_c97b9_49 : decode cJ5_append_c97b9 49 = .ok (.iload_n 3, 1) := by decide +kernel
theorem dJ5_append_c97b9_50 : decode cJ5_append_c97b9 50 = .ok (.putfield 79, 3) := by decide +kernel
theorem dJ5_append_c97b9_53 : decode cJ5_append_c97b9 53 = .ok (.aload_n 0, 1) := by decide +kernel
theorem dJ5_append_c97b9_54 : decode cJ5_append_c97b9 54 = .ok (.areturn, 1) := by decide +kernel
def fJ5_append_c97b9 (M : Mm) (z : Nat) (x2 : Int32) (B : Nat) : Option Mm := (fJ6_stringSize_0f7a4 M x2).bind fun q1 => (fJ5_ensureCapacityInternal_d00df M z ((M.1 (24, z, 0) 3) + q1) B).bind fun q3 => (fJ5_isLatin1_aae02 q3 z).bind fun q5 => if q5 = 0 then none else (fJ6_getChars_ba4f3 q3 x2 ((M.1 (24, z, 0) 3) + q1) z).bind fun q8 => some (putI q8.2 (24, z, 0) 3 ((M.1 (24, z, 0) 3) + q1))
set_option maxRecDepth 20000 in
set_option maxHeartbeats 2000000 in
theorem sJ5_append_c97b9 {wv : Wv} (M : Mm) (z : Nat) (x2 : Int32) (B : Nat) (hz : TbI wv z) (hB : B ≤ LG) (hf : FrI wv [(27, 0, 0)]) {res : Mm} (h : fJ5_append_c97b9 M z x2 B = some res) : TG yJ5_append_c97b9 cJ5_append_c97b9 4 (some (.object "java/lang/AbstractStringBuilder")) 4 1 B [(25, z, 0), (27, 0, 0)] (allR wv) SH [.inr (24, z, 0), .inl (.int x2)] M (some (.inr (24, z, 0))) (allR wv) SH res := by
  rw [fJ5_append_c97b9] at h
  refine TG.go (n := 2) (ls := [some (.inr (24, z, 0)), some (.inl (.int x2)), none, none]) (by decide +kernel) rfl rfl rfl rfl ?_
  refine z_aload_n (i := 0) dJ5_append_c97b9_0 rfl rfl ?_
  refine z_getI (x := (M.1 (24, z, 0) 3)) dJ5_append_c97b9_1 fl_J5_79 hz.1 rfl rfl ?_
  refine z_istore_n (i := 2) dJ5_append_c97b9_4 rfl (Nat.le_of_ble_eq_true rfl) rfl ?_
  refine z_iload_n (i := 2) dJ5_append_c97b9_5 rfl rfl ?_
  refine z_iload_n (i := 1) dJ5_append_c97b9_6 rfl rfl ?_
  obtain ⟨q1, hq2, h⟩ := bnd h
  refine z_fSi (sJ6_stringSize_0f7a4 M x2 hq2) dJ5_append_c97b9_7 ml_J5_245 cd_J6_stringSize_0f7a4 rfl rfl (rmk_r (by decide) (by decide) (by omega) (by omega)) rfl rfl ?_
  refine z_iadd dJ5_append_c97b9_10 ?_
  refine z_istore_n (i := 3) dJ5_append_c97b9_11 rfl (Nat.le_of_ble_eq_true rfl) rfl ?_
  refine z_aload_n (i := 0) dJ5_append_c97b9_12 rfl rfl ?_
  refine z_iload_n (i := 3) dJ5_append_c97b9_13 rfl rfl ?_
  obtain ⟨q3, hq4, h⟩ := bnd h
  refine z_cGP (sJ5_ensureCapacityInternal_d00df M z ((M.1 (24, z, 0) 3) + q1) B hz hB hf hq4) dJ5_append_c97b9_14 lp_J5_100 cd_J5_ensureCapacityInternal_d00df hz.1 rfl rfl (rq_o (by decide) (by decide) (by omega) (by omega)) rfl rfl (qi_G (by simp)) rfl rfl rfl hzl ?_
  refine z_aload_n (i := 0) dJ5_append_c97b9_17 rfl rfl ?_
  obtain ⟨q5, hq6, h⟩ := bnd h
  refine z_cGU (tg_of (sJ5_isLatin1_aae02 q3 z hz hq6)) dJ5_append_c97b9_18 lu_J5_83 cd_J5_isLatin1_aae02 hz.1 rfl rfl (rq_o (by decide) (by decide) (by omega) (by omega)) rfl rfl qi_nil rfl rfl rfl ?_
  refine z_if_eq (tgt := 37) dJ5_append_c97b9_21 rfl (fun hc7 => ?_) (fun hc7 => ?_)
  · have h := it_t h hc7
    refine z_iload_n (i := 1) dJ5_append_c97b9_37 rfl rfl ?_
    refine z_iload_n (i := 2) dJ5_append_c97b9_38 rfl rfl ?_
    refine z_iload_n (i := 3) dJ5_append_c97b9_39 rfl rfl ?_
    refine z_aload_n (i := 0) dJ5_append_c97b9_40 rfl rfl ?_
    refine z_getR (r' := (25, z, 0)) dJ5_append_c97b9_41 fl_J5_15 hz.1 rfl rfl ?_
    cases h
  · have h := it_f h hc7
    refine z_iload_n (i := 1) dJ5_append_c97b9_24 rfl rfl ?_
    refine z_iload_n (i := 3) dJ5_append_c97b9_25 rfl rfl ?_
    refine z_aload_n (i := 0) dJ5_append_c97b9_26 rfl rfl ?_
    refine z_getR (r' := (25, z, 0)) dJ5_append_c97b9_27 fl_J5_15 hz.1 rfl rfl ?_
    obtain ⟨q8, hq9, h⟩ := bnd h
    refine z_fSi (sJ6_getChars_ba4f3 q3 x2 ((M.1 (24, z, 0) 3) + q1) z hz hq9) dJ5_append_c97b9_30 ml_J5_248 cd_J6_getChars_ba4f3 rfl rfl (rmk_r (by decide) (by decide) (by omega) (by omega)) rfl rfl ?_
    refine z_pop dJ5_append_c97b9_33 rfl ?_
    refine z_goto (tgt := 48) dJ5_append_c97b9_34 rfl ?_
    refine z_aload_n (i := 0) dJ5_append_c97b9_48 rfl rfl ?_
    refine z_iload_n (i := 3) dJ5_append_c97b9_49 rfl rfl ?_
    refine z_putI allR_nd dJ5_append_c97b9_50 fl_J5_79 hz.1 rfl rfl ?_
    refine z_aload_n (i := 0) dJ5_append_c97b9_53 rfl rfl ?_
    obtain rfl := Option.some.inj h
    exact z_garet dJ5_append_c97b9_54 rfl (Or.inl ⟨_, rfl⟩) (by omega) (by omega) same_rf
theorem dJ5_append_cf1ce_0 : decode cJ5_append_cf1ce 0 = .ok (.aload_n 1, 1) := by decide +kernel
theorem dJ5_append_cf1ce_1 : decode cJ5_append_cf1ce 1 = .ok (.ifnonnull 8, 3) := by decide +kernel
theorem dJ5_append_cf1ce_4 : decode cJ5_append_cf1ce 4 = .ok (.aload_n 0, 1) := by decide +kernel
theorem dJ5_append_cf1ce_5 : decode cJ5_append_cf1ce 5 = .ok (.invokevirtual 204, 3) := by decide +kernel
theorem dJ5_append_cf1ce_8 : decode cJ5_append_cf1ce 8 = .ok (.areturn, 1) := by decide +kernel
theorem dJ5_append_cf1ce_9 : decode cJ5_append_cf1ce 9 = .ok (.aload_n 1, 1) := by decide +kernel
theorem dJ5_append_cf1ce_10 : decode cJ5_append_cf1ce 10 = .ok (.invokevirtual 32, 3) := by decide +kernel
theorem dJ5_append_cf1ce_13 : decode cJ5_append_cf1ce 13 = .ok (.istore_n 2, 1) := by decide +kernel
theorem dJ5_append_cf1ce_14 : decode cJ5_append_cf1ce 14 = .ok (.aload_n 0, 1) := by decide +kernel
theorem dJ5_append_cf1ce_15 : decode cJ5_append_cf1ce 15 = .ok (.aload_n 0, 1) := by decide +kernel
theorem dJ5_append_cf1ce_16 : decode cJ5_append_cf1ce 16 = .ok (.getfield 79, 3) := by decide +kernel
theorem dJ5_append_cf1ce_19 : decode cJ5_append_cf1ce 19 = .ok (.iload_n 2, 1) := by decide +kernel
theorem dJ5_append_cf1ce_20 : decode cJ5_append_cf1ce 20 = .ok (.iadd, 1) := by decide +kernel
theorem dJ5_append_cf1ce_21 : decode cJ5_append_cf1ce 21 = .ok (.invokevirtual 100, 3) := by decide +kernel
theorem dJ5_append_cf1ce_24 : decode cJ5_append_cf1ce 24 = .ok (.aload_n 0, 1) := by decide +kernel
theorem dJ5_append_cf1ce_25 : decode cJ5_append_cf1ce 25 = .ok (.aload_n 0, 1) := by decide +kernel
theorem dJ5_append_cf1ce_26 : decode cJ5_append_cf1ce 26 = .ok (.getfield 79, 3) := by decide +kernel
theorem dJ5_append_cf1ce_29 : decode cJ5_append_cf1ce 29 = .ok (.aload_n 1, 1) := by decide +kernel
theorem dJ5_append_cf1ce_30 : decode cJ5_append_cf1ce 30 = .ok (.invokevirtual 208, 3) := by decide +kernel
theorem dJ5_append_cf1ce_33 : decode cJ5_append_cf1ce 33 = .ok (.aload_n 0, 1) := by decide +kernel
theorem dJ5_append_cf1ce_34 : decode cJ5_append_cf1ce 34 = .ok (.dup, 1) := by decide +kernel
theorem dJ5_append_cf1ce_35 : decode cJ5_append_cf1ce 35 = .ok (.getfield 79, 3) := by decide +kernel
theorem dJ5_append_cf1ce_38 : decode cJ5_append_cf1ce 38 = .ok (.iload_n 2, 1) := by decide +kernel
theorem dJ5_append_cf1ce_39 : decode cJ5_append_cf1ce 39 = .ok (.iadd, 1) := by decide +kernel
theorem dJ5_append_cf1ce_40 : decode cJ5_append_cf1ce 40 = .ok (.putfield 79, 3) := by decide +kernel
theorem dJ5_append_cf1ce_43 : decode cJ5_append_cf1ce 43 = .ok (.aload_n 0, 1) := by decide +kernel
theorem dJ5_append_cf1ce_44 : decode cJ5_append_cf1ce 44 = .ok (.areturn, 1) := by decide +kernel
def fJ5_append_cf1ceK (M : Mm) (z : Nat) (j : Nat) (B : Nat) : Option Mm := (fJ5_ensureCapacityInternal_d00df M z ((M.1 (24, z, 0) 3) + (slen j)) B).bind fun q1 => (fJ5_putStringAt_47b60K q1 z (q1.1 (24, z, 0) 3) j).bind fun q3 => some (putI q3 (24, z, 0) 3 ((q3.1 (24, z, 0) 3) + (slen j)))
set_option maxRecDepth 20000 in
set_option maxHeartbeats 2000000 in
theorem sJ5_append_cf1ceK {wv : Wv} (M : Mm) (z : Nat) (j : Nat) (B : Nat) (hz : TbI wv z) (hj : j < 15) (hB : B ≤ LG) (hf : FrI wv [(27, 0, 0)]) {res : Mm} (h : fJ5_append_cf1ceK M z j B = some res) : TG yJ5_append_cf1ce cJ5_append_cf1ce 3 (some (.object "java/lang/AbstractStringBuilder")) 7 1 B [(25, z, 0), (27, 0, 0)] (allR wv) SH [.inr (24, z, 0), .inr (30, j, 0)] M (some (.inr (24, z, 0))) (allR wv) SH res := by
  rw [fJ5_append_cf1ceK] at h
  refine TG.go (n := 1) (ls := [some (.inr (24, z, 0)), some (.inr (30, j, 0)), none]) (by decide +kernel) rfl rfl rfl rfl ?_
  refine z_aload_n (i := 1) dJ5_append_cf1ce_0 rfl rfl ?_
  refine z_ifnonnull (tgt := 9) dJ5_append_cf1ce_1 rfl ?_
  refine z_aload_n (i := 1) dJ5_append_cf1ce_9 rfl rfl ?_
  refine z_fTi (S_length M j hj) dJ5_append_cf1ce_10 ml_J5_32 cd_J0_length_8abf5 hj rfl rfl (rmk_r (by decide) (by decide) (by omega) (by omega)) rfl rfl ?_
  refine z_istore_n (i := 2) dJ5_append_cf1ce_13 rfl (Nat.le_of_ble_eq_true rfl) rfl ?_
  refine z_aload_n (i := 0) dJ5_append_cf1ce_14 rfl rfl ?_
  refine z_aload_n (i := 0) dJ5_append_cf1ce_15 rfl rfl ?_
  refine z_getI (x := (M.1 (24, z, 0) 3)) dJ5_append_cf1ce_16 fl_J5_79 hz.1 rfl rfl ?_
  refine z_iload_n (i := 2) dJ5_append_cf1ce_19 rfl rfl ?_
  refine z_iadd dJ5_append_cf1ce_20 ?_
  obtain ⟨q1, hq2, h⟩ := bnd h
  refine z_cGP (sJ5_ensureCapacityInternal_d00df M z ((M.1 (24, z, 0) 3) + (slen j)) B hz hB hf hq2) dJ5_append_cf1ce_21 lp_J5_100 cd_J5_ensureCapacityInternal_d00df hz.1 rfl rfl (rq_o (by decide) (by decide) (by omega) (by omega)) rfl rfl (qi_G (by simp)) rfl rfl rfl hzl ?_
  refine z_aload_n (i := 0) dJ5_append_cf1ce_24 rfl rfl ?_
  refine z_aload_n (i := 0) dJ5_append_cf1ce_25 rfl rfl ?_
  refine z_getI (x := (q1.1 (24, z, 0) 3)) dJ5_append_cf1ce_26 fl_J5_79 hz.1 rfl rfl ?_
  refine z_aload_n (i := 1) dJ5_append_cf1ce_29 rfl rfl ?_
  obtain ⟨q3, hq4, h⟩ := bnd h
  refine z_cGP (tg_of (sJ5_putStringAt_47b60K q1 z (q1.1 (24, z, 0) 3) j hz hj hq4)) dJ5_append_cf1ce_30 lp_J5_208 cd_J5_putStringAt_47b60 hz.1 rfl rfl (rq_o (by decide) (by decide) (by omega) (by omega)) rfl rfl qi_nil rfl rfl rfl hzl ?_
  refine z_aload_n (i := 0) dJ5_append_cf1ce_33 rfl rfl ?_
  refine z_dup dJ5_append_cf1ce_34 rfl ?_
  refine z_getI (x := (q3.1 (24, z, 0) 3)) dJ5_append_cf1ce_35 fl_J5_79 hz.1 rfl rfl ?_
  refine z_iload_n (i := 2) dJ5_append_cf1ce_38 rfl rfl ?_
  refine z_iadd dJ5_append_cf1ce_39 ?_
  refine z_putI allR_nd dJ5_append_cf1ce_40 fl_J5_79 hz.1 rfl rfl ?_
  refine z_aload_n (i := 0) dJ5_append_cf1ce_43 rfl rfl ?_
  obtain rfl := Option.some.inj h
  exact z_garet dJ5_append_cf1ce_44 rfl (Or.inl ⟨_, rfl⟩) (by omega) (by omega) same_rf
def fJ5_append_cf1ceM (M : Mm) (z : Nat) (y : Nat) (B : Nat) : Option Mm := (fJ0_length_8abf5M M y).bind fun q1 => (fJ5_ensureCapacityInternal_d00df M z ((M.1 (24, z, 0) 3) + q1) B).bind fun q3 => (fJ5_putStringAt_47b60M q3 z (q3.1 (24, z, 0) 3) y).bind fun q5 => some (putI q5 (24, z, 0) 3 ((q5.1 (24, z, 0) 3) + q1))
set_option maxRecDepth 20000 in
set_option maxHeartbeats 2000000 in
theorem sJ5_append_cf1ceM {wv : Wv} (M : Mm) (z : Nat) (y : Nat) (B : Nat) (hz : TbI wv z) (hy : StI wv y) (hB : B ≤ LG) (hf : FrI wv [(27, 0, 0)]) {res : Mm} (h : fJ5_append_cf1ceM M z y B = some res) : TG yJ5_append_cf1ce cJ5_append_cf1ce 3 (some (.object "java/lang/AbstractStringBuilder")) 4 1 B [(25, z, 0), (27, 0, 0)] (allR wv) SH [.inr (24, z, 0), .inr (28, y, 0)] M (some (.inr (24, z, 0))) (allR wv) SH res := by
  rw [fJ5_append_cf1ceM] at h
  refine TG.go (n := 1) (ls := [some (.inr (24, z, 0)), some (.inr (28, y, 0)), none]) (by decide +kernel) rfl rfl rfl rfl ?_
  refine z_aload_n (i := 1) dJ5_append_cf1ce_0 rfl rfl ?_
  refine z_ifnonnull (tgt := 9) dJ5_append_cf1ce_1 rfl ?_
  refine z_aload_n (i := 1) dJ5_append_cf1ce_9 rfl rfl ?_
  obtain ⟨q1, hq2, h⟩ := bnd h
  refine z_fVi (sJ0_length_8abf5M M y hy hq2) dJ5_append_cf1ce_10 ml_J5_32 cd_J0_length_8abf5 hy.1 rfl rfl rfl (rmk_r (by decide) (by decide) (by omega) (by omega)) rfl rfl ?_
  refine z_istore_n (i := 2) dJ5_append_cf1ce_13 rfl (Nat.le_of_ble_eq_true rfl) rfl ?_
  refine z_aload_n (i := 0) dJ5_append_cf1ce_14 rfl rfl ?_
  refine z_aload_n (i := 0) dJ5_append_cf1ce_15 rfl rfl ?_
  refine z_getI (x := (M.1 (24, z, 0) 3)) dJ5_append_cf1ce_16 fl_J5_79 hz.1 rfl rfl ?_
  refine z_iload_n (i := 2) dJ5_append_cf1ce_19 rfl rfl ?_
  refine z_iadd dJ5_append_cf1ce_20 ?_
  obtain ⟨q3, hq4, h⟩ := bnd h
  refine z_cGP (sJ5_ensureCapacityInternal_d00df M z ((M.1 (24, z, 0) 3) + q1) B hz hB hf hq4) dJ5_append_cf1ce_21 lp_J5_100 cd_J5_ensureCapacityInternal_d00df hz.1 rfl rfl (rq_o (by decide) (by decide) (by omega) (by omega)) rfl rfl (qi_G (by simp)) rfl rfl rfl hzl ?_
  refine z_aload_n (i := 0) dJ5_append_cf1ce_24 rfl rfl ?_
  refine z_aload_n (i := 0) dJ5_append_cf1ce_25 rfl rfl ?_
  refine z_getI (x := (q3.1 (24, z, 0) 3)) dJ5_append_cf1ce_26 fl_J5_79 hz.1 rfl rfl ?_
  refine z_aload_n (i := 1) dJ5_append_cf1ce_29 rfl rfl ?_
  obtain ⟨q5, hq6, h⟩ := bnd h
  refine z_cGP (tg_of (sJ5_putStringAt_47b60M q3 z (q3.1 (24, z, 0) 3) y hz hy hq6)) dJ5_append_cf1ce_30 lp_J5_208 cd_J5_putStringAt_47b60 hz.1 rfl rfl (rq_o (by decide) (by decide) (by omega) (by omega)) rfl rfl qi_nil rfl rfl rfl hzl ?_
  refine z_aload_n (i := 0) dJ5_append_cf1ce_33 rfl rfl ?_
  refine z_dup dJ5_append_cf1ce_34 rfl ?_
  refine z_getI (x := (q5.1 (24, z, 0) 3)) dJ5_append_cf1ce_35 fl_J5_79 hz.1 rfl rfl ?_
  refine z_iload_n (i := 2) dJ5_append_cf1ce_38 rfl rfl ?_
  refine z_iadd dJ5_append_cf1ce_39 ?_
  refine z_putI allR_nd dJ5_append_cf1ce_40 fl_J5_79 hz.1 rfl rfl ?_
  refine z_aload_n (i := 0) dJ5_append_cf1ce_43 rfl rfl ?_
  obtain rfl := Option.some.inj h
  exact z_garet dJ5_append_cf1ce_44 rfl (Or.inl ⟨_, rfl⟩) (by omega) (by omega) same_rf
theorem dJ4_append_cf468_0 : decode cJ4_append_cf468 0 = .ok (.aload_n 0, 1) := by decide +kernel
theorem dJ4_append_cf468_1 : decode cJ4_append_cf468 1 = .ok (.iload_n 1, 1) := by decide +kernel
theorem dJ4_append_cf468_2 : decode cJ4_append_cf468 2 = .ok (.invokespecial 50, 3) := by decide +kernel
theorem dJ4_append_cf468_5 : decode cJ4_append_cf468 5 = .ok (.pop, 1) := by decide +kernel
theorem dJ4_append_cf468_6 : decode cJ4_append_cf468 6 = .ok (.aload_n 0, 1) := by decide +kernel
theorem dJ4_append_cf468_7 : decode cJ4_append_cf468 7 = .ok (.areturn, 1) := by decide +kernel
def fJ4_append_cf468 (M : Mm) (z : Nat) (x2 : Int32) (B : Nat) : Option Mm := (fJ5_append_3fe6f M z x2 B).bind fun q1 => some q1
set_option maxRecDepth 20000 in
set_option maxHeartbeats 2000000 in
theorem sJ4_append_cf468 {wv : Wv} (M : Mm) (z : Nat) (x2 : Int32) (B : Nat) (hz : TbI wv z) (hB : B ≤ LG) (hf : FrI wv [(27, 0, 0)]) {res : Mm} (h : fJ4_append_cf468 M z x2 B = some res) : TG yJ4_append_cf468 cJ4_append_cf468 2 (some (.object "java/lang/StringBuilder")) 5 1 B [(25, z, 0), (27, 0, 0)] (allR wv) SH [.inr (24, z, 0), .inl (.int x2)] M (some (.inr (24, z, 0))) (allR wv) SH res := by
  rw [fJ4_append_cf468] at h
  refine TG.go (n := 0) (ls := [some (.inr (24, z, 0)), some (.inl (.int x2))]) (by decide +kernel) rfl rfl rfl rfl ?_
  refine z_aload_n (i := 0) dJ4_append_cf468_0 rfl rfl ?_
  refine z_iload_n (i := 1) dJ4_append_cf468_1 rfl rfl ?_
  obtain ⟨q1, hq2, h⟩ := bnd h
  refine z_cGW (sJ5_append_3fe6f M z x2 B hz hB hf hq2) dJ4_append_cf468_2 lw_J4_50 cd_J5_append_3fe6f hz.1 rfl rfl (rq_o (by decide) (by decide) (by omega) (by omega)) rfl rfl (qi_G (by simp)) rfl rfl rfl ?_
  refine z_pop dJ4_append_cf468_5 rfl ?_
  refine z_aload_n (i := 0) dJ4_append_cf468_6 rfl rfl ?_
  obtain rfl := Option.some.inj h
  exact z_garet dJ4_append_cf468_7 rfl (Or.inl ⟨_, rfl⟩) (by omega) (by omega) same_rf
theorem dJ4_append_bf812_0 : decode cJ4_append_bf812 0 = .ok (.aload_n 0, 1) := by decide +kernel
theorem dJ4_append_bf812_1 : decode cJ4_append_bf812 1 = .ok (.iload_n 1, 1) := by decide +kernel
theorem dJ4_append_bf812_2 : decode cJ4_append_bf812 2 = .ok (.invokespecial 53, 3) := by decide +kernel
theorem dJ4_append_bf812_5 : decode cJ4_append_bf812 5 = .ok (.pop, 1) := by decide +kernel
theorem dJ4_append_bf812_6 : decode cJ4_append_bf812 6 = .ok (.aload_n 0, 1) := by decide +kernel
theorem dJ4_append_bf812_7 : decode cJ4_append_bf812 7 = .ok (.areturn, 1) := by decide +kernel
def fJ4_append_bf812 (M : Mm) (z : Nat) (x2 : Int32) (B : Nat) : Option Mm := (fJ5_append_c97b9 M z x2 B).bind fun q1 => some q1
set_option maxRecDepth 20000 in
set_option maxHeartbeats 2000000 in
theorem sJ4_append_bf812 {wv : Wv} (M : Mm) (z : Nat) (x2 : Int32) (B : Nat) (hz : TbI wv z) (hB : B ≤ LG) (hf : FrI wv [(27, 0, 0)]) {res : Mm} (h : fJ4_append_bf812 M z x2 B = some res) : TG yJ4_append_bf812 cJ4_append_bf812 2 (some (.object "java/lang/StringBuilder")) 5 1 B [(25, z, 0), (27, 0, 0)] (allR wv) SH [.inr (24, z, 0), .inl (.int x2)] M (some (.inr (24, z, 0))) (allR wv) SH res := by
  rw [fJ4_append_bf812] at h
  refine TG.go (n := 0) (ls := [some (.inr (24, z, 0)), some (.inl (.int x2))]) (by decide +kernel) rfl rfl rfl rfl ?_
  refine z_aload_n (i := 0) dJ4_append_bf812_0 rfl rfl ?_
  refine z_iload_n (i := 1) dJ4_append_bf812_1 rfl rfl ?_
  obtain ⟨q1, hq2, h⟩ := bnd h
  refine z_cGW (sJ5_append_c97b9 M z x2 B hz hB hf hq2) dJ4_append_bf812_2 lw_J4_53 cd_J5_append_c97b9 hz.1 rfl rfl (rq_o (by decide) (by decide) (by omega) (by omega)) rfl rfl (qi_G (by simp)) rfl rfl rfl ?_
  refine z_pop dJ4_append_bf812_5 rfl ?_
  refine z_aload_n (i := 0) dJ4_append_bf812_6 rfl rfl ?_
  obtain rfl := Option.some.inj h
  exact z_garet dJ4_append_bf812_7 rfl (Or.inl ⟨_, rfl⟩) (by omega) (by omega) same_rf
theorem dJ4_append_15ec4_0 : decode cJ4_append_15ec4 0 = .ok (.aload_n 0, 1) := by decide +kernel
theorem dJ4_append_15ec4_1 : decode cJ4_append_15ec4 1 = .ok (.aload_n 1, 1) := by decide +kernel
theorem dJ4_append_15ec4_2 : decode cJ4_append_15ec4 2 = .ok (.invokespecial 29, 3) := by decide +kernel
theorem dJ4_append_15ec4_5 : decode cJ4_append_15ec4 5 = .ok (.pop, 1) := by decide +kernel
theorem dJ4_append_15ec4_6 : decode cJ4_append_15ec4 6 = .ok (.aload_n 0, 1) := by decide +kernel
theorem dJ4_append_15ec4_7 : decode cJ4_append_15ec4 7 = .ok (.areturn, 1) := by decide +kernel
def fJ4_append_15ec4K (M : Mm) (z : Nat) (j : Nat) (B : Nat) : Option Mm := (fJ5_append_cf1ceK M z j B).bind fun q1 => some q1
set_option maxRecDepth 20000 in
set_option maxHeartbeats 2000000 in
theorem sJ4_append_15ec4K {wv : Wv} (M : Mm) (z : Nat) (j : Nat) (B : Nat) (hz : TbI wv z) (hj : j < 15) (hB : B ≤ LG) (hf : FrI wv [(27, 0, 0)]) {res : Mm} (h : fJ4_append_15ec4K M z j B = some res) : TG yJ4_append_15ec4 cJ4_append_15ec4 2 (some (.object "java/lang/StringBuilder")) 8 1 B [(25, z, 0), (27, 0, 0)] (allR wv) SH [.inr (24, z, 0), .inr (30, j, 0)] M (some (.inr (24, z, 0))) (allR wv) SH res := by
  rw [fJ4_append_15ec4K] at h
  refine TG.go (n := 0) (ls := [some (.inr (24, z, 0)), some (.inr (30, j, 0))]) (by decide +kernel) rfl rfl rfl rfl ?_
  refine z_aload_n (i := 0) dJ4_append_15ec4_0 rfl rfl ?_
  refine z_aload_n (i := 1) dJ4_append_15ec4_1 rfl rfl ?_
  obtain ⟨q1, hq2, h⟩ := bnd h
  refine z_cGW (sJ5_append_cf1ceK M z j B hz hj hB hf hq2) dJ4_append_15ec4_2 lw_J4_29 cd_J5_append_cf1ce hz.1 rfl rfl (rq_o (by decide) (by decide) (by omega) (by omega)) rfl rfl (qi_G (by simp)) rfl rfl rfl ?_
  refine z_pop dJ4_append_15ec4_5 rfl ?_
  refine z_aload_n (i := 0) dJ4_append_15ec4_6 rfl rfl ?_
  obtain rfl := Option.some.inj h
  exact z_garet dJ4_append_15ec4_7 rfl (Or.inl ⟨_, rfl⟩) (by omega) (by omega) same_rf
def fJ4_append_15ec4M (M : Mm) (z : Nat) (y : Nat) (B : Nat) : Option Mm := (fJ5_append_cf1ceM M z y B).bind fun q1 => some q1
set_option maxRecDepth 20000 in
set_option maxHeartbeats 2000000 in
theorem sJ4_append_15ec4M {wv : Wv} (M : Mm) (z : Nat) (y : Nat) (B : Nat) (hz : TbI wv z) (hy : StI wv y) (hB : B ≤ LG) (hf : FrI wv [(27, 0, 0)]) {res : Mm} (h : fJ4_append_15ec4M M z y B = some res) : TG yJ4_append_15ec4 cJ4_append_15ec4 2 (some (.object "java/lang/StringBuilder")) 5 1 B [(25, z, 0), (27, 0, 0)] (allR wv) SH [.inr (24, z, 0), .inr (28, y, 0)] M (some (.inr (24, z, 0))) (allR wv) SH res := by
  rw [fJ4_append_15ec4M] at h
  refine TG.go (n := 0) (ls := [some (.inr (24, z, 0)), some (.inr (28, y, 0))]) (by decide +kernel) rfl rfl rfl rfl ?_
  refine z_aload_n (i := 0) dJ4_append_15ec4_0 rfl rfl ?_
  refine z_aload_n (i := 1) dJ4_append_15ec4_1 rfl rfl ?_
  obtain ⟨q1, hq2, h⟩ := bnd h
  refine z_cGW (sJ5_append_cf1ceM M z y B hz hy hB hf hq2) dJ4_append_15ec4_2 lw_J4_29 cd_J5_append_cf1ce hz.1 rfl rfl (rq_o (by decide) (by decide) (by omega) (by omega)) rfl rfl (qi_G (by simp)) rfl rfl rfl ?_
  refine z_pop dJ4_append_15ec4_5 rfl ?_
  refine z_aload_n (i := 0) dJ4_append_15ec4_6 rfl rfl ?_
  obtain rfl := Option.some.inj h
  exact z_garet dJ4_append_15ec4_7 rfl (Or.inl ⟨_, rfl⟩) (by omega) (by omega) same_rf
theorem dJ4_append_cf1ce_0 : decode cJ4_append_cf1ce 0 = .ok (.aload_n 0, 1) := by decide +kernel
theorem dJ4_append_cf1ce_1 : decode cJ4_append_cf1ce 1 = .ok (.aload_n 1, 1) := by decide +kernel
theorem dJ4_append_cf1ce_2 : decode cJ4_append_cf1ce 2 = .ok (.invokevirtual 23, 3) := by decide +kernel
theorem dJ4_append_cf1ce_5 : decode cJ4_append_cf1ce 5 = .ok (.areturn, 1) := by decide +kernel
def fJ4_append_cf1ceK (M : Mm) (z : Nat) (j : Nat) (B : Nat) : Option Mm := (fJ4_append_15ec4K M z j B).bind fun q1 => some q1
set_option maxRecDepth 20000 in
set_option maxHeartbeats 2000000 in
theorem sJ4_append_cf1ceK {wv : Wv} (M : Mm) (z : Nat) (j : Nat) (B : Nat) (hz : TbI wv z) (hj : j < 15) (hB : B ≤ LG) (hf : FrI wv [(27, 0, 0)]) {res : Mm} (h : fJ4_append_cf1ceK M z j B = some res) : TG yJ4_append_cf1ce cJ4_append_cf1ce 2 (some (.object "java/lang/AbstractStringBuilder")) 9 1 B [(25, z, 0), (27, 0, 0)] (allR wv) SH [.inr (24, z, 0), .inr (30, j, 0)] M (some (.inr (24, z, 0))) (allR wv) SH res := by
  rw [fJ4_append_cf1ceK] at h
  refine TG.go (n := 0) (ls := [some (.inr (24, z, 0)), some (.inr (30, j, 0))]) (by decide +kernel) rfl rfl rfl rfl ?_
  refine z_aload_n (i := 0) dJ4_append_cf1ce_0 rfl rfl ?_
  refine z_aload_n (i := 1) dJ4_append_cf1ce_1 rfl rfl ?_
  obtain ⟨q1, hq2, h⟩ := bnd h
  refine z_cGV (sJ4_append_15ec4K M z j B hz hj hB hf hq2) dJ4_append_cf1ce_2 ml_J4_23 cd_J4_append_15ec4 hz.1 rfl rfl rfl (rq_o (by decide) (by decide) (by omega) (by omega)) rfl rfl (qi_G (by simp)) rfl rfl rfl ?_
  obtain rfl := Option.some.inj h
  exact z_garet dJ4_append_cf1ce_5 rfl (Or.inl ⟨_, rfl⟩) (by omega) (by omega) same_rf
theorem dJ5_getValue_6d5f1_0 : decode cJ5_getValue_6d5f1 0 = .ok (.aload_n 0, 1) := by decide +kernel
theorem dJ5_getValue_6d5f1_1 : decode cJ5_getValue_6d5f1 1 = .ok (.getfield 15, 3) := by decide +kernel
theorem dJ5_getValue_6d5f1_4 : decode cJ5_getValue_6d5f1 4 = .ok (.areturn, 1) := by decide +kernel
def fJ5_getValue_6d5f1 (M : Mm) (z : Nat) : Option Mm := some M
set_option maxRecDepth 20000 in
set_option maxHeartbeats 2000000 in
theorem sJ5_getValue_6d5f1 {wv : Wv} (M : Mm) (z : Nat) (hz : TbI wv z) {res : Mm} (h : fJ5_getValue_6d5f1 M z = some res) : TG yJ5_getValue_6d5f1 cJ5_getValue_6d5f1 1 (some (.array .byte)) 0 0 0 [] (allR wv) SH [.inr (24, z, 0)] M (some (.inr (25, z, 0))) (allR wv) SH res := by
  rw [fJ5_getValue_6d5f1] at h
  refine TG.go (n := 0) (ls := [some (.inr (24, z, 0))]) (by decide +kernel) rfl rfl rfl rfl ?_
  refine z_aload_n (i := 0) dJ5_getValue_6d5f1_0 rfl rfl ?_
  refine z_getR (r' := (25, z, 0)) dJ5_getValue_6d5f1_1 fl_J5_15 hz.1 rfl rfl ?_
  obtain rfl := Option.some.inj h
  exact z_garet dJ5_getValue_6d5f1_4 rfl (Or.inr ⟨_, rfl⟩) (by omega) (by omega) same_rf
theorem dJ7_copyOfRangeByte_39247_0 : decode cJ7_copyOfRangeByte_39247 0 = .ok (.iload_n 1, 1) := by decide +kernel
theorem dJ7_copyOfRangeByte_39247_1 : decode cJ7_copyOfRangeByte_39247 1 = .ok (.iload_n 2, 1) := by decide +kernel
theorem dJ7_copyOfRangeByte_39247_2 : decode cJ7_copyOfRangeByte_39247 2 = .ok (.invokestatic 343, 3) := by decide +kernel
theorem dJ7_copyOfRangeByte_39247_5 : decode cJ7_copyOfRangeByte_39247 5 = .ok (.iload_n 2, 1) := by decide +kernel
theorem dJ7_copyOfRangeByte_39247_6 : decode cJ7_copyOfRangeByte_39247 6 = .ok (.iload_n 1, 1) := by decide +kernel
theorem dJ7_copyOfRangeByte_39247_7 : decode cJ7_copyOfRangeByte_39247 7 = .ok (.isub, 1) := by decide +kernel
theorem dJ7_copyOfRangeByte_39247_8 : decode cJ7_copyOfRangeByte_39247 8 = .ok (.istore_n 3, 1) := by decide +kernel
theorem dJ7_copyOfRangeByte_39247_9 : decode cJ7_copyOfRangeByte_39247 9 = .ok (.iload_n 3, 1) := by decide +kernel
theorem dJ7_copyOfRangeByte_39247_10 : decode cJ7_copyOfRangeByte_39247 10 = .ok (.newarray .byte, 2) := by decide +kernel
theorem dJ7_copyOfRangeByte_39247_12 : decode cJ7_copyOfRangeByte_39247 12 = .ok (.astore 4, 2) := by decide +kernel
theorem dJ7_copyOfRangeByte_39247_14 : decode cJ7_copyOfRangeByte_39247 14 = .ok (.aload_n 0, 1) := by decide +kernel
theorem dJ7_copyOfRangeByte_39247_15 : decode cJ7_copyOfRangeByte_39247 15 = .ok (.iload_n 1, 1) := by decide +kernel
theorem dJ7_copyOfRangeByte_39247_16 : decode cJ7_copyOfRangeByte_39247 16 = .ok (.aload 4, 2) := by decide +kernel
theorem dJ7_copyOfRangeByte_39247_18 : decode cJ7_copyOfRangeByte_39247 18 = .ok (.iconst 0, 1) := by decide +kernel
theorem dJ7_copyOfRangeByte_39247_19 : decode cJ7_copyOfRangeByte_39247 19 = .ok (.aload_n 0, 1) := by decide +kernel
theorem dJ7_copyOfRangeByte_39247_20 : decode cJ7_copyOfRangeByte_39247 20 = .ok (.arraylength, 1) := by decide +kernel
theorem dJ7_copyOfRangeByte_39247_21 : decode cJ7_copyOfRangeByte_39247 21 = .ok (.iload_n 1, 1) := by decide +kernel
theorem dJ7_copyOfRangeByte_39247_22 : decode cJ7_copyOfRangeByte_39247 22 = .ok (.isub, 1) := by decide +kernel
theorem dJ7_copyOfRangeByte_39247_23 : decode cJ7_copyOfRangeByte_39247 23 = .ok (.iload_n 3, 1) := by decide +kernel
theorem dJ7_copyOfRangeByte_39247_24 : decode cJ7_copyOfRangeByte_39247 24 = .ok (.invokestatic 304, 3) := by decide +kernel
theorem dJ7_copyOfRangeByte_39247_27 : decode cJ7_copyOfRangeByte_39247 27 = .ok (.invokestatic 150, 3) := by decide +kernel
theorem dJ7_copyOfRangeByte_39247_30 : decode cJ7_copyOfRangeByte_39247 30 = .ok (.aload 4, 2) := by decide +kernel
theorem dJ7_copyOfRangeByte_39247_32 : decode cJ7_copyOfRangeByte_39247 32 = .ok (.areturn, 1) := by decide +kernel
def fJ7_copyOfRangeByte_39247 (M : Mm) (z : Nat) (x3 : Int32) (B : Nat) (y2 : Nat) : Option Mm := (fJ7_checkLength_df160 M (0 : Int32) x3).bind fun q1 => if ¬ (x3 - (0 : Int32)) < 0 ∧ (x3 - (0 : Int32)).toNatClampNeg ≤ B then (if (0 : Int32) ≤ ((nB M (29, y2, 0) (x3 - (0 : Int32))).1 (25, z, 0) LG) then (if abOk (nB M (29, y2, 0) (x3 - (0 : Int32))) (25, z, 0) (29, y2, 0) (0 : Int32) (fJ9_min_7cf53 (nB M (29, y2, 0) (x3 - (0 : Int32))) (((nB M (29, y2, 0) (x3 - (0 : Int32))).1 (25, z, 0) LG) - (0 : Int32)) (x3 - (0 : Int32))) = true then some (cpB (nB M (29, y2, 0) (x3 - (0 : Int32))) ((nB M (29, y2, 0) (x3 - (0 : Int32))).1 (25, z, 0)) (29, y2, 0) 0 (fJ9_min_7cf53 (nB M (29, y2, 0) (x3 - (0 : Int32))) (((nB M (29, y2, 0) (x3 - (0 : Int32))).1 (25, z, 0) LG) - (0 : Int32)) (x3 - (0 : Int32))).toNatClampNeg) else none) else none) else none
set_option maxRecDepth 20000 in
set_option maxHeartbeats 2000000 in
theorem sJ7_copyOfRangeByte_39247 {wv : Wv} (M : Mm) (z : Nat) (x3 : Int32) (B : Nat) (y2 : Nat) (hz : TbI wv z) (hB : B ≤ LG) (hA : (wv.1 ++ [(29, y2, 0)]).Nodup ∧ clo [(29, y2, 0)]) (hf : FrI wv [(29, y2, 0)]) {res : Mm} (h : fJ7_copyOfRangeByte_39247 M z x3 B y2 = some res) : TG yJ7_copyOfRangeByte_39247 cJ7_copyOfRangeByte_39247 5 (some (.array .byte)) 2 1 B [(29, y2, 0)] (allR wv) SH [.inr (25, z, 0), .inl (.int (0 : Int32)), .inl (.int x3)] M (some (.inr (29, y2, 0))) (allR (wvA wv [(29, y2, 0)] hA)) SH res := by
  rw [fJ7_copyOfRangeByte_39247] at h
  refine TG.go (n := 2) (ls := [some (.inr (25, z, 0)), some (.inl (.int (0 : Int32))), some (.inl (.int x3)), none, none]) (by decide +kernel) rfl rfl rfl rfl ?_
  refine z_iload_n (i := 1) dJ7_copyOfRangeByte_39247_0 rfl rfl ?_
  refine z_iload_n (i := 2) dJ7_copyOfRangeByte_39247_1 rfl rfl ?_
  obtain ⟨q1, hq2, h⟩ := bnd h
  refine z_fSv (sJ7_checkLength_df160 M (0 : Int32) x3 hq2) dJ7_copyOfRangeByte_39247_2 ml_J7_343 cd_J7_checkLength_df160 rfl rfl (rmk_r (by decide) (by decide) (by omega) (by omega)) rfl rfl ?_
  refine z_iload_n (i := 2) dJ7_copyOfRangeByte_39247_5 rfl rfl ?_
  refine z_iload_n (i := 1) dJ7_copyOfRangeByte_39247_6 rfl rfl ?_
  refine z_isub dJ7_copyOfRangeByte_39247_7 ?_
  refine z_istore_n (i := 3) dJ7_copyOfRangeByte_39247_8 rfl (Nat.le_of_ble_eq_true rfl) rfl ?_
  refine z_iload_n (i := 3) dJ7_copyOfRangeByte_39247_9 rfl rfl ?_
  obtain ⟨hc3, h⟩ := chk2 h
  refine z_newBW (B := B) (r := (29, y2, 0)) hA hf rfl dJ7_copyOfRangeByte_39247_10 (by show 29 < 30; decide) hc3.1 hc3.2 hB (qi_G (by simp)) rfl rfl (by show _ ≤ 1; omega) (by show _ ≤ B; omega) ?_
  refine z_astore (i := 4) dJ7_copyOfRangeByte_39247_12 (Nat.le_of_ble_eq_true rfl) rfl ?_
  refine z_aload_n (i := 0) dJ7_copyOfRangeByte_39247_14 rfl rfl ?_
  refine z_iload_n (i := 1) dJ7_copyOfRangeByte_39247_15 rfl rfl ?_
  refine z_aload (i := 4) dJ7_copyOfRangeByte_39247_16 rfl ?_
  refine z_iconst (v := (0 : Int32)) dJ7_copyOfRangeByte_39247_18 kc_0 ?_
  refine z_aload_n (i := 0) dJ7_copyOfRangeByte_39247_19 rfl rfl ?_
  obtain ⟨hc4, h⟩ := chk2 h
  refine z_alenB dJ7_copyOfRangeByte_39247_20 (tbU hz).2 rfl hc4 ?_
  refine z_iload_n (i := 1) dJ7_copyOfRangeByte_39247_21 rfl rfl ?_
  refine z_isub dJ7_copyOfRangeByte_39247_22 ?_
  refine z_iload_n (i := 3) dJ7_copyOfRangeByte_39247_23 rfl rfl ?_
  refine z_fSi (sJ9_min_7cf53 (nB M (29, y2, 0) (x3 - (0 : Int32))) (((nB M (29, y2, 0) (x3 - (0 : Int32))).1 (25, z, 0) LG) - (0 : Int32)) (x3 - (0 : Int32))) dJ7_copyOfRangeByte_39247_24 ml_J7_304 cd_J9_min_7cf53 rfl rfl (rmk_r (by decide) (by decide) (by omega) (by omega)) rfl rfl ?_
  obtain ⟨hc5, h⟩ := chk2 h
  refine z_acopyB allR_nd dJ7_copyOfRangeByte_39247_27 ml_J7_150A (tbU hz).2 al0 rfl rfl (abOk_1 hc5) (abOk_2 hc5) (abOk_3 hc5) (abOk_4 hc5) (abOk_5 hc5) (abOk_6 hc5) ⟨Nat.le_of_ble_eq_true rfl, Nat.le_of_ble_eq_true rfl⟩ ?_
  refine z_aload (i := 4) dJ7_copyOfRangeByte_39247_30 rfl ?_
  obtain rfl := Option.some.inj h
  exact z_garet dJ7_copyOfRangeByte_39247_32 rfl (Or.inr ⟨_, rfl⟩) (by omega) (by omega) same_rf
theorem dJ7_copyOfRange_39247_0 : decode cJ7_copyOfRange_39247 0 = .ok (.iload_n 1, 1) := by decide +kernel
theorem dJ7_copyOfRange_39247_1 : decode cJ7_copyOfRange_39247 1 = .ok (.ifCond .ne 9, 3) := by decide +kernel
theorem dJ7_copyOfRange_39247_4 : decode cJ7_copyOfRange_39247 4 = .ok (.iload_n 2, 1) := by decide +kernel
theorem dJ7_copyOfRange_39247_5 : decode cJ7_copyOfRange_39247 5 = .ok (.aload_n 0, 1) := by decide +kernel
theorem dJ7_copyOfRange_39247_6 : decode cJ7_copyOfRange_39247 6 = .ok (.arraylength, 1) := by decide +kernel
theorem dJ7_copyOfRange_39247_7 : decode cJ7_copyOfRange_39247 7 = .ok (.if_icmp .eq 10, 3) := by decide +kernel
theorem dJ7_copyOfRange_39247_10 : decode cJ7_copyOfRange_39247 10 = .ok (.aload_n 0, 1) := by decide +kernel
theorem dJ7_copyOfRange_39247_11 : decode cJ7_copyOfRange_39247 11 = .ok (.iload_n 1, 1) := by decide +kernel
theorem dJ7_copyOfRange_39247_12 : decode cJ7_copyOfRange_39247 12 = .ok (.iload_n 2, 1) := by decide +kernel
theorem dJ7_copyOfRange_39247_13 : decode cJ7_copyOfRange_39247 13 = .ok (.invokestatic 339, 3) := by decide +kernel
theorem dJ7_copyOfRange_39247_16 : decode cJ7_copyOfRange_39247 16 = .ok (.areturn, 1) := by decide +kernel
theorem dJ7_copyOfRange_39247_17 : decode cJ7_copyOfRange_39247 17 = .ok (.aload_n 0, 1) := by decide +kernel
theorem dJ7_copyOfRange_39247_18 : decode cJ7_copyOfRange_39247 18 = .ok (.invokevirtual 310, 3) := by decide +kernel
theorem dJ7_copyOfRange_39247_21 : decode cJ7_copyOfRange_39247 21 = .ok (.checkcast 311, 3) := by decide +kernel
theorem dJ7_copyOfRange_39247_24 : decode cJ7_copyOfRange_39247 24 = .ok (.areturn, 1) := by decide +kernel
def fJ7_copyOfRange_39247 (M : Mm) (z : Nat) (x3 : Int32) (B : Nat) (y2 : Nat) : Option Mm := if (0 : Int32) ≤ (M.1 (25, z, 0) LG) then (if x3 = (M.1 (25, z, 0) LG) then (if fitB (M.1 (25, z, 0)) (M.1 (25, z, 0) LG).toNatClampNeg = true ∧ (M.1 (25, z, 0) LG).toNatClampNeg ≤ B then some (mvR M (25, z, 0) (29, y2, 0)) else none) else (fJ7_copyOfRangeByte_39247 M z x3 B y2).bind fun q5 => some q5) else none
set_option maxRecDepth 20000 in
set_option maxHeartbeats 2000000 in
theorem sJ7_copyOfRange_39247 {wv : Wv} (M : Mm) (z : Nat) (x3 : Int32) (B : Nat) (y2 : Nat) (hz : TbI wv z) (hB : B ≤ LG) (hA : (wv.1 ++ [(29, y2, 0)]).Nodup ∧ clo [(29, y2, 0)]) (hf : FrI wv [(29, y2, 0)]) {res : Mm} (h : fJ7_copyOfRange_39247 M z x3 B y2 = some res) : TG yJ7_copyOfRange_39247 cJ7_copyOfRange_39247 3 (some (.array .byte)) 3 1 B [(29, y2, 0)] (allR wv) SH [.inr (25, z, 0), .inl (.int (0 : Int32)), .inl (.int x3)] M (some (.inr (29, y2, 0))) (allR (wvA wv [(29, y2, 0)] hA)) SH res := by
  rw [fJ7_copyOfRange_39247] at h
  refine TG.go (n := 0) (ls := [some (.inr (25, z, 0)), some (.inl (.int (0 : Int32))), some (.inl (.int x3))]) (by decide +kernel) rfl rfl rfl rfl ?_
  refine z_iload_n (i := 1) dJ7_copyOfRange_39247_0 rfl rfl ?_
  refine z_if_ne (tgt := 10) dJ7_copyOfRange_39247_1 rfl (fun hc1 => absurd hc1 (by decide)) (fun hc1 => ?_)
  refine z_iload_n (i := 2) dJ7_copyOfRange_39247_4 rfl rfl ?_
  refine z_aload_n (i := 0) dJ7_copyOfRange_39247_5 rfl rfl ?_
  obtain ⟨hc2, h⟩ := chk2 h
  refine z_alenB dJ7_copyOfRange_39247_6 hz.2 rfl hc2 ?_
  refine z_icmp_eq (tgt := 17) dJ7_copyOfRange_39247_7 rfl (fun hc3 => ?_) (fun hc3 => ?_)
  · have h := it_t h hc3
    refine z_aload_n (i := 0) dJ7_copyOfRange_39247_17 rfl rfl ?_
    obtain ⟨hc4, h⟩ := chk2 h
    refine z_cloneB (B := B) (r' := (29, y2, 0)) hA hf hz.2 rfl rfl dJ7_copyOfRange_39247_18 cl_lnk (by show 29 < 30; decide) hc4.1 hc4.2 (qi_G (by simp)) rfl rfl (Nat.le_of_ble_eq_true rfl) (by show _ ≤ 1; omega) (by show _ ≤ B; omega) (Nat.le_of_ble_eq_true rfl) ?_
    refine z_castB dJ7_copyOfRange_39247_21 cl_cst al0 rfl ?_
    obtain rfl := Option.some.inj h
    exact z_garet dJ7_copyOfRange_39247_24 rfl (Or.inr ⟨_, rfl⟩) (by omega) (by omega) same_rf
  · have h := it_f h hc3
    refine z_aload_n (i := 0) dJ7_copyOfRange_39247_10 rfl rfl ?_
    refine z_iload_n (i := 1) dJ7_copyOfRange_39247_11 rfl rfl ?_
    refine z_iload_n (i := 2) dJ7_copyOfRange_39247_12 rfl rfl ?_
    obtain ⟨q5, hq6, h⟩ := bnd h
    refine z_cGS (sJ7_copyOfRangeByte_39247 M z x3 B y2 hz hB hA hf hq6) dJ7_copyOfRange_39247_13 ml_J7_339 cd_J7_copyOfRangeByte_39247 rfl rfl (rq_o (by decide) (by decide) (by omega) (by omega)) rfl rfl (qi_G (by simp)) rfl rfl rfl ?_
    obtain rfl := Option.some.inj h
    exact z_garet dJ7_copyOfRange_39247_16 rfl (Or.inr ⟨_, rfl⟩) (by omega) (by omega) same_rf
