theorem dX10_runScript_0 : decode cX10_runScript 0 = .ok (.aload_n 0, 1) := by decide +kernel
theorem dX10_runScript_1 : decode cX10_runScript 1 = .ok (.iconst 0, 1) := by decide +kernel
theorem dX10_runScript_2 : decode cX10_runScript 2 = .ok (.putfield 79, 3) := by decide +kernel
theorem dX10_runScript_5 : decode cX10_runScript 5 = .ok (.aload_n 0, 1) := by decide +kernel
theorem dX10_runScript_6 : decode cX10_runScript 6 = .ok (.invokevirtual 73, 3) := by decide +kernel
theorem dX10_runScript_9 : decode cX10_runScript 9 = .ok (.aload_n 0, 1) := by decide +kernel
theorem dX10_runScript_10 : decode cX10_runScript 10 = .ok (.iconst 0, 1) := by decide +kernel
theorem dX10_runScript_11 : decode cX10_runScript 11 = .ok (.putfield 224, 3) := by decide +kernel
theorem dX10_runScript_14 : decode cX10_runScript 14 = .ok (.aload_n 0, 1) := by decide +kernel
theorem dX10_runScript_15 : decode cX10_runScript 15 = .ok (.iconst 0, 1) := by decide +kernel
theorem dX10_runScript_16 : decode cX10_runScript 16 = .ok (.invokevirtual 221, 3) := by decide +kernel
theorem dX10_runScript_19 : decode cX10_runScript 19 = .ok (.aload_n 0, 1) := by decide +kernel
theorem dX10_runScript_20 : decode cX10_runScript 20 = .ok (.aload_n 0, 1) := by decide +kernel
theorem dX10_runScript_21 : decode cX10_runScript 21 = .ok (.getfield 143, 3) := by decide +kernel
theorem dX10_runScript_24 : decode cX10_runScript 24 = .ok (.ifCond .ne 7, 3) := by decide +kernel
theorem dX10_runScript_27 : decode cX10_runScript 27 = .ok (.iconst 1, 1) := by decide +kernel
theorem dX10_runScript_28 : decode cX10_runScript 28 = .ok (.goto 4, 3) := by decide +kernel
theorem dX10_runScript_31 : decode cX10_runScript 31 = .ok (.iconst 0, 1) := by decide +kernel
theorem dX10_runScript_32 : decode cX10_runScript 32 = .ok (.iconst 1, 1) := by decide +kernel
theorem dX10_runScript_33 : decode cX10_runScript 33 = .ok (.invokevirtual 161, 3) := by decide +kernel
theorem dX10_runScript_36 : decode cX10_runScript 36 = .ok (.pop, 1) := by decide +kernel
theorem dX10_runScript_37 : decode cX10_runScript 37 = .ok (.aload_n 0, 1) := by decide +kernel
theorem dX10_runScript_38 : decode cX10_runScript 38 = .ok (.invokevirtual 196, 3) := by decide +kernel
theorem dX10_runScript_41 : decode cX10_runScript 41 = .ok (.ifCond .ne 5, 3) := by decide +kernel
theorem dX10_runScript_44 : decode cX10_runScript 44 = .ok (.iconst (-1), 1) := by decide +kernel
theorem dX10_runScript_45 : decode cX10_runScript 45 = .ok (.ireturn, 1) := by decide +kernel
theorem dX10_runScript_46 : decode cX10_runScript 46 = .ok (.aload_n 0, 1) := by decide +kernel
theorem dX10_runScript_47 : decode cX10_runScript 47 = .ok (.invokevirtual 281, 3) := by decide +kernel
theorem dX10_runScript_50 : decode cX10_runScript 50 = .ok (.aload_n 0, 1) := by decide +kernel
theorem dX10_runScript_51 : decode cX10_runScript 51 = .ok (.iconst 1, 1) := by decide +kernel
theorem dX10_runScript_52 : decode cX10_runScript 52 = .ok (.putfield 284, 3) := by decide +kernel
theorem dX10_runScript_55 : decode cX10_runScript 55 = .ok (.aload_n 0, 1) := by decide +kernel
theorem dX10_runScript_56 : decode cX10_runScript 56 = .ok (.iconst 0, 1) := by decide +kernel
theorem dX10_runScript_57 : decode cX10_runScript 57 = .ok (.putfield 275, 3) := by decide +kernel
theorem dX10_runScript_60 : decode cX10_runScript 60 = .ok (.aload_n 0, 1) := by decide +kernel
theorem dX10_runScript_61 : decode cX10_runScript 61 = .ok (.iconst 0, 1) := by decide +kernel
theorem dX10_runScript_62 : decode cX10_runScript 62 = .ok (.aload_n 0, 1) := by decide +kernel
theorem dX10_runScript_63 : decode cX10_runScript 63 = .ok (.getfield 224, 3) := by decide +kernel
theorem dX10_runScript_66 : decode cX10_runScript 66 = .ok (.invokevirtual 272, 3) := by decide +kernel
theorem dX10_runScript_69 : decode cX10_runScript 69 = .ok (.istore_n 1, 1) := by decide +kernel
theorem dX10_runScript_70 : decode cX10_runScript 70 = .ok (.aload_n 0, 1) := by decide +kernel
theorem dX10_runScript_71 : decode cX10_runScript 71 = .ok (.iconst 0, 1) := by decide +kernel
theorem dX10_runScript_72 : decode cX10_runScript 72 = .ok (.putfield 284, 3) := by decide +kernel
theorem dX10_runScript_75 : decode cX10_runScript 75 = .ok (.aload_n 0, 1) := by decide +kernel
theorem dX10_runScript_76 : decode cX10_runScript 76 = .ok (.iconst 0, 1) := by decide +kernel
theorem dX10_runScript_77 : decode cX10_runScript 77 = .ok (.putfield 79, 3) := by decide +kernel
theorem dX10_runScript_80 : decode cX10_runScript 80 = .ok (.aload_n 0, 1) := by decide +kernel
theorem dX10_runScript_81 : decode cX10_runScript 81 = .ok (.getfield 275, 3) := by decide +kernel
theorem dX10_runScript_84 : decode cX10_runScript 84 = .ok (.ireturn, 1) := by decide +kernel
def fX10_runScript (M : Mm) : Option (Int32 × Mm) := (fX10_starts (putI M (18, 0, 0) 8 (0 : Int32))).bind fun q1 => (gX10_readsCommands 6 (putI q1 (18, 0, 0) 23 (0 : Int32)) (0 : Int32)).bind fun q3 => if (q3.1 (18, 0, 0) 15) = 0 then ((fX10_must q3 (1 : Int32) (1 : Int32)).bind fun q15 => (fX10_isWhole q15.2).bind fun q17 => if q17.1 = 0 then some ((-1 : Int32), q17.2) else (fX10_keeps q17.2).bind fun q20 => (gX10_doesAll 6 (putI (putI q20 (18, 0, 0) 25 (1 : Int32)) (18, 0, 0) 24 (0 : Int32)) (0 : Int32) (q20.1 (18, 0, 0) 23)).bind fun q22 => some ((q22.2.1 (18, 0, 0) 24), (putI (putI q22.2 (18, 0, 0) 25 (0 : Int32)) (18, 0, 0) 8 (0 : Int32)))) else (fX10_must q3 (0 : Int32) (1 : Int32)).bind fun q6 => (fX10_isWhole q6.2).bind fun q8 => if q8.1 = 0 then some ((-1 : Int32), q8.2) else (fX10_keeps q8.2).bind fun q11 => (gX10_doesAll 6 (putI (putI q11 (18, 0, 0) 25 (1 : Int32)) (18, 0, 0) 24 (0 : Int32)) (0 : Int32) (q11.1 (18, 0, 0) 23)).bind fun q13 => some ((q13.2.1 (18, 0, 0) 24), (putI (putI q13.2 (18, 0, 0) 25 (0 : Int32)) (18, 0, 0) 8 (0 : Int32)))
set_option maxRecDepth 20000 in
set_option maxHeartbeats 2000000 in
theorem sX10_runScript {wv : Nat} (M : Mm) {res : (Int32 × Mm)} (h : fX10_runScript M  = some res) : TF (wv + 1) yX10_runScript cX10_runScript 2 (some .int) 67 [.inr (18, 0, 0)] M (some (.int res.1)) res.2 := by
  rw [fX10_runScript] at h
  refine TF.go (n := 1) (ls := [some (.inr (18, 0, 0)), none]) rfl rfl rfl rfl rfl ?_
  refine z_aload_n (i := 0) dX10_runScript_0 rfl rfl ?_
  refine z_iconst (v := (0 : Int32)) dX10_runScript_1 kc_0 ?_
  refine z_putI allR_nd dX10_runScript_2 fl_X10_79 mk18 rfl rfl ?_
  refine z_aload_n (i := 0) dX10_runScript_5 rfl rfl ?_
  obtain ⟨q1, hq2, h⟩ := bnd h
  refine z_fVv (sX10_starts (putI M (18, 0, 0) 8 (0 : Int32)) hq2) dX10_runScript_6 ml_X10_73 cd_X10_starts mk18 rfl rfl rfl rfl rfl rfl ?_
  refine z_aload_n (i := 0) dX10_runScript_9 rfl rfl ?_
  refine z_iconst (v := (0 : Int32)) dX10_runScript_10 kc_0 ?_
  refine z_putI allR_nd dX10_runScript_11 fl_X10_224 mk18 rfl rfl ?_
  refine z_aload_n (i := 0) dX10_runScript_14 rfl rfl ?_
  refine z_iconst (v := (0 : Int32)) dX10_runScript_15 kc_0 ?_
  obtain ⟨q3, hq4, h⟩ := bnd h
  refine z_fVv (uX10_readsCommands 6 (putI q1 (18, 0, 0) 23 (0 : Int32)) (0 : Int32) _ hq4) dX10_runScript_16 ml_X10_221 cd_X10_readsCommands mk18 rfl rfl rfl rfl rfl rfl ?_
  refine z_aload_n (i := 0) dX10_runScript_19 rfl rfl ?_
  refine z_aload_n (i := 0) dX10_runScript_20 rfl rfl ?_
  refine z_getI (x := (q3.1 (18, 0, 0) 15)) dX10_runScript_21 fl_X10_143 mk18 rfl rfl ?_
  refine z_if_ne (tgt := 31) dX10_runScript_24 rfl (fun hc5 => ?_) (fun hc5 => ?_)
  · have h := it_f h hc5
    refine z_iconst (v := (0 : Int32)) dX10_runScript_31 kc_0 ?_
    refine z_iconst (v := (1 : Int32)) dX10_runScript_32 kc_1 ?_
    obtain ⟨q6, hq7, h⟩ := bnd h
    refine z_fVi (sX10_must q3 (0 : Int32) (1 : Int32) hq7) dX10_runScript_33 ml_X10_161 cd_X10_must mk18 rfl rfl rfl rfl rfl rfl ?_
    refine z_pop dX10_runScript_36 rfl ?_
    refine z_aload_n (i := 0) dX10_runScript_37 rfl rfl ?_
    obtain ⟨q8, hq9, h⟩ := bnd h
    refine z_fVi (sX10_isWhole q6.2 hq9) dX10_runScript_38 ml_X10_196 cd_X10_isWhole mk18 rfl rfl rfl rfl rfl rfl ?_
    refine z_if_ne (tgt := 46) dX10_runScript_41 rfl (fun hc10 => ?_) (fun hc10 => ?_)
    · have h := it_f h hc10
      refine z_aload_n (i := 0) dX10_runScript_46 rfl rfl ?_
      obtain ⟨q11, hq12, h⟩ := bnd h
      refine z_fVv (sX10_keeps q8.2 hq12) dX10_runScript_47 ml_X10_281 cd_X10_keeps mk18 rfl rfl rfl rfl rfl rfl ?_
      refine z_aload_n (i := 0) dX10_runScript_50 rfl rfl ?_
      refine z_iconst (v := (1 : Int32)) dX10_runScript_51 kc_1 ?_
      refine z_putX allR_nd dX10_runScript_52 fl_X10_284 mk18 rfl rfl rfl rfl ?_
      refine z_aload_n (i := 0) dX10_runScript_55 rfl rfl ?_
      refine z_iconst (v := (0 : Int32)) dX10_runScript_56 kc_0 ?_
      refine z_putI allR_nd dX10_runScript_57 fl_X10_275 mk18 rfl rfl ?_
      refine z_aload_n (i := 0) dX10_runScript_60 rfl rfl ?_
      refine z_iconst (v := (0 : Int32)) dX10_runScript_61 kc_0 ?_
      refine z_aload_n (i := 0) dX10_runScript_62 rfl rfl ?_
      refine z_getI (x := (q11.1 (18, 0, 0) 23)) dX10_runScript_63 fl_X10_224 mk18 rfl rfl ?_
      obtain ⟨q13, hq14, h⟩ := bnd h
      refine z_fVi (uX10_doesAll 6 (putI (putI q11 (18, 0, 0) 25 (1 : Int32)) (18, 0, 0) 24 (0 : Int32)) (0 : Int32) (q11.1 (18, 0, 0) 23) _ hq14) dX10_runScript_66 ml_X10_272 cd_X10_doesAll mk18 rfl rfl rfl rfl rfl rfl ?_
      refine z_istore_n (i := 1) dX10_runScript_69 rfl (Nat.le_of_ble_eq_true rfl) rfl ?_
      refine z_aload_n (i := 0) dX10_runScript_70 rfl rfl ?_
      refine z_iconst (v := (0 : Int32)) dX10_runScript_71 kc_0 ?_
      refine z_putX allR_nd dX10_runScript_72 fl_X10_284 mk18 rfl rfl rfl rfl ?_
      refine z_aload_n (i := 0) dX10_runScript_75 rfl rfl ?_
      refine z_iconst (v := (0 : Int32)) dX10_runScript_76 kc_0 ?_
      refine z_putI allR_nd dX10_runScript_77 fl_X10_79 mk18 rfl rfl ?_
      refine z_aload_n (i := 0) dX10_runScript_80 rfl rfl ?_
      refine z_getI (x := (q13.2.1 (18, 0, 0) 24)) dX10_runScript_81 fl_X10_275 mk18 rfl rfl ?_
      cases h
      exact z_iret dX10_runScript_84 rfl rfl (Nat.le_refl _) (Nat.le_refl _) ⟨rfl, rfl⟩
    · have h := it_t h hc10
      refine z_iconst (v := (-1 : Int32)) dX10_runScript_44 kc_m1 ?_
      cases h
      exact z_iret dX10_runScript_45 rfl rfl (Nat.le_refl _) (Nat.le_refl _) ⟨rfl, rfl⟩
  · have h := it_t h hc5
    refine z_iconst (v := (1 : Int32)) dX10_runScript_27 kc_1 ?_
    refine z_goto (tgt := 32) dX10_runScript_28 rfl ?_
    refine z_iconst (v := (1 : Int32)) dX10_runScript_32 kc_1 ?_
    obtain ⟨q15, hq16, h⟩ := bnd h
    refine z_fVi (sX10_must q3 (1 : Int32) (1 : Int32) hq16) dX10_runScript_33 ml_X10_161 cd_X10_must mk18 rfl rfl rfl rfl rfl rfl ?_
    refine z_pop dX10_runScript_36 rfl ?_
    refine z_aload_n (i := 0) dX10_runScript_37 rfl rfl ?_
    obtain ⟨q17, hq18, h⟩ := bnd h
    refine z_fVi (sX10_isWhole q15.2 hq18) dX10_runScript_38 ml_X10_196 cd_X10_isWhole mk18 rfl rfl rfl rfl rfl rfl ?_
    refine z_if_ne (tgt := 46) dX10_runScript_41 rfl (fun hc19 => ?_) (fun hc19 => ?_)
    · have h := it_f h hc19
      refine z_aload_n (i := 0) dX10_runScript_46 rfl rfl ?_
      obtain ⟨q20, hq21, h⟩ := bnd h
      refine z_fVv (sX10_keeps q17.2 hq21) dX10_runScript_47 ml_X10_281 cd_X10_keeps mk18 rfl rfl rfl rfl rfl rfl ?_
      refine z_aload_n (i := 0) dX10_runScript_50 rfl rfl ?_
      refine z_iconst (v := (1 : Int32)) dX10_runScript_51 kc_1 ?_
      refine z_putX allR_nd dX10_runScript_52 fl_X10_284 mk18 rfl rfl rfl rfl ?_
      refine z_aload_n (i := 0) dX10_runScript_55 rfl rfl ?_
      refine z_iconst (v := (0 : Int32)) dX10_runScript_56 kc_0 ?_
      refine z_putI allR_nd dX10_runScript_57 fl_X10_275 mk18 rfl rfl ?_
      refine z_aload_n (i := 0) dX10_runScript_60 rfl rfl ?_
      refine z_iconst (v := (0 : Int32)) dX10_runScript_61 kc_0 ?_
      refine z_aload_n (i := 0) dX10_runScript_62 rfl rfl ?_
      refine z_getI (x := (q20.1 (18, 0, 0) 23)) dX10_runScript_63 fl_X10_224 mk18 rfl rfl ?_
      obtain ⟨q22, hq23, h⟩ := bnd h
      refine z_fVi (uX10_doesAll 6 (putI (putI q20 (18, 0, 0) 25 (1 : Int32)) (18, 0, 0) 24 (0 : Int32)) (0 : Int32) (q20.1 (18, 0, 0) 23) _ hq23) dX10_runScript_66 ml_X10_272 cd_X10_doesAll mk18 rfl rfl rfl rfl rfl rfl ?_
      refine z_istore_n (i := 1) dX10_runScript_69 rfl (Nat.le_of_ble_eq_true rfl) rfl ?_
      refine z_aload_n (i := 0) dX10_runScript_70 rfl rfl ?_
      refine z_iconst (v := (0 : Int32)) dX10_runScript_71 kc_0 ?_
      refine z_putX allR_nd dX10_runScript_72 fl_X10_284 mk18 rfl rfl rfl rfl ?_
      refine z_aload_n (i := 0) dX10_runScript_75 rfl rfl ?_
      refine z_iconst (v := (0 : Int32)) dX10_runScript_76 kc_0 ?_
      refine z_putI allR_nd dX10_runScript_77 fl_X10_79 mk18 rfl rfl ?_
      refine z_aload_n (i := 0) dX10_runScript_80 rfl rfl ?_
      refine z_getI (x := (q22.2.1 (18, 0, 0) 24)) dX10_runScript_81 fl_X10_275 mk18 rfl rfl ?_
      cases h
      exact z_iret dX10_runScript_84 rfl rfl (Nat.le_refl _) (Nat.le_refl _) ⟨rfl, rfl⟩
    · have h := it_t h hc19
      refine z_iconst (v := (-1 : Int32)) dX10_runScript_44 kc_m1 ?_
      cases h
      exact z_iret dX10_runScript_45 rfl rfl (Nat.le_refl _) (Nat.le_refl _) ⟨rfl, rfl⟩
theorem dX10_tells_0 : decode cX10_tells 0 = .ok (.aload_n 0, 1) := by decide +kernel
theorem dX10_tells_1 : decode cX10_tells 1 = .ok (.iconst 0, 1) := by decide +kernel
theorem dX10_tells_2 : decode cX10_tells 2 = .ok (.putfield 79, 3) := by decide +kernel
theorem dX10_tells_5 : decode cX10_tells 5 = .ok (.aload_n 0, 1) := by decide +kernel
theorem dX10_tells_6 : decode cX10_tells 6 = .ok (.getfield 7, 3) := by decide +kernel
theorem dX10_tells_9 : decode cX10_tells 9 = .ok (.iload_n 1, 1) := by decide +kernel
theorem dX10_tells_10 : decode cX10_tells 10 = .ok (.iaload, 1) := by decide +kernel
theorem dX10_tells_11 : decode cX10_tells 11 = .ok (.ireturn, 1) := by decide +kernel
def fX10_tells (M : Mm) (x1 : Int32) : Option (Int32 × Mm) := if x1 < 0 ∨ 280 ≤ x1.toNatClampNeg then none else some ((M.1 (19, 0, 0) x1.toNatClampNeg), (putI M (18, 0, 0) 8 (0 : Int32)))
set_option maxRecDepth 20000 in
set_option maxHeartbeats 2000000 in
theorem sX10_tells {wv : Nat} (M : Mm) (x1 : Int32) {res : (Int32 × Mm)} (h : fX10_tells M x1 = some res) : TF (wv + 1) yX10_tells cX10_tells 2 (some .int) 0 [.inr (18, 0, 0), .inl (.int x1)] M (some (.int res.1)) res.2 := by
  rw [fX10_tells] at h
  refine TF.go (n := 0) (ls := [some (.inr (18, 0, 0)), some (.inl (.int x1))]) rfl rfl rfl rfl rfl ?_
  refine z_aload_n (i := 0) dX10_tells_0 rfl rfl ?_
  refine z_iconst (v := (0 : Int32)) dX10_tells_1 kc_0 ?_
  refine z_putI allR_nd dX10_tells_2 fl_X10_79 mk18 rfl rfl ?_
  refine z_aload_n (i := 0) dX10_tells_5 rfl rfl ?_
  refine z_getR (r' := (19, 0, 0)) dX10_tells_6 fl_X10_7 mk18 rfl rfl ?_
  refine z_iload_n (i := 1) dX10_tells_9 rfl rfl ?_
  obtain ⟨hc1, h⟩ := chk h
  refine z_iald (x := (M.1 (19, 0, 0) x1.toNatClampNeg)) dX10_tells_10 (m19 _ (Nat.le_of_ble_eq_true rfl)) rfl hc1 rfl ?_
  cases h
  exact z_iret dX10_tells_11 rfl rfl (Nat.le_refl _) (Nat.le_refl _) ⟨rfl, rfl⟩
theorem dX10_findsTune_0 : decode cX10_findsTune 0 = .ok (.aload_n 0, 1) := by decide +kernel
theorem dX10_findsTune_1 : decode cX10_findsTune 1 = .ok (.iconst 0, 1) := by decide +kernel
theorem dX10_findsTune_2 : decode cX10_findsTune 2 = .ok (.putfield 79, 3) := by decide +kernel
theorem dX10_findsTune_5 : decode cX10_findsTune 5 = .ok (.aload_n 0, 1) := by decide +kernel
theorem dX10_findsTune_6 : decode cX10_findsTune 6 = .ok (.aload_n 0, 1) := by decide +kernel
theorem dX10_findsTune_7 : decode cX10_findsTune 7 = .ok (.iload_n 1, 1) := by decide +kernel
theorem dX10_findsTune_8 : decode cX10_findsTune 8 = .ok (.invokevirtual 288, 3) := by decide +kernel
theorem dX10_findsTune_11 : decode cX10_findsTune 11 = .ok (.iconst 1, 1) := by decide +kernel
theorem dX10_findsTune_12 : decode cX10_findsTune 12 = .ok (.invokevirtual 127, 3) := by decide +kernel
theorem dX10_findsTune_15 : decode cX10_findsTune 15 = .ok (.ireturn, 1) := by decide +kernel
def fX10_findsTune (M : Mm) (x1 : Int32) : Option (Int32 × Mm) := (fX10_right (putI M (18, 0, 0) 8 (0 : Int32)) (fX10_isTune (putI M (18, 0, 0) 8 (0 : Int32)) x1) (1 : Int32)).bind fun q1 => some ((bz q1.1), q1.2)
set_option maxRecDepth 20000 in
set_option maxHeartbeats 2000000 in
theorem sX10_findsTune {wv : Nat} (M : Mm) (x1 : Int32) {res : (Int32 × Mm)} (h : fX10_findsTune M x1 = some res) : TF (wv + 1) yX10_findsTune cX10_findsTune 2 (some .boolean) 2 [.inr (18, 0, 0), .inl (.int x1)] M (some (.int res.1)) res.2 := by
  rw [fX10_findsTune] at h
  refine TF.go (n := 0) (ls := [some (.inr (18, 0, 0)), some (.inl (.int x1))]) rfl rfl rfl rfl rfl ?_
  refine z_aload_n (i := 0) dX10_findsTune_0 rfl rfl ?_
  refine z_iconst (v := (0 : Int32)) dX10_findsTune_1 kc_0 ?_
  refine z_putI allR_nd dX10_findsTune_2 fl_X10_79 mk18 rfl rfl ?_
  refine z_aload_n (i := 0) dX10_findsTune_5 rfl rfl ?_
  refine z_aload_n (i := 0) dX10_findsTune_6 rfl rfl ?_
  refine z_iload_n (i := 1) dX10_findsTune_7 rfl rfl ?_
  refine z_fVi (sX10_isTune (putI M (18, 0, 0) 8 (0 : Int32)) x1) dX10_findsTune_8 ml_X10_288 cd_X10_isTune mk18 rfl rfl rfl rfl rfl rfl ?_
  refine z_iconst (v := (1 : Int32)) dX10_findsTune_11 kc_1 ?_
  obtain ⟨q1, hq2, h⟩ := bnd h
  refine z_fVi (sX10_right (putI M (18, 0, 0) 8 (0 : Int32)) (fX10_isTune (putI M (18, 0, 0) 8 (0 : Int32)) x1) (1 : Int32) hq2) dX10_findsTune_12 ml_X10_127 cd_X10_right mk18 rfl rfl rfl rfl rfl rfl ?_
  cases h
  exact z_iret dX10_findsTune_15 rfl (bz_ok _) (Nat.le_refl _) (Nat.le_refl _) ⟨rfl, rfl⟩
theorem dX10_findsTooth_0 : decode cX10_findsTooth 0 = .ok (.aload_n 0, 1) := by decide +kernel
theorem dX10_findsTooth_1 : decode cX10_findsTooth 1 = .ok (.iconst 0, 1) := by decide +kernel
theorem dX10_findsTooth_2 : decode cX10_findsTooth 2 = .ok (.putfield 79, 3) := by decide +kernel
theorem dX10_findsTooth_5 : decode cX10_findsTooth 5 = .ok (.aload_n 0, 1) := by decide +kernel
theorem dX10_findsTooth_6 : decode cX10_findsTooth 6 = .ok (.aload_n 0, 1) := by decide +kernel
theorem dX10_findsTooth_7 : decode cX10_findsTooth 7 = .ok (.iload_n 1, 1) := by decide +kernel
theorem dX10_findsTooth_8 : decode cX10_findsTooth 8 = .ok (.invokevirtual 291, 3) := by decide +kernel
theorem dX10_findsTooth_11 : decode cX10_findsTooth 11 = .ok (.iconst 1, 1) := by decide +kernel
theorem dX10_findsTooth_12 : decode cX10_findsTooth 12 = .ok (.invokevirtual 127, 3) := by decide +kernel
theorem dX10_findsTooth_15 : decode cX10_findsTooth 15 = .ok (.ireturn, 1) := by decide +kernel
def fX10_findsTooth (M : Mm) (x1 : Int32) : Option (Int32 × Mm) := (fX10_right (putI M (18, 0, 0) 8 (0 : Int32)) (fX10_isTooth (putI M (18, 0, 0) 8 (0 : Int32)) x1) (1 : Int32)).bind fun q1 => some ((bz q1.1), q1.2)
set_option maxRecDepth 20000 in
set_option maxHeartbeats 2000000 in
theorem sX10_findsTooth {wv : Nat} (M : Mm) (x1 : Int32) {res : (Int32 × Mm)} (h : fX10_findsTooth M x1 = some res) : TF (wv + 1) yX10_findsTooth cX10_findsTooth 2 (some .boolean) 2 [.inr (18, 0, 0), .inl (.int x1)] M (some (.int res.1)) res.2 := by
  rw [fX10_findsTooth] at h
  refine TF.go (n := 0) (ls := [some (.inr (18, 0, 0)), some (.inl (.int x1))]) rfl rfl rfl rfl rfl ?_
  refine z_aload_n (i := 0) dX10_findsTooth_0 rfl rfl ?_
  refine z_iconst (v := (0 : Int32)) dX10_findsTooth_1 kc_0 ?_
  refine z_putI allR_nd dX10_findsTooth_2 fl_X10_79 mk18 rfl rfl ?_
  refine z_aload_n (i := 0) dX10_findsTooth_5 rfl rfl ?_
  refine z_aload_n (i := 0) dX10_findsTooth_6 rfl rfl ?_
  refine z_iload_n (i := 1) dX10_findsTooth_7 rfl rfl ?_
  refine z_fVi (sX10_isTooth (putI M (18, 0, 0) 8 (0 : Int32)) x1) dX10_findsTooth_8 ml_X10_291 cd_X10_isTooth mk18 rfl rfl rfl rfl rfl rfl ?_
  refine z_iconst (v := (1 : Int32)) dX10_findsTooth_11 kc_1 ?_
  obtain ⟨q1, hq2, h⟩ := bnd h
  refine z_fVi (sX10_right (putI M (18, 0, 0) 8 (0 : Int32)) (fX10_isTooth (putI M (18, 0, 0) 8 (0 : Int32)) x1) (1 : Int32) hq2) dX10_findsTooth_12 ml_X10_127 cd_X10_right mk18 rfl rfl rfl rfl rfl rfl ?_
  cases h
  exact z_iret dX10_findsTooth_15 rfl (bz_ok _) (Nat.le_refl _) (Nat.le_refl _) ⟨rfl, rfl⟩
theorem dX10_isThere_0 : decode cX10_isThere 0 = .ok (.aload_n 0, 1) := by decide +kernel
theorem dX10_isThere_1 : decode cX10_isThere 1 = .ok (.iconst 0, 1) := by decide +kernel
theorem dX10_isThere_2 : decode cX10_isThere 2 = .ok (.putfield 79, 3) := by decide +kernel
theorem dX10_isThere_5 : decode cX10_isThere 5 = .ok (.aload_n 0, 1) := by decide +kernel
theorem dX10_isThere_6 : decode cX10_isThere 6 = .ok (.aload_n 0, 1) := by decide +kernel
theorem dX10_isThere_7 : decode cX10_isThere 7 = .ok (.iload_n 1, 1) := by decide +kernel
theorem dX10_isThere_8 : decode cX10_isThere 8 = .ok (.invokevirtual 288, 3) := by decide +kernel
theorem dX10_isThere_11 : decode cX10_isThere 11 = .ok (.ifCond .eq 23, 3) := by decide +kernel
theorem dX10_isThere_14 : decode cX10_isThere 14 = .ok (.aload_n 0, 1) := by decide +kernel
theorem dX10_isThere_15 : decode cX10_isThere 15 = .ok (.iload_n 2, 1) := by decide +kernel
theorem dX10_isThere_16 : decode cX10_isThere 16 = .ok (.invokevirtual 291, 3) := by decide +kernel
theorem dX10_isThere_19 : decode cX10_isThere 19 = .ok (.ifCond .eq 15, 3) := by decide +kernel
theorem dX10_isThere_22 : decode cX10_isThere 22 = .ok (.aload_n 0, 1) := by decide +kernel
theorem dX10_isThere_23 : decode cX10_isThere 23 = .ok (.iload_n 3, 1) := by decide +kernel
theorem dX10_isThere_24 : decode cX10_isThere 24 = .ok (.invokevirtual 294, 3) := by decide +kernel
theorem dX10_isThere_27 : decode cX10_isThere 27 = .ok (.ifCond .eq 7, 3) := by decide +kernel
theorem dX10_isThere_30 : decode cX10_isThere 30 = .ok (.iconst 1, 1) := by decide +kernel
theorem dX10_isThere_31 : decode cX10_isThere 31 = .ok (.goto 4, 3) := by decide +kernel
theorem dX10_isThere_34 : decode cX10_isThere 34 = .ok (.iconst 0, 1) := by decide +kernel
theorem dX10_isThere_35 : decode cX10_isThere 35 = .ok (.iconst 1, 1) := by decide +kernel
theorem dX10_isThere_36 : decode cX10_isThere 36 = .ok (.invokevirtual 127, 3) := by decide +kernel
theorem dX10_isThere_39 : decode cX10_isThere 39 = .ok (.ireturn, 1) := by decide +kernel
def fX10_isThere (M : Mm) (x1 : Int32) (x2 : Int32) (x3 : Int32) : Option (Int32 × Mm) := if (fX10_isTune (putI M (18, 0, 0) 8 (0 : Int32)) x1) = 0 then ((fX10_right (putI M (18, 0, 0) 8 (0 : Int32)) (0 : Int32) (1 : Int32)).bind fun q2 => some ((bz q2.1), q2.2)) else if (fX10_isTooth (putI M (18, 0, 0) 8 (0 : Int32)) x2) = 0 then ((fX10_right (putI M (18, 0, 0) 8 (0 : Int32)) (0 : Int32) (1 : Int32)).bind fun q5 => some ((bz q5.1), q5.2)) else if (fX10_isStep (putI M (18, 0, 0) 8 (0 : Int32)) x3) = 0 then ((fX10_right (putI M (18, 0, 0) 8 (0 : Int32)) (0 : Int32) (1 : Int32)).bind fun q8 => some ((bz q8.1), q8.2)) else (fX10_right (putI M (18, 0, 0) 8 (0 : Int32)) (1 : Int32) (1 : Int32)).bind fun q10 => some ((bz q10.1), q10.2)
set_option maxRecDepth 20000 in
set_option maxHeartbeats 2000000 in
theorem sX10_isThere {wv : Nat} (M : Mm) (x1 : Int32) (x2 : Int32) (x3 : Int32) {res : (Int32 × Mm)} (h : fX10_isThere M x1 x2 x3 = some res) : TF (wv + 1) yX10_isThere cX10_isThere 4 (some .boolean) 2 [.inr (18, 0, 0), .inl (.int x1), .inl (.int x2), .inl (.int x3)] M (some (.int res.1)) res.2 := by
  rw [fX10_isThere] at h
  refine TF.go (n := 0) (ls := [some (.inr (18, 0, 0)), some (.inl (.int x1)), some (.inl (.int x2)), some (.inl (.int x3))]) rfl rfl rfl rfl rfl ?_
  refine z_aload_n (i := 0) dX10_isThere_0 rfl rfl ?_
  refine z_iconst (v := (0 : Int32)) dX10_isThere_1 kc_0 ?_
  refine z_putI allR_nd dX10_isThere_2 fl_X10_79 mk18 rfl rfl ?_
  refine z_aload_n (i := 0) dX10_isThere_5 rfl rfl ?_
  refine z_aload_n (i := 0) dX10_isThere_6 rfl rfl ?_
  refine z_iload_n (i := 1) dX10_isThere_7 rfl rfl ?_
  refine z_fVi (sX10_isTune (putI M (18, 0, 0) 8 (0 : Int32)) x1) dX10_isThere_8 ml_X10_288 cd_X10_isTune mk18 rfl rfl rfl rfl rfl rfl ?_
  refine z_if_eq (tgt := 34) dX10_isThere_11 rfl (fun hc1 => ?_) (fun hc1 => ?_)
  · have h := it_t h hc1
    refine z_iconst (v := (0 : Int32)) dX10_isThere_34 kc_0 ?_
    refine z_iconst (v := (1 : Int32)) dX10_isThere_35 kc_1 ?_
    obtain ⟨q2, hq3, h⟩ := bnd h
    refine z_fVi (sX10_right (putI M (18, 0, 0) 8 (0 : Int32)) (0 : Int32) (1 : Int32) hq3) dX10_isThere_36 ml_X10_127 cd_X10_right mk18 rfl rfl rfl rfl rfl rfl ?_
    cases h
    exact z_iret dX10_isThere_39 rfl (bz_ok _) (Nat.le_refl _) (Nat.le_refl _) ⟨rfl, rfl⟩
  · have h := it_f h hc1
    refine z_aload_n (i := 0) dX10_isThere_14 rfl rfl ?_
    refine z_iload_n (i := 2) dX10_isThere_15 rfl rfl ?_
    refine z_fVi (sX10_isTooth (putI M (18, 0, 0) 8 (0 : Int32)) x2) dX10_isThere_16 ml_X10_291 cd_X10_isTooth mk18 rfl rfl rfl rfl rfl rfl ?_
    refine z_if_eq (tgt := 34) dX10_isThere_19 rfl (fun hc4 => ?_) (fun hc4 => ?_)
    · have h := it_t h hc4
      refine z_iconst (v := (0 : Int32)) dX10_isThere_34 kc_0 ?_
      refine z_iconst (v := (1 : Int32)) dX10_isThere_35 kc_1 ?_
      obtain ⟨q5, hq6, h⟩ := bnd h
      refine z_fVi (sX10_right (putI M (18, 0, 0) 8 (0 : Int32)) (0 : Int32) (1 : Int32) hq6) dX10_isThere_36 ml_X10_127 cd_X10_right mk18 rfl rfl rfl rfl rfl rfl ?_
      cases h
      exact z_iret dX10_isThere_39 rfl (bz_ok _) (Nat.le_refl _) (Nat.le_refl _) ⟨rfl, rfl⟩
    · have h := it_f h hc4
      refine z_aload_n (i := 0) dX10_isThere_22 rfl rfl ?_
      refine z_iload_n (i := 3) dX10_isThere_23 rfl rfl ?_
      refine z_fVi (sX10_isStep (putI M (18, 0, 0) 8 (0 : Int32)) x3) dX10_isThere_24 ml_X10_294 cd_X10_isStep mk18 rfl rfl rfl rfl rfl rfl ?_
      refine z_if_eq (tgt := 34) dX10_isThere_27 rfl (fun hc7 => ?_) (fun hc7 => ?_)
      · have h := it_t h hc7
        refine z_iconst (v := (0 : Int32)) dX10_isThere_34 kc_0 ?_
        refine z_iconst (v := (1 : Int32)) dX10_isThere_35 kc_1 ?_
        obtain ⟨q8, hq9, h⟩ := bnd h
        refine z_fVi (sX10_right (putI M (18, 0, 0) 8 (0 : Int32)) (0 : Int32) (1 : Int32) hq9) dX10_isThere_36 ml_X10_127 cd_X10_right mk18 rfl rfl rfl rfl rfl rfl ?_
        cases h
        exact z_iret dX10_isThere_39 rfl (bz_ok _) (Nat.le_refl _) (Nat.le_refl _) ⟨rfl, rfl⟩
      · have h := it_f h hc7
        refine z_iconst (v := (1 : Int32)) dX10_isThere_30 kc_1 ?_
        refine z_goto (tgt := 35) dX10_isThere_31 rfl ?_
        refine z_iconst (v := (1 : Int32)) dX10_isThere_35 kc_1 ?_
        obtain ⟨q10, hq11, h⟩ := bnd h
        refine z_fVi (sX10_right (putI M (18, 0, 0) 8 (0 : Int32)) (1 : Int32) (1 : Int32) hq11) dX10_isThere_36 ml_X10_127 cd_X10_right mk18 rfl rfl rfl rfl rfl rfl ?_
        cases h
        exact z_iret dX10_isThere_39 rfl (bz_ok _) (Nat.le_refl _) (Nat.le_refl _) ⟨rfl, rfl⟩
theorem dX10_stepCount_0 : decode cX10_stepCount 0 = .ok (.aload_n 0, 1) := by decide +kernel
theorem dX10_stepCount_1 : decode cX10_stepCount 1 = .ok (.iconst 0, 1) := by decide +kernel
theorem dX10_stepCount_2 : decode cX10_stepCount 2 = .ok (.invokevirtual 297, 3) := by decide +kernel
theorem dX10_stepCount_5 : decode cX10_stepCount 5 = .ok (.ireturn, 1) := by decide +kernel
def fX10_stepCount (M : Mm) : Option (Int32 × Mm) := (fX10_tells M (0 : Int32)).bind fun q1 => some (q1.1, q1.2)
set_option maxRecDepth 20000 in
set_option maxHeartbeats 2000000 in
theorem sX10_stepCount {wv : Nat} (M : Mm) {res : (Int32 × Mm)} (h : fX10_stepCount M  = some res) : TF (wv + 1) yX10_stepCount cX10_stepCount 1 (some .int) 1 [.inr (18, 0, 0)] M (some (.int res.1)) res.2 := by
  rw [fX10_stepCount] at h
  refine TF.go (n := 0) (ls := [some (.inr (18, 0, 0))]) rfl rfl rfl rfl rfl ?_
  refine z_aload_n (i := 0) dX10_stepCount_0 rfl rfl ?_
  refine z_iconst (v := (0 : Int32)) dX10_stepCount_1 kc_0 ?_
  obtain ⟨q1, hq2, h⟩ := bnd h
  refine z_fVi (sX10_tells M (0 : Int32) hq2) dX10_stepCount_2 ml_X10_297 cd_X10_tells mk18 rfl rfl rfl rfl rfl rfl ?_
  cases h
  exact z_iret dX10_stepCount_5 rfl rfl (Nat.le_refl _) (Nat.le_refl _) ⟨rfl, rfl⟩
theorem dX10_selectedTune_0 : decode cX10_selectedTune 0 = .ok (.aload_n 0, 1) := by decide +kernel
theorem dX10_selectedTune_1 : decode cX10_selectedTune 1 = .ok (.iconst 4, 1) := by decide +kernel
theorem dX10_selectedTune_2 : decode cX10_selectedTune 2 = .ok (.invokevirtual 297, 3) := by decide +kernel
theorem dX10_selectedTune_5 : decode cX10_selectedTune 5 = .ok (.ireturn, 1) := by decide +kernel
def fX10_selectedTune (M : Mm) : Option (Int32 × Mm) := (fX10_tells M (4 : Int32)).bind fun q1 => some (q1.1, q1.2)
set_option maxRecDepth 20000 in
set_option maxHeartbeats 2000000 in
theorem sX10_selectedTune {wv : Nat} (M : Mm) {res : (Int32 × Mm)} (h : fX10_selectedTune M  = some res) : TF (wv + 1) yX10_selectedTune cX10_selectedTune 1 (some .int) 1 [.inr (18, 0, 0)] M (some (.int res.1)) res.2 := by
  rw [fX10_selectedTune] at h
  refine TF.go (n := 0) (ls := [some (.inr (18, 0, 0))]) rfl rfl rfl rfl rfl ?_
  refine z_aload_n (i := 0) dX10_selectedTune_0 rfl rfl ?_
  refine z_iconst (v := (4 : Int32)) dX10_selectedTune_1 kc_4 ?_
  obtain ⟨q1, hq2, h⟩ := bnd h
  refine z_fVi (sX10_tells M (4 : Int32) hq2) dX10_selectedTune_2 ml_X10_297 cd_X10_tells mk18 rfl rfl rfl rfl rfl rfl ?_
  cases h
  exact z_iret dX10_selectedTune_5 rfl rfl (Nat.le_refl _) (Nat.le_refl _) ⟨rfl, rfl⟩
theorem dX10_position_0 : decode cX10_position 0 = .ok (.aload_n 0, 1) := by decide +kernel
theorem dX10_position_1 : decode cX10_position 1 = .ok (.iconst 5, 1) := by decide +kernel
theorem dX10_position_2 : decode cX10_position 2 = .ok (.invokevirtual 297, 3) := by decide +kernel
theorem dX10_position_5 : decode cX10_position 5 = .ok (.ireturn, 1) := by decide +kernel
def fX10_position (M : Mm) : Option (Int32 × Mm) := (fX10_tells M (5 : Int32)).bind fun q1 => some (q1.1, q1.2)
set_option maxRecDepth 20000 in
set_option maxHeartbeats 2000000 in
theorem sX10_position {wv : Nat} (M : Mm) {res : (Int32 × Mm)} (h : fX10_position M  = some res) : TF (wv + 1) yX10_position cX10_position 1 (some .int) 1 [.inr (18, 0, 0)] M (some (.int res.1)) res.2 := by
  rw [fX10_position] at h
  refine TF.go (n := 0) (ls := [some (.inr (18, 0, 0))]) rfl rfl rfl rfl rfl ?_
  refine z_aload_n (i := 0) dX10_position_0 rfl rfl ?_
  refine z_iconst (v := (5 : Int32)) dX10_position_1 kc_5 ?_
  obtain ⟨q1, hq2, h⟩ := bnd h
  refine z_fVi (sX10_tells M (5 : Int32) hq2) dX10_position_2 ml_X10_297 cd_X10_tells mk18 rfl rfl rfl rfl rfl rfl ?_
  cases h
  exact z_iret dX10_position_5 rfl rfl (Nat.le_refl _) (Nat.le_refl _) ⟨rfl, rfl⟩
theorem dX10_isPin_0 : decode cX10_isPin 0 = .ok (.aload_n 0, 1) := by decide +kernel
theorem dX10_isPin_1 : decode cX10_isPin 1 = .ok (.iload_n 1, 1) := by decide +kernel
theorem dX10_isPin_2 : decode cX10_isPin 2 = .ok (.iload_n 2, 1) := by decide +kernel
theorem dX10_isPin_3 : decode cX10_isPin 3 = .ok (.iload_n 3, 1) := by decide +kernel
theorem dX10_isPin_4 : decode cX10_isPin 4 = .ok (.invokevirtual 300, 3) := by decide +kernel
theorem dX10_isPin_7 : decode cX10_isPin 7 = .ok (.ifCond .eq 17, 3) := by decide +kernel
theorem dX10_isPin_10 : decode cX10_isPin 10 = .ok (.aload_n 0, 1) := by decide +kernel
theorem dX10_isPin_11 : decode cX10_isPin 11 = .ok (.iload_n 1, 1) := by decide +kernel
theorem dX10_isPin_12 : decode cX10_isPin 12 = .ok (.iload_n 2, 1) := by decide +kernel
theorem dX10_isPin_13 : decode cX10_isPin 13 = .ok (.iload_n 3, 1) := by decide +kernel
theorem dX10_isPin_14 : decode cX10_isPin 14 = .ok (.invokevirtual 93, 3) := by decide +kernel
theorem dX10_isPin_17 : decode cX10_isPin 17 = .ok (.ifCond .eq 7, 3) := by decide +kernel
theorem dX10_isPin_20 : decode cX10_isPin 20 = .ok (.iconst 1, 1) := by decide +kernel
theorem dX10_isPin_21 : decode cX10_isPin 21 = .ok (.goto 4, 3) := by decide +kernel
theorem dX10_isPin_24 : decode cX10_isPin 24 = .ok (.iconst 0, 1) := by decide +kernel
theorem dX10_isPin_25 : decode cX10_isPin 25 = .ok (.ireturn, 1) := by decide +kernel
def fX10_isPin (M : Mm) (x1 : Int32) (x2 : Int32) (x3 : Int32) : Option (Int32 × Mm) := (fX10_isThere M x1 x2 x3).bind fun q1 => if q1.1 = 0 then some ((0 : Int32), q1.2) else (fX10_has q1.2 x1 x2 x3).bind fun q4 => if q4 = 0 then some ((0 : Int32), q1.2) else some ((1 : Int32), q1.2)
set_option maxRecDepth 20000 in
set_option maxHeartbeats 2000000 in
theorem sX10_isPin {wv : Nat} (M : Mm) (x1 : Int32) (x2 : Int32) (x3 : Int32) {res : (Int32 × Mm)} (h : fX10_isPin M x1 x2 x3 = some res) : TF (wv + 1) yX10_isPin cX10_isPin 4 (some .boolean) 3 [.inr (18, 0, 0), .inl (.int x1), .inl (.int x2), .inl (.int x3)] M (some (.int res.1)) res.2 := by
  rw [fX10_isPin] at h
  refine TF.go (n := 0) (ls := [some (.inr (18, 0, 0)), some (.inl (.int x1)), some (.inl (.int x2)), some (.inl (.int x3))]) rfl rfl rfl rfl rfl ?_
  refine z_aload_n (i := 0) dX10_isPin_0 rfl rfl ?_
  refine z_iload_n (i := 1) dX10_isPin_1 rfl rfl ?_
  refine z_iload_n (i := 2) dX10_isPin_2 rfl rfl ?_
  refine z_iload_n (i := 3) dX10_isPin_3 rfl rfl ?_
  obtain ⟨q1, hq2, h⟩ := bnd h
  refine z_fVi (sX10_isThere M x1 x2 x3 hq2) dX10_isPin_4 ml_X10_300 cd_X10_isThere mk18 rfl rfl rfl rfl rfl rfl ?_
  refine z_if_eq (tgt := 24) dX10_isPin_7 rfl (fun hc3 => ?_) (fun hc3 => ?_)
  · have h := it_t h hc3
    refine z_iconst (v := (0 : Int32)) dX10_isPin_24 kc_0 ?_
    cases h
    exact z_iret dX10_isPin_25 rfl rfl (Nat.le_refl _) (Nat.le_refl _) ⟨rfl, rfl⟩
  · have h := it_f h hc3
    refine z_aload_n (i := 0) dX10_isPin_10 rfl rfl ?_
    refine z_iload_n (i := 1) dX10_isPin_11 rfl rfl ?_
    refine z_iload_n (i := 2) dX10_isPin_12 rfl rfl ?_
    refine z_iload_n (i := 3) dX10_isPin_13 rfl rfl ?_
    obtain ⟨q4, hq5, h⟩ := bnd h
    refine z_fVi (sX10_has q1.2 x1 x2 x3 hq5) dX10_isPin_14 ml_X10_93 cd_X10_has mk18 rfl rfl rfl rfl rfl rfl ?_
    refine z_if_eq (tgt := 24) dX10_isPin_17 rfl (fun hc6 => ?_) (fun hc6 => ?_)
    · have h := it_t h hc6
      refine z_iconst (v := (0 : Int32)) dX10_isPin_24 kc_0 ?_
      cases h
      exact z_iret dX10_isPin_25 rfl rfl (Nat.le_refl _) (Nat.le_refl _) ⟨rfl, rfl⟩
    · have h := it_f h hc6
      refine z_iconst (v := (1 : Int32)) dX10_isPin_20 kc_1 ?_
      refine z_goto (tgt := 25) dX10_isPin_21 rfl ?_
      cases h
      exact z_iret dX10_isPin_25 rfl rfl (Nat.le_refl _) (Nat.le_refl _) ⟨rfl, rfl⟩
theorem dX10_pinCount_0 : decode cX10_pinCount 0 = .ok (.aload_n 0, 1) := by decide +kernel
theorem dX10_pinCount_1 : decode cX10_pinCount 1 = .ok (.iload_n 1, 1) := by decide +kernel
theorem dX10_pinCount_2 : decode cX10_pinCount 2 = .ok (.invokevirtual 303, 3) := by decide +kernel
theorem dX10_pinCount_5 : decode cX10_pinCount 5 = .ok (.ifCond .eq 11, 3) := by decide +kernel
theorem dX10_pinCount_8 : decode cX10_pinCount 8 = .ok (.aload_n 0, 1) := by decide +kernel
theorem dX10_pinCount_9 : decode cX10_pinCount 9 = .ok (.iload_n 1, 1) := by decide +kernel
theorem dX10_pinCount_10 : decode cX10_pinCount 10 = .ok (.invokevirtual 306, 3) := by decide +kernel
theorem dX10_pinCount_13 : decode cX10_pinCount 13 = .ok (.goto 4, 3) := by decide +kernel
theorem dX10_pinCount_16 : decode cX10_pinCount 16 = .ok (.iconst 0, 1) := by decide +kernel
theorem dX10_pinCount_17 : decode cX10_pinCount 17 = .ok (.ireturn, 1) := by decide +kernel
def fX10_pinCount (M : Mm) (x1 : Int32) : Option (Int32 × Mm) := (fX10_findsTune M x1).bind fun q1 => if q1.1 = 0 then some ((0 : Int32), q1.2) else (fX10_pins q1.2 x1).bind fun q4 => some (q4, q1.2)
set_option maxRecDepth 20000 in
set_option maxHeartbeats 2000000 in
theorem sX10_pinCount {wv : Nat} (M : Mm) (x1 : Int32) {res : (Int32 × Mm)} (h : fX10_pinCount M x1 = some res) : TF (wv + 1) yX10_pinCount cX10_pinCount 2 (some .int) 3 [.inr (18, 0, 0), .inl (.int x1)] M (some (.int res.1)) res.2 := by
  rw [fX10_pinCount] at h
  refine TF.go (n := 0) (ls := [some (.inr (18, 0, 0)), some (.inl (.int x1))]) rfl rfl rfl rfl rfl ?_
  refine z_aload_n (i := 0) dX10_pinCount_0 rfl rfl ?_
  refine z_iload_n (i := 1) dX10_pinCount_1 rfl rfl ?_
  obtain ⟨q1, hq2, h⟩ := bnd h
  refine z_fVi (sX10_findsTune M x1 hq2) dX10_pinCount_2 ml_X10_303 cd_X10_findsTune mk18 rfl rfl rfl rfl rfl rfl ?_
  refine z_if_eq (tgt := 16) dX10_pinCount_5 rfl (fun hc3 => ?_) (fun hc3 => ?_)
  · have h := it_t h hc3
    refine z_iconst (v := (0 : Int32)) dX10_pinCount_16 kc_0 ?_
    cases h
    exact z_iret dX10_pinCount_17 rfl rfl (Nat.le_refl _) (Nat.le_refl _) ⟨rfl, rfl⟩
  · have h := it_f h hc3
    refine z_aload_n (i := 0) dX10_pinCount_8 rfl rfl ?_
    refine z_iload_n (i := 1) dX10_pinCount_9 rfl rfl ?_
    obtain ⟨q4, hq5, h⟩ := bnd h
    refine z_fVi (sX10_pins q1.2 x1 hq5) dX10_pinCount_10 ml_X10_306 cd_X10_pins mk18 rfl rfl rfl rfl rfl rfl ?_
    refine z_goto (tgt := 17) dX10_pinCount_13 rfl ?_
    cases h
    exact z_iret dX10_pinCount_17 rfl rfl (Nat.le_refl _) (Nat.le_refl _) ⟨rfl, rfl⟩
theorem dX10_chord_0 : decode cX10_chord 0 = .ok (.aload_n 0, 1) := by decide +kernel
theorem dX10_chord_1 : decode cX10_chord 1 = .ok (.iload_n 1, 1) := by decide +kernel
theorem dX10_chord_2 : decode cX10_chord 2 = .ok (.invokevirtual 303, 3) := by decide +kernel
theorem dX10_chord_5 : decode cX10_chord 5 = .ok (.ifCond .eq 25, 3) := by decide +kernel
theorem dX10_chord_8 : decode cX10_chord 8 = .ok (.aload_n 0, 1) := by decide +kernel
theorem dX10_chord_9 : decode cX10_chord 9 = .ok (.aload_n 0, 1) := by decide +kernel
theorem dX10_chord_10 : decode cX10_chord 10 = .ok (.iload_n 2, 1) := by decide +kernel
theorem dX10_chord_11 : decode cX10_chord 11 = .ok (.invokevirtual 294, 3) := by decide +kernel
theorem dX10_chord_14 : decode cX10_chord 14 = .ok (.iconst 1, 1) := by decide +kernel
theorem dX10_chord_15 : decode cX10_chord 15 = .ok (.invokevirtual 127, 3) := by decide +kernel
theorem dX10_chord_18 : decode cX10_chord 18 = .ok (.ifCond .eq 12, 3) := by decide +kernel
theorem dX10_chord_21 : decode cX10_chord 21 = .ok (.aload_n 0, 1) := by decide +kernel
theorem dX10_chord_22 : decode cX10_chord 22 = .ok (.iload_n 1, 1) := by decide +kernel
theorem dX10_chord_23 : decode cX10_chord 23 = .ok (.iload_n 2, 1) := by decide +kernel
theorem dX10_chord_24 : decode cX10_chord 24 = .ok (.invokevirtual 86, 3) := by decide +kernel
theorem dX10_chord_27 : decode cX10_chord 27 = .ok (.goto 4, 3) := by decide +kernel
theorem dX10_chord_30 : decode cX10_chord 30 = .ok (.iconst 0, 1) := by decide +kernel
theorem dX10_chord_31 : decode cX10_chord 31 = .ok (.ireturn, 1) := by decide +kernel
def fX10_chord (M : Mm) (x1 : Int32) (x2 : Int32) : Option (Int32 × Mm) := (fX10_findsTune M x1).bind fun q1 => if q1.1 = 0 then some ((0 : Int32), q1.2) else (fX10_right q1.2 (fX10_isStep q1.2 x2) (1 : Int32)).bind fun q4 => if q4.1 = 0 then some ((0 : Int32), q4.2) else (fX10_set q4.2 x1 x2).bind fun q7 => some (q7, q4.2)
set_option maxRecDepth 20000 in
set_option maxHeartbeats 2000000 in
theorem sX10_chord {wv : Nat} (M : Mm) (x1 : Int32) (x2 : Int32) {res : (Int32 × Mm)} (h : fX10_chord M x1 x2 = some res) : TF (wv + 1) yX10_chord cX10_chord 3 (some .int) 3 [.inr (18, 0, 0), .inl (.int x1), .inl (.int x2)] M (some (.int res.1)) res.2 := by
  rw [fX10_chord] at h
  refine TF.go (n := 0) (ls := [some (.inr (18, 0, 0)), some (.inl (.int x1)), some (.inl (.int x2))]) rfl rfl rfl rfl rfl ?_
  refine z_aload_n (i := 0) dX10_chord_0 rfl rfl ?_
  refine z_iload_n (i := 1) dX10_chord_1 rfl rfl ?_
  obtain ⟨q1, hq2, h⟩ := bnd h
  refine z_fVi (sX10_findsTune M x1 hq2) dX10_chord_2 ml_X10_303 cd_X10_findsTune mk18 rfl rfl rfl rfl rfl rfl ?_
  refine z_if_eq (tgt := 30) dX10_chord_5 rfl (fun hc3 => ?_) (fun hc3 => ?_)
  · have h := it_t h hc3
    refine z_iconst (v := (0 : Int32)) dX10_chord_30 kc_0 ?_
    cases h
    exact z_iret dX10_chord_31 rfl rfl (Nat.le_refl _) (Nat.le_refl _) ⟨rfl, rfl⟩
  · have h := it_f h hc3
    refine z_aload_n (i := 0) dX10_chord_8 rfl rfl ?_
    refine z_aload_n (i := 0) dX10_chord_9 rfl rfl ?_
    refine z_iload_n (i := 2) dX10_chord_10 rfl rfl ?_
    refine z_fVi (sX10_isStep q1.2 x2) dX10_chord_11 ml_X10_294 cd_X10_isStep mk18 rfl rfl rfl rfl rfl rfl ?_
    refine z_iconst (v := (1 : Int32)) dX10_chord_14 kc_1 ?_
    obtain ⟨q4, hq5, h⟩ := bnd h
    refine z_fVi (sX10_right q1.2 (fX10_isStep q1.2 x2) (1 : Int32) hq5) dX10_chord_15 ml_X10_127 cd_X10_right mk18 rfl rfl rfl rfl rfl rfl ?_
    refine z_if_eq (tgt := 30) dX10_chord_18 rfl (fun hc6 => ?_) (fun hc6 => ?_)
    · have h := it_t h hc6
      refine z_iconst (v := (0 : Int32)) dX10_chord_30 kc_0 ?_
      cases h
      exact z_iret dX10_chord_31 rfl rfl (Nat.le_refl _) (Nat.le_refl _) ⟨rfl, rfl⟩
    · have h := it_f h hc6
      refine z_aload_n (i := 0) dX10_chord_21 rfl rfl ?_
      refine z_iload_n (i := 1) dX10_chord_22 rfl rfl ?_
      refine z_iload_n (i := 2) dX10_chord_23 rfl rfl ?_
      obtain ⟨q7, hq8, h⟩ := bnd h
      refine z_fVi (sX10_set q4.2 x1 x2 hq8) dX10_chord_24 ml_X10_86 cd_X10_set mk18 rfl rfl rfl rfl rfl rfl ?_
      refine z_goto (tgt := 31) dX10_chord_27 rfl ?_
      cases h
      exact z_iret dX10_chord_31 rfl rfl (Nat.le_refl _) (Nat.le_refl _) ⟨rfl, rfl⟩
theorem dX10_distance_0 : decode cX10_distance 0 = .ok (.aload_n 0, 1) := by decide +kernel
theorem dX10_distance_1 : decode cX10_distance 1 = .ok (.iload_n 1, 1) := by decide +kernel
theorem dX10_distance_2 : decode cX10_distance 2 = .ok (.iload_n 2, 1) := by decide +kernel
theorem dX10_distance_3 : decode cX10_distance 3 = .ok (.iload_n 3, 1) := by decide +kernel
theorem dX10_distance_4 : decode cX10_distance 4 = .ok (.invokevirtual 300, 3) := by decide +kernel
theorem dX10_distance_7 : decode cX10_distance 7 = .ok (.ifCond .eq 28, 3) := by decide +kernel
theorem dX10_distance_10 : decode cX10_distance 10 = .ok (.aload_n 0, 1) := by decide +kernel
theorem dX10_distance_11 : decode cX10_distance 11 = .ok (.aload_n 0, 1) := by decide +kernel
theorem dX10_distance_12 : decode cX10_distance 12 = .ok (.iload_n 1, 1) := by decide +kernel
theorem dX10_distance_13 : decode cX10_distance 13 = .ok (.iload_n 2, 1) := by decide +kernel
theorem dX10_distance_14 : decode cX10_distance 14 = .ok (.iload_n 3, 1) := by decide +kernel
theorem dX10_distance_15 : decode cX10_distance 15 = .ok (.invokevirtual 93, 3) := by decide +kernel
theorem dX10_distance_18 : decode cX10_distance 18 = .ok (.iconst 2, 1) := by decide +kernel
theorem dX10_distance_19 : decode cX10_distance 19 = .ok (.invokevirtual 127, 3) := by decide +kernel
theorem dX10_distance_22 : decode cX10_distance 22 = .ok (.ifCond .eq 13, 3) := by decide +kernel
theorem dX10_distance_25 : decode cX10_distance 25 = .ok (.aload_n 0, 1) := by decide +kernel
theorem dX10_distance_26 : decode cX10_distance 26 = .ok (.iload_n 1, 1) := by decide +kernel
theorem dX10_distance_27 : decode cX10_distance 27 = .ok (.iload_n 2, 1) := by decide +kernel
theorem dX10_distance_28 : decode cX10_distance 28 = .ok (.iload_n 3, 1) := by decide +kernel
theorem dX10_distance_29 : decode cX10_distance 29 = .ok (.invokevirtual 96, 3) := by decide +kernel
theorem dX10_distance_32 : decode cX10_distance 32 = .ok (.goto 4, 3) := by decide +kernel
theorem dX10_distance_35 : decode cX10_distance 35 = .ok (.iconst 0, 1) := by decide +kernel
theorem dX10_distance_36 : decode cX10_distance 36 = .ok (.ireturn, 1) := by decide +kernel
def fX10_distance (M : Mm) (x1 : Int32) (x2 : Int32) (x3 : Int32) : Option (Int32 × Mm) := (fX10_isThere M x1 x2 x3).bind fun q1 => if q1.1 = 0 then some ((0 : Int32), q1.2) else (fX10_has q1.2 x1 x2 x3).bind fun q4 => (fX10_right q1.2 q4 (2 : Int32)).bind fun q6 => if q6.1 = 0 then some ((0 : Int32), q6.2) else (fX10_far q6.2 x1 x2 x3).bind fun q9 => some (q9, q6.2)
set_option maxRecDepth 20000 in
set_option maxHeartbeats 2000000 in
theorem sX10_distance {wv : Nat} (M : Mm) (x1 : Int32) (x2 : Int32) (x3 : Int32) {res : (Int32 × Mm)} (h : fX10_distance M x1 x2 x3 = some res) : TF (wv + 1) yX10_distance cX10_distance 4 (some .int) 3 [.inr (18, 0, 0), .inl (.int x1), .inl (.int x2), .inl (.int x3)] M (some (.int res.1)) res.2 := by
  rw [fX10_distance] at h
  refine TF.go (n := 0) (ls := [some (.inr (18, 0, 0)), some (.inl (.int x1)), some (.inl (.int x2)), some (.inl (.int x3))]) rfl rfl rfl rfl rfl ?_
  refine z_aload_n (i := 0) dX10_distance_0 rfl rfl ?_
  refine z_iload_n (i := 1) dX10_distance_1 rfl rfl ?_
  refine z_iload_n (i := 2) dX10_distance_2 rfl rfl ?_
  refine z_iload_n (i := 3) dX10_distance_3 rfl rfl ?_
  obtain ⟨q1, hq2, h⟩ := bnd h
  refine z_fVi (sX10_isThere M x1 x2 x3 hq2) dX10_distance_4 ml_X10_300 cd_X10_isThere mk18 rfl rfl rfl rfl rfl rfl ?_
  refine z_if_eq (tgt := 35) dX10_distance_7 rfl (fun hc3 => ?_) (fun hc3 => ?_)
  · have h := it_t h hc3
    refine z_iconst (v := (0 : Int32)) dX10_distance_35 kc_0 ?_
    cases h
    exact z_iret dX10_distance_36 rfl rfl (Nat.le_refl _) (Nat.le_refl _) ⟨rfl, rfl⟩
  · have h := it_f h hc3
    refine z_aload_n (i := 0) dX10_distance_10 rfl rfl ?_
    refine z_aload_n (i := 0) dX10_distance_11 rfl rfl ?_
    refine z_iload_n (i := 1) dX10_distance_12 rfl rfl ?_
    refine z_iload_n (i := 2) dX10_distance_13 rfl rfl ?_
    refine z_iload_n (i := 3) dX10_distance_14 rfl rfl ?_
    obtain ⟨q4, hq5, h⟩ := bnd h
    refine z_fVi (sX10_has q1.2 x1 x2 x3 hq5) dX10_distance_15 ml_X10_93 cd_X10_has mk18 rfl rfl rfl rfl rfl rfl ?_
    refine z_iconst (v := (2 : Int32)) dX10_distance_18 kc_2 ?_
    obtain ⟨q6, hq7, h⟩ := bnd h
    refine z_fVi (sX10_right q1.2 q4 (2 : Int32) hq7) dX10_distance_19 ml_X10_127 cd_X10_right mk18 rfl rfl rfl rfl rfl rfl ?_
    refine z_if_eq (tgt := 35) dX10_distance_22 rfl (fun hc8 => ?_) (fun hc8 => ?_)
    · have h := it_t h hc8
      refine z_iconst (v := (0 : Int32)) dX10_distance_35 kc_0 ?_
      cases h
      exact z_iret dX10_distance_36 rfl rfl (Nat.le_refl _) (Nat.le_refl _) ⟨rfl, rfl⟩
    · have h := it_f h hc8
      refine z_aload_n (i := 0) dX10_distance_25 rfl rfl ?_
      refine z_iload_n (i := 1) dX10_distance_26 rfl rfl ?_
      refine z_iload_n (i := 2) dX10_distance_27 rfl rfl ?_
      refine z_iload_n (i := 3) dX10_distance_28 rfl rfl ?_
      obtain ⟨q9, hq10, h⟩ := bnd h
      refine z_fVi (sX10_far q6.2 x1 x2 x3 hq10) dX10_distance_29 ml_X10_96 cd_X10_far mk18 rfl rfl rfl rfl rfl rfl ?_
      refine z_goto (tgt := 36) dX10_distance_32 rfl ?_
      cases h
      exact z_iret dX10_distance_36 rfl rfl (Nat.le_refl _) (Nat.le_refl _) ⟨rfl, rfl⟩
theorem dX10_closePins_0 : decode cX10_closePins 0 = .ok (.aload_n 0, 1) := by decide +kernel
theorem dX10_closePins_1 : decode cX10_closePins 1 = .ok (.iload_n 1, 1) := by decide +kernel
theorem dX10_closePins_2 : decode cX10_closePins 2 = .ok (.invokevirtual 303, 3) := by decide +kernel
theorem dX10_closePins_5 : decode cX10_closePins 5 = .ok (.ifCond .ne 5, 3) := by decide +kernel
theorem dX10_closePins_8 : decode cX10_closePins 8 = .ok (.iconst 0, 1) := by decide +kernel
theorem dX10_closePins_9 : decode cX10_closePins 9 = .ok (.ireturn, 1) := by decide +kernel
theorem dX10_closePins_10 : decode cX10_closePins 10 = .ok (.iconst 0, 1) := by decide +kernel
theorem dX10_closePins_11 : decode cX10_closePins 11 = .ok (.istore_n 2, 1) := by decide +kernel
theorem dX10_closePins_12 : decode cX10_closePins 12 = .ok (.iconst 0, 1) := by decide +kernel
theorem dX10_closePins_13 : decode cX10_closePins 13 = .ok (.istore_n 3, 1) := by decide +kernel
theorem dX10_closePins_14 : decode cX10_closePins 14 = .ok (.iload_n 3, 1) := by decide +kernel
theorem dX10_closePins_15 : decode cX10_closePins 15 = .ok (.aload_n 0, 1) := by decide +kernel
theorem dX10_closePins_16 : decode cX10_closePins 16 = .ok (.getfield 7, 3) := by decide +kernel
theorem dX10_closePins_19 : decode cX10_closePins 19 = .ok (.iconst 0, 1) := by decide +kernel
theorem dX10_closePins_20 : decode cX10_closePins 20 = .ok (.iaload, 1) := by decide +kernel
theorem dX10_closePins_21 : decode cX10_closePins 21 = .ok (.if_icmp .ge 43, 3) := by decide +kernel
theorem dX10_closePins_24 : decode cX10_closePins 24 = .ok (.iconst 0, 1) := by decide +kernel
theorem dX10_closePins_25 : decode cX10_closePins 25 = .ok (.istore 4, 2) := by decide +kernel
theorem dX10_closePins_27 : decode cX10_closePins 27 = .ok (.iload 4, 2) := by decide +kernel
theorem dX10_closePins_29 : decode cX10_closePins 29 = .ok (.aload_n 0, 1) := by decide +kernel
theorem dX10_closePins_30 : decode cX10_closePins 30 = .ok (.getfield 7, 3) := by decide +kernel
theorem dX10_closePins_33 : decode cX10_closePins 33 = .ok (.iconst 3, 1) := by decide +kernel
theorem dX10_closePins_34 : decode cX10_closePins 34 = .ok (.iaload, 1) := by decide +kernel
theorem dX10_closePins_35 : decode cX10_closePins 35 = .ok (.if_icmp .ge 23, 3) := by decide +kernel
theorem dX10_closePins_38 : decode cX10_closePins 38 = .ok (.aload_n 0, 1) := by decide +kernel
theorem dX10_closePins_39 : decode cX10_closePins 39 = .ok (.iload_n 1, 1) := by decide +kernel
theorem dX10_closePins_40 : decode cX10_closePins 40 = .ok (.iload 4, 2) := by decide +kernel
theorem dX10_closePins_42 : decode cX10_closePins 42 = .ok (.iload_n 3, 1) := by decide +kernel
theorem dX10_closePins_43 : decode cX10_closePins 43 = .ok (.invokevirtual 309, 3) := by decide +kernel
theorem dX10_closePins_46 : decode cX10_closePins 46 = .ok (.ifCond .eq 6, 3) := by decide +kernel
theorem dX10_closePins_49 : decode cX10_closePins 49 = .ok (.iinc 2 1, 3) := by decide +kernel
theorem dX10_closePins_52 : decode cX10_closePins 52 = .ok (.iinc 4 1, 3) := by decide +kernel
theorem dX10_closePins_55 : decode cX10_closePins 55 = .ok (.goto (-28), 3) := by decide +kernel
theorem dX10_closePins_58 : decode cX10_closePins 58 = .ok (.iinc 3 1, 3) := by decide +kernel
theorem dX10_closePins_61 : decode cX10_closePins 61 = .ok (.goto (-47), 3) := by decide +kernel
theorem dX10_closePins_64 : decode cX10_closePins 64 = .ok (.iload_n 2, 1) := by decide +kernel
theorem dX10_closePins_65 : decode cX10_closePins 65 = .ok (.ireturn, 1) := by decide +kernel
def fX10_closePins_L27 (M : Mm) (c1 : Int32) (c3 : Int32) (K : Int32 → Int32 → Option (Int32 × Mm)) : Nat → Int32 → Int32 → Option (Int32 × Mm)
  | 0, _, _ => none
  | n + 1, v2, v4 => if (M.1 (19, 0, 0) 3) ≤ v4 then K v2 v4 else (fX10_isClose M c1 v4 c3).bind fun q6 => if q6 = 0 then fX10_closePins_L27 M c1 c3 K n v2 (v4 + (1 : Int32)) else fX10_closePins_L27 M c1 c3 K n (v2 + (1 : Int32)) (v4 + (1 : Int32))
def fX10_closePins_L14 (M : Mm) (c1 : Int32) (K : Int32 → Int32 → Option (Int32 × Mm)) : Nat → Int32 → Int32 → Option (Int32 × Mm)
  | 0, _, _ => none
  | n + 1, v2, v3 => if (M.1 (19, 0, 0) 0) ≤ v3 then K v2 v3 else fX10_closePins_L27 M c1 v3 (fun w9 w10 => fX10_closePins_L14 M c1 K n w9 (v3 + (1 : Int32))) NF v2 (0 : Int32)
def fX10_closePins (M : Mm) (x1 : Int32) : Option (Int32 × Mm) := (fX10_findsTune M x1).bind fun q1 => if q1.1 = 0 then some ((0 : Int32), q1.2) else fX10_closePins_L14 q1.2 x1 (fun w11 w12 => some (w11, q1.2)) NF (0 : Int32) (0 : Int32)
set_option maxRecDepth 20000 in
set_option maxHeartbeats 2000000 in
theorem sX10_closePins_L27 {wv : Nat} (M : Mm) (c1 : Int32) (c3 : Int32) {res : (Int32 × Mm)} {K : Int32 → Int32 → Option (Int32 × Mm)} : ∀ (n : Nat) (v2 : Int32) (v4 : Int32), fX10_closePins_L27 M c1 c3 K n v2 v4 = some res →
    (∀ (v2 : Int32) (v4 : Int32), K v2 v4 = some res → Z RX10 cX10_closePins 5 (some .int) [] "closePins" (rmD 4 0 0) (QM SH (allR (wv + 1)) 0 0 (fun v M9 => v = some (.int res.1) ∧ M9 = res.2) (fun _ _ => False)) (allR (wv + 1)) SH 0 0 58 [some (.inr (18, 0, 0)), some (.inl (.int c1)), some (.inl (.int v2)), some (.inl (.int c3)), some (.inl (.int v4))] [] M) → Z RX10 cX10_closePins 5 (some .int) [] "closePins" (rmD 4 0 0) (QM SH (allR (wv + 1)) 0 0 (fun v M9 => v = some (.int res.1) ∧ M9 = res.2) (fun _ _ => False)) (allR (wv + 1)) SH 0 0 27 [some (.inr (18, 0, 0)), some (.inl (.int c1)), some (.inl (.int v2)), some (.inl (.int c3)), some (.inl (.int v4))] [] M := by
  intro n
  induction n with
  | zero => intro v2 v4 h; cases h
  | succ n ih =>
    intro v2 v4 h hK
    rw [fX10_closePins_L27] at h
    refine z_iload (i := 4) dX10_closePins_27 rfl ?_
    refine z_aload_n (i := 0) dX10_closePins_29 rfl rfl ?_
    refine z_getR (r' := (19, 0, 0)) dX10_closePins_30 fl_X10_7 mk18 rfl rfl ?_
    refine z_iconst (v := (3 : Int32)) dX10_closePins_33 kc_3 ?_
    refine z_iald (x := (M.1 (19, 0, 0) 3)) dX10_closePins_34 (m19 _ (Nat.le_of_ble_eq_true rfl)) rfl (by decide) rfl ?_
    refine z_icmp_ge (tgt := 58) dX10_closePins_35 rfl (fun hc5 => ?_) (fun hc5 => ?_)
    · have h := it_t h hc5
      exact hK _ _ h
    · have h := it_f h hc5
      refine z_aload_n (i := 0) dX10_closePins_38 rfl rfl ?_
      refine z_iload_n (i := 1) dX10_closePins_39 rfl rfl ?_
      refine z_iload (i := 4) dX10_closePins_40 rfl ?_
      refine z_iload_n (i := 3) dX10_closePins_42 rfl rfl ?_
      obtain ⟨q6, hq7, h⟩ := bnd h
      refine z_fVi (sX10_isClose M c1 v4 c3 hq7) dX10_closePins_43 ml_X10_309 cd_X10_isClose mk18 rfl rfl rfl rfl rfl rfl ?_
      refine z_if_eq (tgt := 52) dX10_closePins_46 rfl (fun hc8 => ?_) (fun hc8 => ?_)
      · have h := it_t h hc8
        refine z_iinc (i := 4) (v := (v4 + (1 : Int32))) dX10_closePins_52 rfl (iinc_k kc_1) (Nat.le_of_ble_eq_true rfl) rfl ?_
        refine z_goto (tgt := 27) dX10_closePins_55 rfl ?_
        exact ih _ _ h hK
      · have h := it_f h hc8
        refine z_iinc (i := 2) (v := (v2 + (1 : Int32))) dX10_closePins_49 rfl (iinc_k kc_1) (Nat.le_of_ble_eq_true rfl) rfl ?_
        refine z_iinc (i := 4) (v := (v4 + (1 : Int32))) dX10_closePins_52 rfl (iinc_k kc_1) (Nat.le_of_ble_eq_true rfl) rfl ?_
        refine z_goto (tgt := 27) dX10_closePins_55 rfl ?_
        exact ih _ _ h hK
set_option maxRecDepth 20000 in
set_option maxHeartbeats 2000000 in
theorem sX10_closePins_L14 {wv : Nat} (M : Mm) (c1 : Int32) {res : (Int32 × Mm)} {K : Int32 → Int32 → Option (Int32 × Mm)} : ∀ (n : Nat) (v2 : Int32) (v3 : Int32), fX10_closePins_L14 M c1 K n v2 v3 = some res →
    (∀ (v2 : Int32) (v3 : Int32), K v2 v3 = some res → Z RX10 cX10_closePins 5 (some .int) [] "closePins" (rmD 4 0 0) (QM SH (allR (wv + 1)) 0 0 (fun v M9 => v = some (.int res.1) ∧ M9 = res.2) (fun _ _ => False)) (allR (wv + 1)) SH 0 0 64 [some (.inr (18, 0, 0)), some (.inl (.int c1)), some (.inl (.int v2)), some (.inl (.int v3)), none] [] M) → Z RX10 cX10_closePins 5 (some .int) [] "closePins" (rmD 4 0 0) (QM SH (allR (wv + 1)) 0 0 (fun v M9 => v = some (.int res.1) ∧ M9 = res.2) (fun _ _ => False)) (allR (wv + 1)) SH 0 0 14 [some (.inr (18, 0, 0)), some (.inl (.int c1)), some (.inl (.int v2)), some (.inl (.int v3)), none] [] M := by
  intro n
  induction n with
  | zero => intro v2 v3 h; cases h
  | succ n ih =>
    intro v2 v3 h hK
    rw [fX10_closePins_L14] at h
    refine z_iload_n (i := 3) dX10_closePins_14 rfl rfl ?_
    refine z_aload_n (i := 0) dX10_closePins_15 rfl rfl ?_
    refine z_getR (r' := (19, 0, 0)) dX10_closePins_16 fl_X10_7 mk18 rfl rfl ?_
    refine z_iconst (v := (0 : Int32)) dX10_closePins_19 kc_0 ?_
    refine z_iald (x := (M.1 (19, 0, 0) 0)) dX10_closePins_20 (m19 _ (Nat.le_of_ble_eq_true rfl)) rfl (by decide) rfl ?_
    refine z_icmp_ge (tgt := 64) dX10_closePins_21 rfl (fun hc4 => ?_) (fun hc4 => ?_)
    · have h := it_t h hc4
      exact hK _ _ h
    · have h := it_f h hc4
      refine z_iconst (v := (0 : Int32)) dX10_closePins_24 kc_0 ?_
      refine z_istore (i := 4) dX10_closePins_25 (Nat.le_of_ble_eq_true rfl) rfl ?_
      refine sX10_closePins_L27 M c1 v3 NF _ _ h (fun w9 w10 h => ?_)
      refine z_iinc (i := 3) (v := (v3 + (1 : Int32))) dX10_closePins_58 rfl (iinc_k kc_1) (Nat.le_of_ble_eq_true rfl) rfl ?_
      refine z_goto (tgt := 14) dX10_closePins_61 rfl ?_
      refine z_fgt (i := 4) ?_
      exact ih _ _ h hK
set_option maxRecDepth 20000 in
set_option maxHeartbeats 2000000 in
theorem sX10_closePins {wv : Nat} (M : Mm) (x1 : Int32) {res : (Int32 × Mm)} (h : fX10_closePins M x1 = some res) : TF (wv + 1) yX10_closePins cX10_closePins 5 (some .int) 4 [.inr (18, 0, 0), .inl (.int x1)] M (some (.int res.1)) res.2 := by
  rw [fX10_closePins] at h
  refine TF.go (n := 3) (ls := [some (.inr (18, 0, 0)), some (.inl (.int x1)), none, none, none]) rfl rfl rfl rfl rfl ?_
  refine z_aload_n (i := 0) dX10_closePins_0 rfl rfl ?_
  refine z_iload_n (i := 1) dX10_closePins_1 rfl rfl ?_
  obtain ⟨q1, hq2, h⟩ := bnd h
  refine z_fVi (sX10_findsTune M x1 hq2) dX10_closePins_2 ml_X10_303 cd_X10_findsTune mk18 rfl rfl rfl rfl rfl rfl ?_
  refine z_if_ne (tgt := 10) dX10_closePins_5 rfl (fun hc3 => ?_) (fun hc3 => ?_)
  · have h := it_f h hc3
    refine z_iconst (v := (0 : Int32)) dX10_closePins_10 kc_0 ?_
    refine z_istore_n (i := 2) dX10_closePins_11 rfl (Nat.le_of_ble_eq_true rfl) rfl ?_
    refine z_iconst (v := (0 : Int32)) dX10_closePins_12 kc_0 ?_
    refine z_istore_n (i := 3) dX10_closePins_13 rfl (Nat.le_of_ble_eq_true rfl) rfl ?_
    refine sX10_closePins_L14 q1.2 x1 NF _ _ h (fun w11 w12 h => ?_)
    refine z_iload_n (i := 2) dX10_closePins_64 rfl rfl ?_
    cases h
    exact z_iret dX10_closePins_65 rfl rfl (Nat.le_refl _) (Nat.le_refl _) ⟨rfl, rfl⟩
  · have h := it_t h hc3
    refine z_iconst (v := (0 : Int32)) dX10_closePins_8 kc_0 ?_
    cases h
    exact z_iret dX10_closePins_9 rfl rfl (Nat.le_refl _) (Nat.le_refl _) ⟨rfl, rfl⟩
theorem dX10_longestRest_0 : decode cX10_longestRest 0 = .ok (.aload_n 0, 1) := by decide +kernel
theorem dX10_longestRest_1 : decode cX10_longestRest 1 = .ok (.iload_n 1, 1) := by decide +kernel
theorem dX10_longestRest_2 : decode cX10_longestRest 2 = .ok (.invokevirtual 303, 3) := by decide +kernel
theorem dX10_longestRest_5 : decode cX10_longestRest 5 = .ok (.ifCond .ne 5, 3) := by decide +kernel
theorem dX10_longestRest_8 : decode cX10_longestRest 8 = .ok (.iconst 0, 1) := by decide +kernel
theorem dX10_longestRest_9 : decode cX10_longestRest 9 = .ok (.ireturn, 1) := by decide +kernel
theorem dX10_longestRest_10 : decode cX10_longestRest 10 = .ok (.iconst 0, 1) := by decide +kernel
theorem dX10_longestRest_11 : decode cX10_longestRest 11 = .ok (.istore_n 2, 1) := by decide +kernel
theorem dX10_longestRest_12 : decode cX10_longestRest 12 = .ok (.iconst 0, 1) := by decide +kernel
theorem dX10_longestRest_13 : decode cX10_longestRest 13 = .ok (.istore_n 3, 1) := by decide +kernel
theorem dX10_longestRest_14 : decode cX10_longestRest 14 = .ok (.iconst 0, 1) := by decide +kernel
theorem dX10_longestRest_15 : decode cX10_longestRest 15 = .ok (.istore 4, 2) := by decide +kernel
theorem dX10_longestRest_17 : decode cX10_longestRest 17 = .ok (.iload 4, 2) := by decide +kernel
theorem dX10_longestRest_19 : decode cX10_longestRest 19 = .ok (.iconst 2, 1) := by decide +kernel
theorem dX10_longestRest_20 : decode cX10_longestRest 20 = .ok (.aload_n 0, 1) := by decide +kernel
theorem dX10_longestRest_21 : decode cX10_longestRest 21 = .ok (.getfield 7, 3) := by decide +kernel
theorem dX10_longestRest_24 : decode cX10_longestRest 24 = .ok (.iconst 0, 1) := by decide +kernel
theorem dX10_longestRest_25 : decode cX10_longestRest 25 = .ok (.iaload, 1) := by decide +kernel
theorem dX10_longestRest_26 : decode cX10_longestRest 26 = .ok (.imul, 1) := by decide +kernel
theorem dX10_longestRest_27 : decode cX10_longestRest 27 = .ok (.if_icmp .ge 40, 3) := by decide +kernel
theorem dX10_longestRest_30 : decode cX10_longestRest 30 = .ok (.aload_n 0, 1) := by decide +kernel
theorem dX10_longestRest_31 : decode cX10_longestRest 31 = .ok (.iload_n 1, 1) := by decide +kernel
theorem dX10_longestRest_32 : decode cX10_longestRest 32 = .ok (.iload 4, 2) := by decide +kernel
theorem dX10_longestRest_34 : decode cX10_longestRest 34 = .ok (.aload_n 0, 1) := by decide +kernel
theorem dX10_longestRest_35 : decode cX10_longestRest 35 = .ok (.getfield 7, 3) := by decide +kernel
theorem dX10_longestRest_38 : decode cX10_longestRest 38 = .ok (.iconst 0, 1) := by decide +kernel
theorem dX10_longestRest_39 : decode cX10_longestRest 39 = .ok (.iaload, 1) := by decide +kernel
theorem dX10_longestRest_40 : decode cX10_longestRest 40 = .ok (.irem, 1) := by decide +kernel
theorem dX10_longestRest_41 : decode cX10_longestRest 41 = .ok (.invokevirtual 86, 3) := by decide +kernel
theorem dX10_longestRest_44 : decode cX10_longestRest 44 = .ok (.ifCond .ne 9, 3) := by decide +kernel
theorem dX10_longestRest_47 : decode cX10_longestRest 47 = .ok (.iload_n 3, 1) := by decide +kernel
theorem dX10_longestRest_48 : decode cX10_longestRest 48 = .ok (.iconst 1, 1) := by decide +kernel
theorem dX10_longestRest_49 : decode cX10_longestRest 49 = .ok (.iadd, 1) := by decide +kernel
theorem dX10_longestRest_50 : decode cX10_longestRest 50 = .ok (.goto 4, 3) := by decide +kernel
theorem dX10_longestRest_53 : decode cX10_longestRest 53 = .ok (.iconst 0, 1) := by decide +kernel
theorem dX10_longestRest_54 : decode cX10_longestRest 54 = .ok (.istore_n 3, 1) := by decide +kernel
theorem dX10_longestRest_55 : decode cX10_longestRest 55 = .ok (.iload_n 2, 1) := by decide +kernel
theorem dX10_longestRest_56 : decode cX10_longestRest 56 = .ok (.iload_n 3, 1) := by decide +kernel
theorem dX10_longestRest_57 : decode cX10_longestRest 57 = .ok (.invokestatic 312, 3) := by decide +kernel
theorem dX10_longestRest_60 : decode cX10_longestRest 60 = .ok (.istore_n 2, 1) := by decide +kernel
theorem dX10_longestRest_61 : decode cX10_longestRest 61 = .ok (.iinc 4 1, 3) := by decide +kernel
theorem dX10_longestRest_64 : decode cX10_longestRest 64 = .ok (.goto (-47), 3) := by decide +kernel
theorem dX10_longestRest_67 : decode cX10_longestRest 67 = .ok (.iload_n 2, 1) := by decide +kernel
theorem dX10_longestRest_68 : decode cX10_longestRest 68 = .ok (.aload_n 0, 1) := by decide +kernel
theorem dX10_longestRest_69 : decode cX10_longestRest 69 = .ok (.getfield 7, 3) := by decide +kernel
theorem dX10_longestRest_72 : decode cX10_longestRest 72 = .ok (.iconst 0, 1) := by decide +kernel
theorem dX10_longestRest_73 : decode cX10_longestRest 73 = .ok (.iaload, 1) := by decide +kernel
theorem dX10_longestRest_74 : decode cX10_longestRest 74 = .ok (.invokestatic 116, 3) := by decide +kernel
theorem dX10_longestRest_77 : decode cX10_longestRest 77 = .ok (.ireturn, 1) := by decide +kernel
def fX10_longestRest_L17 (M : Mm) (c1 : Int32) (K : Int32 → Int32 → Int32 → Option (Int32 × Mm)) : Nat → Int32 → Int32 → Int32 → Option (Int32 × Mm)
  | 0, _, _, _ => none
  | n + 1, v2, v3, v4 => if ((2 : Int32) * (M.1 (19, 0, 0) 0)) ≤ v4 then K v2 v3 v4 else if (M.1 (19, 0, 0) 0) = 0 then none else (fX10_set M c1 (v4 - v4 / (M.1 (19, 0, 0) 0) * (M.1 (19, 0, 0) 0))).bind fun q6 => if q6 = 0 then fX10_longestRest_L17 M c1 K n (fJ9_max_7cf53 M v2 (v3 + (1 : Int32))) (v3 + (1 : Int32)) (v4 + (1 : Int32)) else fX10_longestRest_L17 M c1 K n (fJ9_max_7cf53 M v2 (0 : Int32)) (0 : Int32) (v4 + (1 : Int32))
def fX10_longestRest (M : Mm) (x1 : Int32) : Option (Int32 × Mm) := (fX10_findsTune M x1).bind fun q1 => if q1.1 = 0 then some ((0 : Int32), q1.2) else fX10_longestRest_L17 q1.2 x1 (fun w9 w10 w11 => some ((fJ9_min_7cf53 q1.2 w9 (q1.2.1 (19, 0, 0) 0)), q1.2)) NF (0 : Int32) (0 : Int32) (0 : Int32)
set_option maxRecDepth 20000 in
set_option maxHeartbeats 2000000 in
theorem sX10_longestRest_L17 {wv : Nat} (M : Mm) (c1 : Int32) {res : (Int32 × Mm)} {K : Int32 → Int32 → Int32 → Option (Int32 × Mm)} : ∀ (n : Nat) (v2 : Int32) (v3 : Int32) (v4 : Int32), fX10_longestRest_L17 M c1 K n v2 v3 v4 = some res →
    (∀ (v2 : Int32) (v3 : Int32) (v4 : Int32), K v2 v3 v4 = some res → Z RX10 cX10_longestRest 5 (some .int) [] "longestRest" (rmD 3 0 0) (QM SH (allR (wv + 1)) 0 0 (fun v M9 => v = some (.int res.1) ∧ M9 = res.2) (fun _ _ => False)) (allR (wv + 1)) SH 0 0 67 [some (.inr (18, 0, 0)), some (.inl (.int c1)), some (.inl (.int v2)), some (.inl (.int v3)), some (.inl (.int v4))] [] M) → Z RX10 cX10_longestRest 5 (some .int) [] "longestRest" (rmD 3 0 0) (QM SH (allR (wv + 1)) 0 0 (fun v M9 => v = some (.int res.1) ∧ M9 = res.2) (fun _ _ => False)) (allR (wv + 1)) SH 0 0 17 [some (.inr (18, 0, 0)), some (.inl (.int c1)), some (.inl (.int v2)), some (.inl (.int v3)), some (.inl (.int v4))] [] M := by
  intro n
  induction n with
  | zero => intro v2 v3 v4 h; cases h
  | succ n ih =>
    intro v2 v3 v4 h hK
    rw [fX10_longestRest_L17] at h
    refine z_iload (i := 4) dX10_longestRest_17 rfl ?_
    refine z_iconst (v := (2 : Int32)) dX10_longestRest_19 kc_2 ?_
    refine z_aload_n (i := 0) dX10_longestRest_20 rfl rfl ?_
    refine z_getR (r' := (19, 0, 0)) dX10_longestRest_21 fl_X10_7 mk18 rfl rfl ?_
    refine z_iconst (v := (0 : Int32)) dX10_longestRest_24 kc_0 ?_
    refine z_iald (x := (M.1 (19, 0, 0) 0)) dX10_longestRest_25 (m19 _ (Nat.le_of_ble_eq_true rfl)) rfl (by decide) rfl ?_
    refine z_imul dX10_longestRest_26 ?_
    refine z_icmp_ge (tgt := 67) dX10_longestRest_27 rfl (fun hc4 => ?_) (fun hc4 => ?_)
    · have h := it_t h hc4
      exact hK _ _ _ h
    · have h := it_f h hc4
      refine z_aload_n (i := 0) dX10_longestRest_30 rfl rfl ?_
      refine z_iload_n (i := 1) dX10_longestRest_31 rfl rfl ?_
      refine z_iload (i := 4) dX10_longestRest_32 rfl ?_
      refine z_aload_n (i := 0) dX10_longestRest_34 rfl rfl ?_
      refine z_getR (r' := (19, 0, 0)) dX10_longestRest_35 fl_X10_7 mk18 rfl rfl ?_
      refine z_iconst (v := (0 : Int32)) dX10_longestRest_38 kc_0 ?_
      refine z_iald (x := (M.1 (19, 0, 0) 0)) dX10_longestRest_39 (m19 _ (Nat.le_of_ble_eq_true rfl)) rfl (by decide) rfl ?_
      obtain ⟨hc5, h⟩ := chk h
      refine z_irem dX10_longestRest_40 hc5 ?_
      obtain ⟨q6, hq7, h⟩ := bnd h
      refine z_fVi (sX10_set M c1 (v4 - v4 / (M.1 (19, 0, 0) 0) * (M.1 (19, 0, 0) 0)) hq7) dX10_longestRest_41 ml_X10_86 cd_X10_set mk18 rfl rfl rfl rfl rfl rfl ?_
      refine z_if_ne (tgt := 53) dX10_longestRest_44 rfl (fun hc8 => ?_) (fun hc8 => ?_)
      · have h := it_f h hc8
        refine z_iconst (v := (0 : Int32)) dX10_longestRest_53 kc_0 ?_
        refine z_istore_n (i := 3) dX10_longestRest_54 rfl (Nat.le_of_ble_eq_true rfl) rfl ?_
        refine z_iload_n (i := 2) dX10_longestRest_55 rfl rfl ?_
        refine z_iload_n (i := 3) dX10_longestRest_56 rfl rfl ?_
        refine z_fSi (sJ9_max_7cf53 M v2 (0 : Int32)) dX10_longestRest_57 ml_X10_312 cd_J9_max_7cf53 rfl rfl rfl rfl rfl ?_
        refine z_istore_n (i := 2) dX10_longestRest_60 rfl (Nat.le_of_ble_eq_true rfl) rfl ?_
        refine z_iinc (i := 4) (v := (v4 + (1 : Int32))) dX10_longestRest_61 rfl (iinc_k kc_1) (Nat.le_of_ble_eq_true rfl) rfl ?_
        refine z_goto (tgt := 17) dX10_longestRest_64 rfl ?_
        exact ih _ _ _ h hK
      · have h := it_t h hc8
        refine z_iload_n (i := 3) dX10_longestRest_47 rfl rfl ?_
        refine z_iconst (v := (1 : Int32)) dX10_longestRest_48 kc_1 ?_
        refine z_iadd dX10_longestRest_49 ?_
        refine z_goto (tgt := 54) dX10_longestRest_50 rfl ?_
        refine z_istore_n (i := 3) dX10_longestRest_54 rfl (Nat.le_of_ble_eq_true rfl) rfl ?_
        refine z_iload_n (i := 2) dX10_longestRest_55 rfl rfl ?_
        refine z_iload_n (i := 3) dX10_longestRest_56 rfl rfl ?_
        refine z_fSi (sJ9_max_7cf53 M v2 (v3 + (1 : Int32))) dX10_longestRest_57 ml_X10_312 cd_J9_max_7cf53 rfl rfl rfl rfl rfl ?_
        refine z_istore_n (i := 2) dX10_longestRest_60 rfl (Nat.le_of_ble_eq_true rfl) rfl ?_
        refine z_iinc (i := 4) (v := (v4 + (1 : Int32))) dX10_longestRest_61 rfl (iinc_k kc_1) (Nat.le_of_ble_eq_true rfl) rfl ?_
        refine z_goto (tgt := 17) dX10_longestRest_64 rfl ?_
        exact ih _ _ _ h hK
set_option maxRecDepth 20000 in
set_option maxHeartbeats 2000000 in
theorem sX10_longestRest {wv : Nat} (M : Mm) (x1 : Int32) {res : (Int32 × Mm)} (h : fX10_longestRest M x1 = some res) : TF (wv + 1) yX10_longestRest cX10_longestRest 5 (some .int) 3 [.inr (18, 0, 0), .inl (.int x1)] M (some (.int res.1)) res.2 := by
  rw [fX10_longestRest] at h
  refine TF.go (n := 3) (ls := [some (.inr (18, 0, 0)), some (.inl (.int x1)), none, none, none]) rfl rfl rfl rfl rfl ?_
  refine z_aload_n (i := 0) dX10_longestRest_0 rfl rfl ?_
  refine z_iload_n (i := 1) dX10_longestRest_1 rfl rfl ?_
  obtain ⟨q1, hq2, h⟩ := bnd h
  refine z_fVi (sX10_findsTune M x1 hq2) dX10_longestRest_2 ml_X10_303 cd_X10_findsTune mk18 rfl rfl rfl rfl rfl rfl ?_
  refine z_if_ne (tgt := 10) dX10_longestRest_5 rfl (fun hc3 => ?_) (fun hc3 => ?_)
  · have h := it_f h hc3
    refine z_iconst (v := (0 : Int32)) dX10_longestRest_10 kc_0 ?_
    refine z_istore_n (i := 2) dX10_longestRest_11 rfl (Nat.le_of_ble_eq_true rfl) rfl ?_
    refine z_iconst (v := (0 : Int32)) dX10_longestRest_12 kc_0 ?_
    refine z_istore_n (i := 3) dX10_longestRest_13 rfl (Nat.le_of_ble_eq_true rfl) rfl ?_
    refine z_iconst (v := (0 : Int32)) dX10_longestRest_14 kc_0 ?_
    refine z_istore (i := 4) dX10_longestRest_15 (Nat.le_of_ble_eq_true rfl) rfl ?_
    refine sX10_longestRest_L17 q1.2 x1 NF _ _ _ h (fun w9 w10 w11 h => ?_)
    refine z_iload_n (i := 2) dX10_longestRest_67 rfl rfl ?_
    refine z_aload_n (i := 0) dX10_longestRest_68 rfl rfl ?_
    refine z_getR (r' := (19, 0, 0)) dX10_longestRest_69 fl_X10_7 mk18 rfl rfl ?_
    refine z_iconst (v := (0 : Int32)) dX10_longestRest_72 kc_0 ?_
    refine z_iald (x := (q1.2.1 (19, 0, 0) 0)) dX10_longestRest_73 (m19 _ (Nat.le_of_ble_eq_true rfl)) rfl (by decide) rfl ?_
    refine z_fSi (sJ9_min_7cf53 q1.2 w9 (q1.2.1 (19, 0, 0) 0)) dX10_longestRest_74 ml_X10_116 cd_J9_min_7cf53 rfl rfl rfl rfl rfl ?_
    cases h
    exact z_iret dX10_longestRest_77 rfl rfl (Nat.le_refl _) (Nat.le_refl _) ⟨rfl, rfl⟩
  · have h := it_t h hc3
    refine z_iconst (v := (0 : Int32)) dX10_longestRest_8 kc_0 ?_
    cases h
    exact z_iret dX10_longestRest_9 rfl rfl (Nat.le_refl _) (Nat.le_refl _) ⟨rfl, rfl⟩
theorem dX10_toothCount_0 : decode cX10_toothCount 0 = .ok (.aload_n 0, 1) := by decide +kernel
theorem dX10_toothCount_1 : decode cX10_toothCount 1 = .ok (.iconst 3, 1) := by decide +kernel
theorem dX10_toothCount_2 : decode cX10_toothCount 2 = .ok (.invokevirtual 297, 3) := by decide +kernel
theorem dX10_toothCount_5 : decode cX10_toothCount 5 = .ok (.ireturn, 1) := by decide +kernel
def fX10_toothCount (M : Mm) : Option (Int32 × Mm) := (fX10_tells M (3 : Int32)).bind fun q1 => some (q1.1, q1.2)
set_option maxRecDepth 20000 in
set_option maxHeartbeats 2000000 in
theorem sX10_toothCount {wv : Nat} (M : Mm) {res : (Int32 × Mm)} (h : fX10_toothCount M  = some res) : TF (wv + 1) yX10_toothCount cX10_toothCount 1 (some .int) 1 [.inr (18, 0, 0)] M (some (.int res.1)) res.2 := by
  rw [fX10_toothCount] at h
  refine TF.go (n := 0) (ls := [some (.inr (18, 0, 0))]) rfl rfl rfl rfl rfl ?_
  refine z_aload_n (i := 0) dX10_toothCount_0 rfl rfl ?_
  refine z_iconst (v := (3 : Int32)) dX10_toothCount_1 kc_3 ?_
  obtain ⟨q1, hq2, h⟩ := bnd h
  refine z_fVi (sX10_tells M (3 : Int32) hq2) dX10_toothCount_2 ml_X10_297 cd_X10_tells mk18 rfl rfl rfl rfl rfl rfl ?_
  cases h
  exact z_iret dX10_toothCount_5 rfl rfl (Nat.le_refl _) (Nat.le_refl _) ⟨rfl, rfl⟩
