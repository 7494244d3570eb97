theorem dX10_readsRepeat_0 : decode cX10_readsRepeat 0 = .ok (.aload_n 0, 1) := by decide +kernel
theorem dX10_readsRepeat_1 : decode cX10_readsRepeat 1 = .ok (.getfield 42, 3) := by decide +kernel
theorem dX10_readsRepeat_4 : decode cX10_readsRepeat 4 = .ok (.iload_n 1, 1) := by decide +kernel
theorem dX10_readsRepeat_5 : decode cX10_readsRepeat 5 = .ok (.aload_n 0, 1) := by decide +kernel
theorem dX10_readsRepeat_6 : decode cX10_readsRepeat 6 = .ok (.iconst 0, 1) := by decide +kernel
theorem dX10_readsRepeat_7 : decode cX10_readsRepeat 7 = .ok (.bipush 20, 2) := by decide +kernel
theorem dX10_readsRepeat_9 : decode cX10_readsRepeat 9 = .ok (.invokevirtual 177, 3) := by decide +kernel
theorem dX10_readsRepeat_12 : decode cX10_readsRepeat 12 = .ok (.iastore, 1) := by decide +kernel
theorem dX10_readsRepeat_13 : decode cX10_readsRepeat 13 = .ok (.aload_n 0, 1) := by decide +kernel
theorem dX10_readsRepeat_14 : decode cX10_readsRepeat 14 = .ok (.aload_n 0, 1) := by decide +kernel
theorem dX10_readsRepeat_15 : decode cX10_readsRepeat 15 = .ok (.bipush 40, 2) := by decide +kernel
theorem dX10_readsRepeat_17 : decode cX10_readsRepeat 17 = .ok (.invokevirtual 158, 3) := by decide +kernel
theorem dX10_readsRepeat_20 : decode cX10_readsRepeat 20 = .ok (.iconst 1, 1) := by decide +kernel
theorem dX10_readsRepeat_21 : decode cX10_readsRepeat 21 = .ok (.invokevirtual 161, 3) := by decide +kernel
theorem dX10_readsRepeat_24 : decode cX10_readsRepeat 24 = .ok (.ifCond .eq 19, 3) := by decide +kernel
theorem dX10_readsRepeat_27 : decode cX10_readsRepeat 27 = .ok (.aload_n 0, 1) := by decide +kernel
theorem dX10_readsRepeat_28 : decode cX10_readsRepeat 28 = .ok (.iload_n 2, 1) := by decide +kernel
theorem dX10_readsRepeat_29 : decode cX10_readsRepeat 29 = .ok (.iconst 2, 1) := by decide +kernel
theorem dX10_readsRepeat_30 : decode cX10_readsRepeat 30 = .ok (.if_icmp .ge 7, 3) := by decide +kernel
theorem dX10_readsRepeat_33 : decode cX10_readsRepeat 33 = .ok (.iconst 1, 1) := by decide +kernel
theorem dX10_readsRepeat_34 : decode cX10_readsRepeat 34 = .ok (.goto 4, 3) := by decide +kernel
theorem dX10_readsRepeat_37 : decode cX10_readsRepeat 37 = .ok (.iconst 0, 1) := by decide +kernel
theorem dX10_readsRepeat_38 : decode cX10_readsRepeat 38 = .ok (.iconst 4, 1) := by decide +kernel
theorem dX10_readsRepeat_39 : decode cX10_readsRepeat 39 = .ok (.invokevirtual 161, 3) := by decide +kernel
theorem dX10_readsRepeat_42 : decode cX10_readsRepeat 42 = .ok (.pop, 1) := by decide +kernel
theorem dX10_readsRepeat_43 : decode cX10_readsRepeat 43 = .ok (.aload_n 0, 1) := by decide +kernel
theorem dX10_readsRepeat_44 : decode cX10_readsRepeat 44 = .ok (.invokevirtual 164, 3) := by decide +kernel
theorem dX10_readsRepeat_47 : decode cX10_readsRepeat 47 = .ok (.aload_n 0, 1) := by decide +kernel
theorem dX10_readsRepeat_48 : decode cX10_readsRepeat 48 = .ok (.iload_n 2, 1) := by decide +kernel
theorem dX10_readsRepeat_49 : decode cX10_readsRepeat 49 = .ok (.iconst 1, 1) := by decide +kernel
theorem dX10_readsRepeat_50 : decode cX10_readsRepeat 50 = .ok (.iadd, 1) := by decide +kernel
theorem dX10_readsRepeat_51 : decode cX10_readsRepeat 51 = .ok (.invokevirtual 221, 3) := by decide +kernel
theorem dX10_readsRepeat_54 : decode cX10_readsRepeat 54 = .ok (.aload_n 0, 1) := by decide +kernel
theorem dX10_readsRepeat_55 : decode cX10_readsRepeat 55 = .ok (.bipush 41, 2) := by decide +kernel
theorem dX10_readsRepeat_57 : decode cX10_readsRepeat 57 = .ok (.invokevirtual 180, 3) := by decide +kernel
theorem dX10_readsRepeat_60 : decode cX10_readsRepeat 60 = .ok (.aload_n 0, 1) := by decide +kernel
theorem dX10_readsRepeat_61 : decode cX10_readsRepeat 61 = .ok (.getfield 45, 3) := by decide +kernel
theorem dX10_readsRepeat_64 : decode cX10_readsRepeat 64 = .ok (.iload_n 1, 1) := by decide +kernel
theorem dX10_readsRepeat_65 : decode cX10_readsRepeat 65 = .ok (.aload_n 0, 1) := by decide +kernel
theorem dX10_readsRepeat_66 : decode cX10_readsRepeat 66 = .ok (.getfield 224, 3) := by decide +kernel
theorem dX10_readsRepeat_69 : decode cX10_readsRepeat 69 = .ok (.iastore, 1) := by decide +kernel
theorem dX10_readsRepeat_70 : decode cX10_readsRepeat 70 = .ok (.return_, 1) := by decide +kernel
def fX10_readsRepeat (rc : Mm → Int32 → Option Mm) (M : Mm) (x1 : Int32) (x2 : Int32) : Option Mm := (fX10_number M (0 : Int32) (20 : Int32)).bind fun q1 => if x1 < 0 ∨ 30 ≤ x1.toNatClampNeg then none else (fX10_isSign (putI q1.2 (19, 8, 0) x1.toNatClampNeg q1.1) (40 : Int32)).bind fun q4 => (fX10_must (putI q1.2 (19, 8, 0) x1.toNatClampNeg q1.1) q4 (1 : Int32)).bind fun q6 => if q6.1 = 0 then ((fX10_goesOn q6.2).bind fun q9 => (rc q9 (x2 + (1 : Int32))).bind fun q11 => (fX10_takesSign q11 (41 : Int32)).bind fun q13 => if x1 < 0 ∨ 30 ≤ x1.toNatClampNeg then none else some (putI q13 (19, 9, 0) x1.toNatClampNeg (q13.1 (18, 0, 0) 23))) else if (2 : Int32) ≤ x2 then ((fX10_must q6.2 (0 : Int32) (4 : Int32)).bind fun q17 => (fX10_goesOn q17.2).bind fun q19 => (rc q19 (x2 + (1 : Int32))).bind fun q21 => (fX10_takesSign q21 (41 : Int32)).bind fun q23 => if x1 < 0 ∨ 30 ≤ x1.toNatClampNeg then none else some (putI q23 (19, 9, 0) x1.toNatClampNeg (q23.1 (18, 0, 0) 23))) else (fX10_must q6.2 (1 : Int32) (4 : Int32)).bind fun q26 => (fX10_goesOn q26.2).bind fun q28 => (rc q28 (x2 + (1 : Int32))).bind fun q30 => (fX10_takesSign q30 (41 : Int32)).bind fun q32 => if x1 < 0 ∨ 30 ≤ x1.toNatClampNeg then none else some (putI q32 (19, 9, 0) x1.toNatClampNeg (q32.1 (18, 0, 0) 23))
set_option maxRecDepth 20000 in
set_option maxHeartbeats 2000000 in
theorem sX10_readsRepeat {wv : Nat} (rc : Mm → Int32 → Option Mm) (dd : Nat) (hrc : ∀ (M : Mm) (x1 : Int32) (res : Mm), rc M x1 = some res → TF (wv + 1) yX10_readsCommands cX10_readsCommands 2 none dd [.inr (18, 0, 0), .inl (.int x1)] M (none) res) (M : Mm) (x1 : Int32) (x2 : Int32) {res : Mm} (h : fX10_readsRepeat rc M x1 x2 = some res) : TF (wv + 1) yX10_readsRepeat cX10_readsRepeat 3 none (dd + 4) [.inr (18, 0, 0), .inl (.int x1), .inl (.int x2)] M (none) res := by
  rw [fX10_readsRepeat] at h
  refine TF.go (n := 0) (ls := [some (.inr (18, 0, 0)), some (.inl (.int x1)), some (.inl (.int x2))]) rfl rfl rfl rfl rfl ?_
  refine z_aload_n (i := 0) dX10_readsRepeat_0 rfl rfl ?_
  refine z_getR (r' := (19, 8, 0)) dX10_readsRepeat_1 fl_X10_42 mk18 rfl rfl ?_
  refine z_iload_n (i := 1) dX10_readsRepeat_4 rfl rfl ?_
  refine z_aload_n (i := 0) dX10_readsRepeat_5 rfl rfl ?_
  refine z_iconst (v := (0 : Int32)) dX10_readsRepeat_6 kc_0 ?_
  refine z_bipush (v := (20 : Int32)) dX10_readsRepeat_7 kb_20 ?_
  obtain ⟨q1, hq2, h⟩ := bnd h
  refine z_fVi (sX10_number M (0 : Int32) (20 : Int32) hq2) dX10_readsRepeat_9 ml_X10_177 cd_X10_number mk18 rfl rfl rfl (rmk_d (by omega) (by decide)) rfl rfl ?_
  obtain ⟨hc3, h⟩ := chk h
  refine z_iast (j := x1.toNatClampNeg) allR_nd dX10_readsRepeat_12 (m19 _ (Nat.le_of_ble_eq_true rfl)) rfl hc3 rfl ?_
  refine z_aload_n (i := 0) dX10_readsRepeat_13 rfl rfl ?_
  refine z_aload_n (i := 0) dX10_readsRepeat_14 rfl rfl ?_
  refine z_bipush (v := (40 : Int32)) dX10_readsRepeat_15 kb_40 ?_
  obtain ⟨q4, hq5, h⟩ := bnd h
  refine z_fVi (sX10_isSign (putI q1.2 (19, 8, 0) x1.toNatClampNeg q1.1) (40 : Int32) hq5) dX10_readsRepeat_17 ml_X10_158 cd_X10_isSign mk18 rfl rfl rfl (rmk_d (by omega) (by decide)) rfl rfl ?_
  refine z_iconst (v := (1 : Int32)) dX10_readsRepeat_20 kc_1 ?_
  obtain ⟨q6, hq7, h⟩ := bnd h
  refine z_fVi (sX10_must (putI q1.2 (19, 8, 0) x1.toNatClampNeg q1.1) q4 (1 : Int32) hq7) dX10_readsRepeat_21 ml_X10_161 cd_X10_must mk18 rfl rfl rfl (rmk_d (by omega) (by decide)) rfl rfl ?_
  refine z_if_eq (tgt := 43) dX10_readsRepeat_24 rfl (fun hc8 => ?_) (fun hc8 => ?_)
  · have h := it_t h hc8
    refine z_aload_n (i := 0) dX10_readsRepeat_43 rfl rfl ?_
    obtain ⟨q9, hq10, h⟩ := bnd h
    refine z_fVv (sX10_goesOn q6.2 hq10) dX10_readsRepeat_44 ml_X10_164 cd_X10_goesOn mk18 rfl rfl rfl (rmk_d (by omega) (by decide)) rfl rfl ?_
    refine z_aload_n (i := 0) dX10_readsRepeat_47 rfl rfl ?_
    refine z_iload_n (i := 2) dX10_readsRepeat_48 rfl rfl ?_
    refine z_iconst (v := (1 : Int32)) dX10_readsRepeat_49 kc_1 ?_
    refine z_iadd dX10_readsRepeat_50 ?_
    obtain ⟨q11, hq12, h⟩ := bnd h
    refine z_fVv (hrc q9 (x2 + (1 : Int32)) _ hq12) dX10_readsRepeat_51 ml_X10_221 cd_X10_readsCommands mk18 rfl rfl rfl (rmk_d (by omega) (by decide)) rfl rfl ?_
    refine z_aload_n (i := 0) dX10_readsRepeat_54 rfl rfl ?_
    refine z_bipush (v := (41 : Int32)) dX10_readsRepeat_55 kb_41 ?_
    obtain ⟨q13, hq14, h⟩ := bnd h
    refine z_fVv (sX10_takesSign q11 (41 : Int32) hq14) dX10_readsRepeat_57 ml_X10_180 cd_X10_takesSign mk18 rfl rfl rfl (rmk_d (by omega) (by decide)) rfl rfl ?_
    refine z_aload_n (i := 0) dX10_readsRepeat_60 rfl rfl ?_
    refine z_getR (r' := (19, 9, 0)) dX10_readsRepeat_61 fl_X10_45 mk18 rfl rfl ?_
    refine z_iload_n (i := 1) dX10_readsRepeat_64 rfl rfl ?_
    refine z_aload_n (i := 0) dX10_readsRepeat_65 rfl rfl ?_
    refine z_getI (x := (q13.1 (18, 0, 0) 23)) dX10_readsRepeat_66 fl_X10_224 mk18 rfl rfl ?_
    obtain ⟨hc15, h⟩ := chk h
    refine z_iast (j := x1.toNatClampNeg) allR_nd dX10_readsRepeat_69 (m19 _ (Nat.le_of_ble_eq_true rfl)) rfl hc15 rfl ?_
    cases h
    exact z_vret dX10_readsRepeat_70 rfl (Nat.le_refl _) (Nat.le_refl _) ⟨rfl, rfl⟩
  · have h := it_f h hc8
    refine z_aload_n (i := 0) dX10_readsRepeat_27 rfl rfl ?_
    refine z_iload_n (i := 2) dX10_readsRepeat_28 rfl rfl ?_
    refine z_iconst (v := (2 : Int32)) dX10_readsRepeat_29 kc_2 ?_
    refine z_icmp_ge (tgt := 37) dX10_readsRepeat_30 rfl (fun hc16 => ?_) (fun hc16 => ?_)
    · have h := it_t h hc16
      refine z_iconst (v := (0 : Int32)) dX10_readsRepeat_37 kc_0 ?_
      refine z_iconst (v := (4 : Int32)) dX10_readsRepeat_38 kc_4 ?_
      obtain ⟨q17, hq18, h⟩ := bnd h
      refine z_fVi (sX10_must q6.2 (0 : Int32) (4 : Int32) hq18) dX10_readsRepeat_39 ml_X10_161 cd_X10_must mk18 rfl rfl rfl (rmk_d (by omega) (by decide)) rfl rfl ?_
      refine z_pop dX10_readsRepeat_42 rfl ?_
      refine z_aload_n (i := 0) dX10_readsRepeat_43 rfl rfl ?_
      obtain ⟨q19, hq20, h⟩ := bnd h
      refine z_fVv (sX10_goesOn q17.2 hq20) dX10_readsRepeat_44 ml_X10_164 cd_X10_goesOn mk18 rfl rfl rfl (rmk_d (by omega) (by decide)) rfl rfl ?_
      refine z_aload_n (i := 0) dX10_readsRepeat_47 rfl rfl ?_
      refine z_iload_n (i := 2) dX10_readsRepeat_48 rfl rfl ?_
      refine z_iconst (v := (1 : Int32)) dX10_readsRepeat_49 kc_1 ?_
      refine z_iadd dX10_readsRepeat_50 ?_
      obtain ⟨q21, hq22, h⟩ := bnd h
      refine z_fVv (hrc q19 (x2 + (1 : Int32)) _ hq22) dX10_readsRepeat_51 ml_X10_221 cd_X10_readsCommands mk18 rfl rfl rfl (rmk_d (by omega) (by decide)) rfl rfl ?_
      refine z_aload_n (i := 0) dX10_readsRepeat_54 rfl rfl ?_
      refine z_bipush (v := (41 : Int32)) dX10_readsRepeat_55 kb_41 ?_
      obtain ⟨q23, hq24, h⟩ := bnd h
      refine z_fVv (sX10_takesSign q21 (41 : Int32) hq24) dX10_readsRepeat_57 ml_X10_180 cd_X10_takesSign mk18 rfl rfl rfl (rmk_d (by omega) (by decide)) rfl rfl ?_
      refine z_aload_n (i := 0) dX10_readsRepeat_60 rfl rfl ?_
      refine z_getR (r' := (19, 9, 0)) dX10_readsRepeat_61 fl_X10_45 mk18 rfl rfl ?_
      refine z_iload_n (i := 1) dX10_readsRepeat_64 rfl rfl ?_
      refine z_aload_n (i := 0) dX10_readsRepeat_65 rfl rfl ?_
      refine z_getI (x := (q23.1 (18, 0, 0) 23)) dX10_readsRepeat_66 fl_X10_224 mk18 rfl rfl ?_
      obtain ⟨hc25, h⟩ := chk h
      refine z_iast (j := x1.toNatClampNeg) allR_nd dX10_readsRepeat_69 (m19 _ (Nat.le_of_ble_eq_true rfl)) rfl hc25 rfl ?_
      cases h
      exact z_vret dX10_readsRepeat_70 rfl (Nat.le_refl _) (Nat.le_refl _) ⟨rfl, rfl⟩
    · have h := it_f h hc16
      refine z_iconst (v := (1 : Int32)) dX10_readsRepeat_33 kc_1 ?_
      refine z_goto (tgt := 38) dX10_readsRepeat_34 rfl ?_
      refine z_iconst (v := (4 : Int32)) dX10_readsRepeat_38 kc_4 ?_
      obtain ⟨q26, hq27, h⟩ := bnd h
      refine z_fVi (sX10_must q6.2 (1 : Int32) (4 : Int32) hq27) dX10_readsRepeat_39 ml_X10_161 cd_X10_must mk18 rfl rfl rfl (rmk_d (by omega) (by decide)) rfl rfl ?_
      refine z_pop dX10_readsRepeat_42 rfl ?_
      refine z_aload_n (i := 0) dX10_readsRepeat_43 rfl rfl ?_
      obtain ⟨q28, hq29, h⟩ := bnd h
      refine z_fVv (sX10_goesOn q26.2 hq29) dX10_readsRepeat_44 ml_X10_164 cd_X10_goesOn mk18 rfl rfl rfl (rmk_d (by omega) (by decide)) rfl rfl ?_
      refine z_aload_n (i := 0) dX10_readsRepeat_47 rfl rfl ?_
      refine z_iload_n (i := 2) dX10_readsRepeat_48 rfl rfl ?_
      refine z_iconst (v := (1 : Int32)) dX10_readsRepeat_49 kc_1 ?_
      refine z_iadd dX10_readsRepeat_50 ?_
      obtain ⟨q30, hq31, h⟩ := bnd h
      refine z_fVv (hrc q28 (x2 + (1 : Int32)) _ hq31) dX10_readsRepeat_51 ml_X10_221 cd_X10_readsCommands mk18 rfl rfl rfl (rmk_d (by omega) (by decide)) rfl rfl ?_
      refine z_aload_n (i := 0) dX10_readsRepeat_54 rfl rfl ?_
      refine z_bipush (v := (41 : Int32)) dX10_readsRepeat_55 kb_41 ?_
      obtain ⟨q32, hq33, h⟩ := bnd h
      refine z_fVv (sX10_takesSign q30 (41 : Int32) hq33) dX10_readsRepeat_57 ml_X10_180 cd_X10_takesSign mk18 rfl rfl rfl (rmk_d (by omega) (by decide)) rfl rfl ?_
      refine z_aload_n (i := 0) dX10_readsRepeat_60 rfl rfl ?_
      refine z_getR (r' := (19, 9, 0)) dX10_readsRepeat_61 fl_X10_45 mk18 rfl rfl ?_
      refine z_iload_n (i := 1) dX10_readsRepeat_64 rfl rfl ?_
      refine z_aload_n (i := 0) dX10_readsRepeat_65 rfl rfl ?_
      refine z_getI (x := (q32.1 (18, 0, 0) 23)) dX10_readsRepeat_66 fl_X10_224 mk18 rfl rfl ?_
      obtain ⟨hc34, h⟩ := chk h
      refine z_iast (j := x1.toNatClampNeg) allR_nd dX10_readsRepeat_69 (m19 _ (Nat.le_of_ble_eq_true rfl)) rfl hc34 rfl ?_
      cases h
      exact z_vret dX10_readsRepeat_70 rfl (Nat.le_refl _) (Nat.le_refl _) ⟨rfl, rfl⟩
theorem dX10_takesDirection_0 : decode cX10_takesDirection 0 = .ok (.aload_n 0, 1) := by decide +kernel
theorem dX10_takesDirection_1 : decode cX10_takesDirection 1 = .ok (.ldc 227, 2) := by decide +kernel
theorem dX10_takesDirection_3 : decode cX10_takesDirection 3 = .ok (.invokevirtual 173, 3) := by decide +kernel
theorem dX10_takesDirection_6 : decode cX10_takesDirection 6 = .ok (.ifCond .eq 7, 3) := by decide +kernel
theorem dX10_takesDirection_9 : decode cX10_takesDirection 9 = .ok (.iconst 1, 1) := by decide +kernel
theorem dX10_takesDirection_10 : decode cX10_takesDirection 10 = .ok (.goto 4, 3) := by decide +kernel
theorem dX10_takesDirection_13 : decode cX10_takesDirection 13 = .ok (.iconst (-1), 1) := by decide +kernel
theorem dX10_takesDirection_14 : decode cX10_takesDirection 14 = .ok (.istore_n 1, 1) := by decide +kernel
theorem dX10_takesDirection_15 : decode cX10_takesDirection 15 = .ok (.aload_n 0, 1) := by decide +kernel
theorem dX10_takesDirection_16 : decode cX10_takesDirection 16 = .ok (.iload_n 1, 1) := by decide +kernel
theorem dX10_takesDirection_17 : decode cX10_takesDirection 17 = .ok (.iconst 1, 1) := by decide +kernel
theorem dX10_takesDirection_18 : decode cX10_takesDirection 18 = .ok (.if_icmp .eq 12, 3) := by decide +kernel
theorem dX10_takesDirection_21 : decode cX10_takesDirection 21 = .ok (.aload_n 0, 1) := by decide +kernel
theorem dX10_takesDirection_22 : decode cX10_takesDirection 22 = .ok (.ldc 229, 2) := by decide +kernel
theorem dX10_takesDirection_24 : decode cX10_takesDirection 24 = .ok (.invokevirtual 173, 3) := by decide +kernel
theorem dX10_takesDirection_27 : decode cX10_takesDirection 27 = .ok (.ifCond .eq 7, 3) := by decide +kernel
theorem dX10_takesDirection_30 : decode cX10_takesDirection 30 = .ok (.iconst 1, 1) := by decide +kernel
theorem dX10_takesDirection_31 : decode cX10_takesDirection 31 = .ok (.goto 4, 3) := by decide +kernel
theorem dX10_takesDirection_34 : decode cX10_takesDirection 34 = .ok (.iconst 0, 1) := by decide +kernel
theorem dX10_takesDirection_35 : decode cX10_takesDirection 35 = .ok (.iconst 1, 1) := by decide +kernel
theorem dX10_takesDirection_36 : decode cX10_takesDirection 36 = .ok (.invokevirtual 161, 3) := by decide +kernel
theorem dX10_takesDirection_39 : decode cX10_takesDirection 39 = .ok (.pop, 1) := by decide +kernel
theorem dX10_takesDirection_40 : decode cX10_takesDirection 40 = .ok (.aload_n 0, 1) := by decide +kernel
theorem dX10_takesDirection_41 : decode cX10_takesDirection 41 = .ok (.invokevirtual 164, 3) := by decide +kernel
theorem dX10_takesDirection_44 : decode cX10_takesDirection 44 = .ok (.iload_n 1, 1) := by decide +kernel
theorem dX10_takesDirection_45 : decode cX10_takesDirection 45 = .ok (.ireturn, 1) := by decide +kernel
def fX10_takesDirection (M : Mm) : Option (Int32 × Mm) := (fX10_isWord M 13).bind fun q1 => if q1 = 0 then (if (-1 : Int32) = (1 : Int32) then ((fX10_must M (1 : Int32) (1 : Int32)).bind fun q5 => (fX10_goesOn q5.2).bind fun q7 => some ((-1 : Int32), q7)) else (fX10_isWord M 14).bind fun q9 => if q9 = 0 then ((fX10_must M (0 : Int32) (1 : Int32)).bind fun q12 => (fX10_goesOn q12.2).bind fun q14 => some ((-1 : Int32), q14)) else (fX10_must M (1 : Int32) (1 : Int32)).bind fun q16 => (fX10_goesOn q16.2).bind fun q18 => some ((-1 : Int32), q18)) else if (1 : Int32) = (1 : Int32) then ((fX10_must M (1 : Int32) (1 : Int32)).bind fun q21 => (fX10_goesOn q21.2).bind fun q23 => some ((1 : Int32), q23)) else (fX10_isWord M 14).bind fun q25 => if q25 = 0 then ((fX10_must M (0 : Int32) (1 : Int32)).bind fun q28 => (fX10_goesOn q28.2).bind fun q30 => some ((1 : Int32), q30)) else (fX10_must M (1 : Int32) (1 : Int32)).bind fun q32 => (fX10_goesOn q32.2).bind fun q34 => some ((1 : Int32), q34)
set_option maxRecDepth 20000 in
set_option maxHeartbeats 2000000 in
theorem sX10_takesDirection {wv : Nat} (M : Mm) {res : (Int32 × Mm)} (h : fX10_takesDirection M  = some res) : TF (wv + 1) yX10_takesDirection cX10_takesDirection 2 (some .int) 8 [.inr (18, 0, 0)] M (some (.int res.1)) res.2 := by
  rw [fX10_takesDirection] at h
  refine TF.go (n := 1) (ls := [some (.inr (18, 0, 0)), none]) rfl rfl rfl rfl rfl ?_
  refine z_aload_n (i := 0) dX10_takesDirection_0 rfl rfl ?_
  refine z_ldcS (j := 13) dX10_takesDirection_1 sw_RX10_227 ?_
  obtain ⟨q1, hq2, h⟩ := bnd h
  refine z_fVi (sX10_isWord M 13 (Nat.le_of_ble_eq_true rfl) hq2) dX10_takesDirection_3 ml_X10_173 cd_X10_isWord mk18 rfl rfl rfl rfl rfl rfl ?_
  refine z_if_eq (tgt := 13) dX10_takesDirection_6 rfl (fun hc3 => ?_) (fun hc3 => ?_)
  · have h := it_t h hc3
    refine z_iconst (v := (-1 : Int32)) dX10_takesDirection_13 kc_m1 ?_
    refine z_istore_n (i := 1) dX10_takesDirection_14 rfl (Nat.le_of_ble_eq_true rfl) rfl ?_
    refine z_aload_n (i := 0) dX10_takesDirection_15 rfl rfl ?_
    refine z_iload_n (i := 1) dX10_takesDirection_16 rfl rfl ?_
    refine z_iconst (v := (1 : Int32)) dX10_takesDirection_17 kc_1 ?_
    refine z_icmp_eq (tgt := 30) dX10_takesDirection_18 rfl (fun hc4 => ?_) (fun hc4 => ?_)
    · have h := it_t h hc4
      refine z_iconst (v := (1 : Int32)) dX10_takesDirection_30 kc_1 ?_
      refine z_goto (tgt := 35) dX10_takesDirection_31 rfl ?_
      refine z_iconst (v := (1 : Int32)) dX10_takesDirection_35 kc_1 ?_
      obtain ⟨q5, hq6, h⟩ := bnd h
      refine z_fVi (sX10_must M (1 : Int32) (1 : Int32) hq6) dX10_takesDirection_36 ml_X10_161 cd_X10_must mk18 rfl rfl rfl rfl rfl rfl ?_
      refine z_pop dX10_takesDirection_39 rfl ?_
      refine z_aload_n (i := 0) dX10_takesDirection_40 rfl rfl ?_
      obtain ⟨q7, hq8, h⟩ := bnd h
      refine z_fVv (sX10_goesOn q5.2 hq8) dX10_takesDirection_41 ml_X10_164 cd_X10_goesOn mk18 rfl rfl rfl rfl rfl rfl ?_
      refine z_iload_n (i := 1) dX10_takesDirection_44 rfl rfl ?_
      cases h
      exact z_iret dX10_takesDirection_45 rfl rfl (Nat.le_refl _) (Nat.le_refl _) ⟨rfl, rfl⟩
    · have h := it_f h hc4
      refine z_aload_n (i := 0) dX10_takesDirection_21 rfl rfl ?_
      refine z_ldcS (j := 14) dX10_takesDirection_22 sw_RX10_229 ?_
      obtain ⟨q9, hq10, h⟩ := bnd h
      refine z_fVi (sX10_isWord M 14 (Nat.le_of_ble_eq_true rfl) hq10) dX10_takesDirection_24 ml_X10_173 cd_X10_isWord mk18 rfl rfl rfl rfl rfl rfl ?_
      refine z_if_eq (tgt := 34) dX10_takesDirection_27 rfl (fun hc11 => ?_) (fun hc11 => ?_)
      · have h := it_t h hc11
        refine z_iconst (v := (0 : Int32)) dX10_takesDirection_34 kc_0 ?_
        refine z_iconst (v := (1 : Int32)) dX10_takesDirection_35 kc_1 ?_
        obtain ⟨q12, hq13, h⟩ := bnd h
        refine z_fVi (sX10_must M (0 : Int32) (1 : Int32) hq13) dX10_takesDirection_36 ml_X10_161 cd_X10_must mk18 rfl rfl rfl rfl rfl rfl ?_
        refine z_pop dX10_takesDirection_39 rfl ?_
        refine z_aload_n (i := 0) dX10_takesDirection_40 rfl rfl ?_
        obtain ⟨q14, hq15, h⟩ := bnd h
        refine z_fVv (sX10_goesOn q12.2 hq15) dX10_takesDirection_41 ml_X10_164 cd_X10_goesOn mk18 rfl rfl rfl rfl rfl rfl ?_
        refine z_iload_n (i := 1) dX10_takesDirection_44 rfl rfl ?_
        cases h
        exact z_iret dX10_takesDirection_45 rfl rfl (Nat.le_refl _) (Nat.le_refl _) ⟨rfl, rfl⟩
      · have h := it_f h hc11
        refine z_iconst (v := (1 : Int32)) dX10_takesDirection_30 kc_1 ?_
        refine z_goto (tgt := 35) dX10_takesDirection_31 rfl ?_
        refine z_iconst (v := (1 : Int32)) dX10_takesDirection_35 kc_1 ?_
        obtain ⟨q16, hq17, h⟩ := bnd h
        refine z_fVi (sX10_must M (1 : Int32) (1 : Int32) hq17) dX10_takesDirection_36 ml_X10_161 cd_X10_must mk18 rfl rfl rfl rfl rfl rfl ?_
        refine z_pop dX10_takesDirection_39 rfl ?_
        refine z_aload_n (i := 0) dX10_takesDirection_40 rfl rfl ?_
        obtain ⟨q18, hq19, h⟩ := bnd h
        refine z_fVv (sX10_goesOn q16.2 hq19) dX10_takesDirection_41 ml_X10_164 cd_X10_goesOn mk18 rfl rfl rfl rfl rfl rfl ?_
        refine z_iload_n (i := 1) dX10_takesDirection_44 rfl rfl ?_
        cases h
        exact z_iret dX10_takesDirection_45 rfl rfl (Nat.le_refl _) (Nat.le_refl _) ⟨rfl, rfl⟩
  · have h := it_f h hc3
    refine z_iconst (v := (1 : Int32)) dX10_takesDirection_9 kc_1 ?_
    refine z_goto (tgt := 14) dX10_takesDirection_10 rfl ?_
    refine z_istore_n (i := 1) dX10_takesDirection_14 rfl (Nat.le_of_ble_eq_true rfl) rfl ?_
    refine z_aload_n (i := 0) dX10_takesDirection_15 rfl rfl ?_
    refine z_iload_n (i := 1) dX10_takesDirection_16 rfl rfl ?_
    refine z_iconst (v := (1 : Int32)) dX10_takesDirection_17 kc_1 ?_
    refine z_icmp_eq (tgt := 30) dX10_takesDirection_18 rfl (fun hc20 => ?_) (fun hc20 => ?_)
    · have h := it_t h hc20
      refine z_iconst (v := (1 : Int32)) dX10_takesDirection_30 kc_1 ?_
      refine z_goto (tgt := 35) dX10_takesDirection_31 rfl ?_
      refine z_iconst (v := (1 : Int32)) dX10_takesDirection_35 kc_1 ?_
      obtain ⟨q21, hq22, h⟩ := bnd h
      refine z_fVi (sX10_must M (1 : Int32) (1 : Int32) hq22) dX10_takesDirection_36 ml_X10_161 cd_X10_must mk18 rfl rfl rfl rfl rfl rfl ?_
      refine z_pop dX10_takesDirection_39 rfl ?_
      refine z_aload_n (i := 0) dX10_takesDirection_40 rfl rfl ?_
      obtain ⟨q23, hq24, h⟩ := bnd h
      refine z_fVv (sX10_goesOn q21.2 hq24) dX10_takesDirection_41 ml_X10_164 cd_X10_goesOn mk18 rfl rfl rfl rfl rfl rfl ?_
      refine z_iload_n (i := 1) dX10_takesDirection_44 rfl rfl ?_
      cases h
      exact z_iret dX10_takesDirection_45 rfl rfl (Nat.le_refl _) (Nat.le_refl _) ⟨rfl, rfl⟩
    · have h := it_f h hc20
      refine z_aload_n (i := 0) dX10_takesDirection_21 rfl rfl ?_
      refine z_ldcS (j := 14) dX10_takesDirection_22 sw_RX10_229 ?_
      obtain ⟨q25, hq26, h⟩ := bnd h
      refine z_fVi (sX10_isWord M 14 (Nat.le_of_ble_eq_true rfl) hq26) dX10_takesDirection_24 ml_X10_173 cd_X10_isWord mk18 rfl rfl rfl rfl rfl rfl ?_
      refine z_if_eq (tgt := 34) dX10_takesDirection_27 rfl (fun hc27 => ?_) (fun hc27 => ?_)
      · have h := it_t h hc27
        refine z_iconst (v := (0 : Int32)) dX10_takesDirection_34 kc_0 ?_
        refine z_iconst (v := (1 : Int32)) dX10_takesDirection_35 kc_1 ?_
        obtain ⟨q28, hq29, h⟩ := bnd h
        refine z_fVi (sX10_must M (0 : Int32) (1 : Int32) hq29) dX10_takesDirection_36 ml_X10_161 cd_X10_must mk18 rfl rfl rfl rfl rfl rfl ?_
        refine z_pop dX10_takesDirection_39 rfl ?_
        refine z_aload_n (i := 0) dX10_takesDirection_40 rfl rfl ?_
        obtain ⟨q30, hq31, h⟩ := bnd h
        refine z_fVv (sX10_goesOn q28.2 hq31) dX10_takesDirection_41 ml_X10_164 cd_X10_goesOn mk18 rfl rfl rfl rfl rfl rfl ?_
        refine z_iload_n (i := 1) dX10_takesDirection_44 rfl rfl ?_
        cases h
        exact z_iret dX10_takesDirection_45 rfl rfl (Nat.le_refl _) (Nat.le_refl _) ⟨rfl, rfl⟩
      · have h := it_f h hc27
        refine z_iconst (v := (1 : Int32)) dX10_takesDirection_30 kc_1 ?_
        refine z_goto (tgt := 35) dX10_takesDirection_31 rfl ?_
        refine z_iconst (v := (1 : Int32)) dX10_takesDirection_35 kc_1 ?_
        obtain ⟨q32, hq33, h⟩ := bnd h
        refine z_fVi (sX10_must M (1 : Int32) (1 : Int32) hq33) dX10_takesDirection_36 ml_X10_161 cd_X10_must mk18 rfl rfl rfl rfl rfl rfl ?_
        refine z_pop dX10_takesDirection_39 rfl ?_
        refine z_aload_n (i := 0) dX10_takesDirection_40 rfl rfl ?_
        obtain ⟨q34, hq35, h⟩ := bnd h
        refine z_fVv (sX10_goesOn q32.2 hq35) dX10_takesDirection_41 ml_X10_164 cd_X10_goesOn mk18 rfl rfl rfl rfl rfl rfl ?_
        refine z_iload_n (i := 1) dX10_takesDirection_44 rfl rfl ?_
        cases h
        exact z_iret dX10_takesDirection_45 rfl rfl (Nat.le_refl _) (Nat.le_refl _) ⟨rfl, rfl⟩
theorem dX10_readsSingle_0 : decode cX10_readsSingle 0 = .ok (.aload_n 0, 1) := by decide +kernel
theorem dX10_readsSingle_1 : decode cX10_readsSingle 1 = .ok (.getfield 39, 3) := by decide +kernel
theorem dX10_readsSingle_4 : decode cX10_readsSingle 4 = .ok (.iload_n 1, 1) := by decide +kernel
theorem dX10_readsSingle_5 : decode cX10_readsSingle 5 = .ok (.iaload, 1) := by decide +kernel
theorem dX10_readsSingle_6 : decode cX10_readsSingle 6 = .ok (.tableswitch 220 0 7 #[46, 46, 87, 116, 157, 173, 189, 205], 46) := by decide +kernel
theorem dX10_readsSingle_52 : decode cX10_readsSingle 52 = .ok (.aload_n 0, 1) := by decide +kernel
theorem dX10_readsSingle_53 : decode cX10_readsSingle 53 = .ok (.getfield 42, 3) := by decide +kernel
theorem dX10_readsSingle_56 : decode cX10_readsSingle 56 = .ok (.iload_n 1, 1) := by decide +kernel
theorem dX10_readsSingle_57 : decode cX10_readsSingle 57 = .ok (.aload_n 0, 1) := by decide +kernel
theorem dX10_readsSingle_58 : decode cX10_readsSingle 58 = .ok (.iconst 0, 1) := by decide +kernel
theorem dX10_readsSingle_59 : decode cX10_readsSingle 59 = .ok (.iconst 2, 1) := by decide +kernel
theorem dX10_readsSingle_60 : decode cX10_readsSingle 60 = .ok (.invokevirtual 177, 3) := by decide +kernel
theorem dX10_readsSingle_63 : decode cX10_readsSingle 63 = .ok (.iastore, 1) := by decide +kernel
theorem dX10_readsSingle_64 : decode cX10_readsSingle 64 = .ok (.aload_n 0, 1) := by decide +kernel
theorem dX10_readsSingle_65 : decode cX10_readsSingle 65 = .ok (.getfield 45, 3) := by decide +kernel
theorem dX10_readsSingle_68 : decode cX10_readsSingle 68 = .ok (.iload_n 1, 1) := by decide +kernel
theorem dX10_readsSingle_69 : decode cX10_readsSingle 69 = .ok (.aload_n 0, 1) := by decide +kernel
theorem dX10_readsSingle_70 : decode cX10_readsSingle 70 = .ok (.iconst 0, 1) := by decide +kernel
theorem dX10_readsSingle_71 : decode cX10_readsSingle 71 = .ok (.bipush 11, 2) := by decide +kernel
theorem dX10_readsSingle_73 : decode cX10_readsSingle 73 = .ok (.invokevirtual 177, 3) := by decide +kernel
theorem dX10_readsSingle_76 : decode cX10_readsSingle 76 = .ok (.iastore, 1) := by decide +kernel
theorem dX10_readsSingle_77 : decode cX10_readsSingle 77 = .ok (.aload_n 0, 1) := by decide +kernel
theorem dX10_readsSingle_78 : decode cX10_readsSingle 78 = .ok (.getfield 48, 3) := by decide +kernel
theorem dX10_readsSingle_81 : decode cX10_readsSingle 81 = .ok (.iload_n 1, 1) := by decide +kernel
theorem dX10_readsSingle_82 : decode cX10_readsSingle 82 = .ok (.aload_n 0, 1) := by decide +kernel
theorem dX10_readsSingle_83 : decode cX10_readsSingle 83 = .ok (.iconst 0, 1) := by decide +kernel
theorem dX10_readsSingle_84 : decode cX10_readsSingle 84 = .ok (.bipush 63, 2) := by decide +kernel
theorem dX10_readsSingle_86 : decode cX10_readsSingle 86 = .ok (.invokevirtual 177, 3) := by decide +kernel
theorem dX10_readsSingle_89 : decode cX10_readsSingle 89 = .ok (.iastore, 1) := by decide +kernel
theorem dX10_readsSingle_90 : decode cX10_readsSingle 90 = .ok (.goto 150, 3) := by decide +kernel
theorem dX10_readsSingle_93 : decode cX10_readsSingle 93 = .ok (.aload_n 0, 1) := by decide +kernel
theorem dX10_readsSingle_94 : decode cX10_readsSingle 94 = .ok (.getfield 42, 3) := by decide +kernel
theorem dX10_readsSingle_97 : decode cX10_readsSingle 97 = .ok (.iload_n 1, 1) := by decide +kernel
theorem dX10_readsSingle_98 : decode cX10_readsSingle 98 = .ok (.aload_n 0, 1) := by decide +kernel
theorem dX10_readsSingle_99 : decode cX10_readsSingle 99 = .ok (.iconst 0, 1) := by decide +kernel
theorem dX10_readsSingle_100 : decode cX10_readsSingle 100 = .ok (.bipush 11, 2) := by decide +kernel
theorem dX10_readsSingle_102 : decode cX10_readsSingle 102 = .ok (.invokevirtual 177, 3) := by decide +kernel
theorem dX10_readsSingle_105 : decode cX10_readsSingle 105 = .ok (.iastore, 1) := by decide +kernel
theorem dX10_readsSingle_106 : decode cX10_readsSingle 106 = .ok (.aload_n 0, 1) := by decide +kernel
theorem dX10_readsSingle_107 : decode cX10_readsSingle 107 = .ok (.getfield 45, 3) := by decide +kernel
theorem dX10_readsSingle_110 : decode cX10_readsSingle 110 = .ok (.iload_n 1, 1) := by decide +kernel
theorem dX10_readsSingle_111 : decode cX10_readsSingle 111 = .ok (.aload_n 0, 1) := by decide +kernel
theorem dX10_readsSingle_112 : decode cX10_readsSingle 112 = .ok (.iconst 1, 1) := by decide +kernel
theorem dX10_readsSingle_113 : decode cX10_readsSingle 113 = .ok (.bipush 9, 2) := by decide +kernel
theorem dX10_readsSingle_115 : decode cX10_readsSingle 115 = .ok (.invokevirtual 177, 3) := by decide +kernel
theorem dX10_readsSingle_118 : decode cX10_readsSingle 118 = .ok (.iastore, 1) := by decide +kernel
theorem dX10_readsSingle_119 : decode cX10_readsSingle 119 = .ok (.goto 121, 3) := by decide +kernel
theorem dX10_readsSingle_122 : decode cX10_readsSingle 122 = .ok (.aload_n 0, 1) := by decide +kernel
theorem dX10_readsSingle_123 : decode cX10_readsSingle 123 = .ok (.getfield 42, 3) := by decide +kernel
theorem dX10_readsSingle_126 : decode cX10_readsSingle 126 = .ok (.iload_n 1, 1) := by decide +kernel
theorem dX10_readsSingle_127 : decode cX10_readsSingle 127 = .ok (.aload_n 0, 1) := by decide +kernel
theorem dX10_readsSingle_128 : decode cX10_readsSingle 128 = .ok (.iconst 0, 1) := by decide +kernel
theorem dX10_readsSingle_129 : decode cX10_readsSingle 129 = .ok (.bipush 11, 2) := by decide +kernel
theorem dX10_readsSingle_131 : decode cX10_readsSingle 131 = .ok (.invokevirtual 177, 3) := by decide +kernel
theorem dX10_readsSingle_134 : decode cX10_readsSingle 134 = .ok (.iastore, 1) := by decide +kernel
theorem dX10_readsSingle_135 : decode cX10_readsSingle 135 = .ok (.aload_n 0, 1) := by decide +kernel
theorem dX10_readsSingle_136 : decode cX10_readsSingle 136 = .ok (.getfield 45, 3) := by decide +kernel
theorem dX10_readsSingle_139 : decode cX10_readsSingle 139 = .ok (.iload_n 1, 1) := by decide +kernel
theorem dX10_readsSingle_140 : decode cX10_readsSingle 140 = .ok (.aload_n 0, 1) := by decide +kernel
theorem dX10_readsSingle_141 : decode cX10_readsSingle 141 = .ok (.invokevirtual 231, 3) := by decide +kernel
theorem dX10_readsSingle_144 : decode cX10_readsSingle 144 = .ok (.iastore, 1) := by decide +kernel
theorem dX10_readsSingle_145 : decode cX10_readsSingle 145 = .ok (.aload_n 0, 1) := by decide +kernel
theorem dX10_readsSingle_146 : decode cX10_readsSingle 146 = .ok (.getfield 45, 3) := by decide +kernel
theorem dX10_readsSingle_149 : decode cX10_readsSingle 149 = .ok (.iload_n 1, 1) := by decide +kernel
theorem dX10_readsSingle_150 : decode cX10_readsSingle 150 = .ok (.dup2, 1) := by decide +kernel
theorem dX10_readsSingle_151 : decode cX10_readsSingle 151 = .ok (.iaload, 1) := by decide +kernel
theorem dX10_readsSingle_152 : decode cX10_readsSingle 152 = .ok (.aload_n 0, 1) := by decide +kernel
theorem dX10_readsSingle_153 : decode cX10_readsSingle 153 = .ok (.iconst 1, 1) := by decide +kernel
theorem dX10_readsSingle_154 : decode cX10_readsSingle 154 = .ok (.iconst 3, 1) := by decide +kernel
theorem dX10_readsSingle_155 : decode cX10_readsSingle 155 = .ok (.invokevirtual 177, 3) := by decide +kernel
theorem dX10_readsSingle_158 : decode cX10_readsSingle 158 = .ok (.imul, 1) := by decide +kernel
theorem dX10_readsSingle_159 : decode cX10_readsSingle 159 = .ok (.iastore, 1) := by decide +kernel
theorem dX10_readsSingle_160 : decode cX10_readsSingle 160 = .ok (.goto 80, 3) := by decide +kernel
theorem dX10_readsSingle_163 : decode cX10_readsSingle 163 = .ok (.aload_n 0, 1) := by decide +kernel
theorem dX10_readsSingle_164 : decode cX10_readsSingle 164 = .ok (.getfield 42, 3) := by decide +kernel
theorem dX10_readsSingle_167 : decode cX10_readsSingle 167 = .ok (.iload_n 1, 1) := by decide +kernel
theorem dX10_readsSingle_168 : decode cX10_readsSingle 168 = .ok (.aload_n 0, 1) := by decide +kernel
theorem dX10_readsSingle_169 : decode cX10_readsSingle 169 = .ok (.iconst 0, 1) := by decide +kernel
theorem dX10_readsSingle_170 : decode cX10_readsSingle 170 = .ok (.bipush 11, 2) := by decide +kernel
theorem dX10_readsSingle_172 : decode cX10_readsSingle 172 = .ok (.invokevirtual 177, 3) := by decide +kernel
theorem dX10_readsSingle_175 : decode cX10_readsSingle 175 = .ok (.iastore, 1) := by decide +kernel
theorem dX10_readsSingle_176 : decode cX10_readsSingle 176 = .ok (.goto 64, 3) := by decide +kernel
theorem dX10_readsSingle_179 : decode cX10_readsSingle 179 = .ok (.aload_n 0, 1) := by decide +kernel
theorem dX10_readsSingle_180 : decode cX10_readsSingle 180 = .ok (.getfield 42, 3) := by decide +kernel
theorem dX10_readsSingle_183 : decode cX10_readsSingle 183 = .ok (.iload_n 1, 1) := by decide +kernel
theorem dX10_readsSingle_184 : decode cX10_readsSingle 184 = .ok (.aload_n 0, 1) := by decide +kernel
theorem dX10_readsSingle_185 : decode cX10_readsSingle 185 = .ok (.iconst 0, 1) := by decide +kernel
theorem dX10_readsSingle_186 : decode cX10_readsSingle 186 = .ok (.bipush 90, 2) := by decide +kernel
theorem dX10_readsSingle_188 : decode cX10_readsSingle 188 = .ok (.invokevirtual 177, 3) := by decide +kernel
theorem dX10_readsSingle_191 : decode cX10_readsSingle 191 = .ok (.iastore, 1) := by decide +kernel
theorem dX10_readsSingle_192 : decode cX10_readsSingle 192 = .ok (.goto 48, 3) := by decide +kernel
theorem dX10_readsSingle_195 : decode cX10_readsSingle 195 = .ok (.aload_n 0, 1) := by decide +kernel
theorem dX10_readsSingle_196 : decode cX10_readsSingle 196 = .ok (.getfield 42, 3) := by decide +kernel
theorem dX10_readsSingle_199 : decode cX10_readsSingle 199 = .ok (.iload_n 1, 1) := by decide +kernel
theorem dX10_readsSingle_200 : decode cX10_readsSingle 200 = .ok (.aload_n 0, 1) := by decide +kernel
theorem dX10_readsSingle_201 : decode cX10_readsSingle 201 = .ok (.iconst 1, 1) := by decide +kernel
theorem dX10_readsSingle_202 : decode cX10_readsSingle 202 = .ok (.bipush 20, 2) := by decide +kernel
theorem dX10_readsSingle_204 : decode cX10_readsSingle 204 = .ok (.invokevirtual 177, 3) := by decide +kernel
theorem dX10_readsSingle_207 : decode cX10_readsSingle 207 = .ok (.iastore, 1) := by decide +kernel
theorem dX10_readsSingle_208 : decode cX10_readsSingle 208 = .ok (.goto 32, 3) := by decide +kernel
theorem dX10_readsSingle_211 : decode cX10_readsSingle 211 = .ok (.aload_n 0, 1) := by decide +kernel
theorem dX10_readsSingle_212 : decode cX10_readsSingle 212 = .ok (.getfield 42, 3) := by decide +kernel
theorem dX10_readsSingle_215 : decode cX10_readsSingle 215 = .ok (.iload_n 1, 1) := by decide +kernel
theorem dX10_readsSingle_216 : decode cX10_readsSingle 216 = .ok (.aload_n 0, 1) := by decide +kernel
theorem dX10_readsSingle_217 : decode cX10_readsSingle 217 = .ok (.iconst 0, 1) := by decide +kernel
theorem dX10_readsSingle_218 : decode cX10_readsSingle 218 = .ok (.iconst 2, 1) := by decide +kernel
theorem dX10_readsSingle_219 : decode cX10_readsSingle 219 = .ok (.invokevirtual 177, 3) := by decide +kernel
theorem dX10_readsSingle_222 : decode cX10_readsSingle 222 = .ok (.iastore, 1) := by decide +kernel
theorem dX10_readsSingle_223 : decode cX10_readsSingle 223 = .ok (.goto 17, 3) := by decide +kernel
theorem dX10_readsSingle_226 : decode cX10_readsSingle 226 = .ok (.aload_n 0, 1) := by decide +kernel
theorem dX10_readsSingle_227 : decode cX10_readsSingle 227 = .ok (.getfield 42, 3) := by decide +kernel
theorem dX10_readsSingle_230 : decode cX10_readsSingle 230 = .ok (.iload_n 1, 1) := by decide +kernel
theorem dX10_readsSingle_231 : decode cX10_readsSingle 231 = .ok (.aload_n 0, 1) := by decide +kernel
theorem dX10_readsSingle_232 : decode cX10_readsSingle 232 = .ok (.iconst 1, 1) := by decide +kernel
theorem dX10_readsSingle_233 : decode cX10_readsSingle 233 = .ok (.sipush 300, 3) := by decide +kernel
theorem dX10_readsSingle_236 : decode cX10_readsSingle 236 = .ok (.invokevirtual 177, 3) := by decide +kernel
theorem dX10_readsSingle_239 : decode cX10_readsSingle 239 = .ok (.iastore, 1) := by decide +kernel
theorem dX10_readsSingle_240 : decode cX10_readsSingle 240 = .ok (.return_, 1) := by decide +kernel
def fX10_readsSingle (M : Mm) (x1 : Int32) : Option Mm := if x1 < 0 ∨ 30 ≤ x1.toNatClampNeg then none else if (M.1 (19, 7, 0) x1.toNatClampNeg) = (0 : Int32) then ((fX10_number M (0 : Int32) (2 : Int32)).bind fun q3 => if x1 < 0 ∨ 30 ≤ x1.toNatClampNeg then none else (fX10_number (putI q3.2 (19, 8, 0) x1.toNatClampNeg q3.1) (0 : Int32) (11 : Int32)).bind fun q6 => if x1 < 0 ∨ 30 ≤ x1.toNatClampNeg then none else (fX10_number (putI q6.2 (19, 9, 0) x1.toNatClampNeg q6.1) (0 : Int32) (63 : Int32)).bind fun q9 => if x1 < 0 ∨ 30 ≤ x1.toNatClampNeg then none else some (putI q9.2 (19, 10, 0) x1.toNatClampNeg q9.1)) else if (M.1 (19, 7, 0) x1.toNatClampNeg) = (1 : Int32) then ((fX10_number M (0 : Int32) (2 : Int32)).bind fun q13 => if x1 < 0 ∨ 30 ≤ x1.toNatClampNeg then none else (fX10_number (putI q13.2 (19, 8, 0) x1.toNatClampNeg q13.1) (0 : Int32) (11 : Int32)).bind fun q16 => if x1 < 0 ∨ 30 ≤ x1.toNatClampNeg then none else (fX10_number (putI q16.2 (19, 9, 0) x1.toNatClampNeg q16.1) (0 : Int32) (63 : Int32)).bind fun q19 => if x1 < 0 ∨ 30 ≤ x1.toNatClampNeg then none else some (putI q19.2 (19, 10, 0) x1.toNatClampNeg q19.1)) else if (M.1 (19, 7, 0) x1.toNatClampNeg) = (2 : Int32) then ((fX10_number M (0 : Int32) (11 : Int32)).bind fun q23 => if x1 < 0 ∨ 30 ≤ x1.toNatClampNeg then none else (fX10_number (putI q23.2 (19, 8, 0) x1.toNatClampNeg q23.1) (1 : Int32) (9 : Int32)).bind fun q26 => if x1 < 0 ∨ 30 ≤ x1.toNatClampNeg then none else some (putI q26.2 (19, 9, 0) x1.toNatClampNeg q26.1)) else if (M.1 (19, 7, 0) x1.toNatClampNeg) = (3 : Int32) then ((fX10_number M (0 : Int32) (11 : Int32)).bind fun q30 => if x1 < 0 ∨ 30 ≤ x1.toNatClampNeg then none else (fX10_takesDirection (putI q30.2 (19, 8, 0) x1.toNatClampNeg q30.1)).bind fun q33 => if x1 < 0 ∨ 30 ≤ x1.toNatClampNeg then none else if x1 < 0 ∨ 30 ≤ x1.toNatClampNeg then none else (fX10_number (putI q33.2 (19, 9, 0) x1.toNatClampNeg q33.1) (1 : Int32) (3 : Int32)).bind fun q37 => if x1 < 0 ∨ 30 ≤ x1.toNatClampNeg then none else some (putI q37.2 (19, 9, 0) x1.toNatClampNeg (q33.1 * q37.1))) else if (M.1 (19, 7, 0) x1.toNatClampNeg) = (4 : Int32) then ((fX10_number M (0 : Int32) (11 : Int32)).bind fun q41 => if x1 < 0 ∨ 30 ≤ x1.toNatClampNeg then none else some (putI q41.2 (19, 8, 0) x1.toNatClampNeg q41.1)) else if (M.1 (19, 7, 0) x1.toNatClampNeg) = (5 : Int32) then ((fX10_number M (0 : Int32) (90 : Int32)).bind fun q45 => if x1 < 0 ∨ 30 ≤ x1.toNatClampNeg then none else some (putI q45.2 (19, 8, 0) x1.toNatClampNeg q45.1)) else if (M.1 (19, 7, 0) x1.toNatClampNeg) = (6 : Int32) then ((fX10_number M (1 : Int32) (20 : Int32)).bind fun q49 => if x1 < 0 ∨ 30 ≤ x1.toNatClampNeg then none else some (putI q49.2 (19, 8, 0) x1.toNatClampNeg q49.1)) else if (M.1 (19, 7, 0) x1.toNatClampNeg) = (7 : Int32) then ((fX10_number M (0 : Int32) (2 : Int32)).bind fun q53 => if x1 < 0 ∨ 30 ≤ x1.toNatClampNeg then none else some (putI q53.2 (19, 8, 0) x1.toNatClampNeg q53.1)) else (fX10_number M (1 : Int32) (300 : Int32)).bind fun q56 => if x1 < 0 ∨ 30 ≤ x1.toNatClampNeg then none else some (putI q56.2 (19, 8, 0) x1.toNatClampNeg q56.1)
set_option maxRecDepth 20000 in
set_option maxHeartbeats 2000000 in
theorem sX10_readsSingle {wv : Nat} (M : Mm) (x1 : Int32) {res : Mm} (h : fX10_readsSingle M x1 = some res) : TF (wv + 1) yX10_readsSingle cX10_readsSingle 2 none 9 [.inr (18, 0, 0), .inl (.int x1)] M (none) res := by
  rw [fX10_readsSingle] at h
  refine TF.go (n := 0) (ls := [some (.inr (18, 0, 0)), some (.inl (.int x1))]) rfl rfl rfl rfl rfl ?_
  refine z_aload_n (i := 0) dX10_readsSingle_0 rfl rfl ?_
  refine z_getR (r' := (19, 7, 0)) dX10_readsSingle_1 fl_X10_39 mk18 rfl rfl ?_
  refine z_iload_n (i := 1) dX10_readsSingle_4 rfl rfl ?_
  obtain ⟨hc1, h⟩ := chk h
  refine z_iald (x := (M.1 (19, 7, 0) x1.toNatClampNeg)) dX10_readsSingle_5 (m19 _ (Nat.le_of_ble_eq_true rfl)) rfl hc1 rfl ?_
  by_cases hc2 : (M.1 (19, 7, 0) x1.toNatClampNeg) = (0 : Int32)
  · have h := it_t h hc2
    refine z_tin (tgt := 52) dX10_readsSingle_6 (by rw [hc2]; decide) (by rw [hc2]; decide) (off := 46) (by rw [hc2]; decide) rfl ?_
    refine z_aload_n (i := 0) dX10_readsSingle_52 rfl rfl ?_
    refine z_getR (r' := (19, 8, 0)) dX10_readsSingle_53 fl_X10_42 mk18 rfl rfl ?_
    refine z_iload_n (i := 1) dX10_readsSingle_56 rfl rfl ?_
    refine z_aload_n (i := 0) dX10_readsSingle_57 rfl rfl ?_
    refine z_iconst (v := (0 : Int32)) dX10_readsSingle_58 kc_0 ?_
    refine z_iconst (v := (2 : Int32)) dX10_readsSingle_59 kc_2 ?_
    obtain ⟨q3, hq4, h⟩ := bnd h
    refine z_fVi (sX10_number M (0 : Int32) (2 : Int32) hq4) dX10_readsSingle_60 ml_X10_177 cd_X10_number mk18 rfl rfl rfl rfl rfl rfl ?_
    obtain ⟨hc5, h⟩ := chk h
    refine z_iast (j := x1.toNatClampNeg) allR_nd dX10_readsSingle_63 (m19 _ (Nat.le_of_ble_eq_true rfl)) rfl hc5 rfl ?_
    refine z_aload_n (i := 0) dX10_readsSingle_64 rfl rfl ?_
    refine z_getR (r' := (19, 9, 0)) dX10_readsSingle_65 fl_X10_45 mk18 rfl rfl ?_
    refine z_iload_n (i := 1) dX10_readsSingle_68 rfl rfl ?_
    refine z_aload_n (i := 0) dX10_readsSingle_69 rfl rfl ?_
    refine z_iconst (v := (0 : Int32)) dX10_readsSingle_70 kc_0 ?_
    refine z_bipush (v := (11 : Int32)) dX10_readsSingle_71 kb_11 ?_
    obtain ⟨q6, hq7, h⟩ := bnd h
    refine z_fVi (sX10_number (putI q3.2 (19, 8, 0) x1.toNatClampNeg q3.1) (0 : Int32) (11 : Int32) hq7) dX10_readsSingle_73 ml_X10_177 cd_X10_number mk18 rfl rfl rfl rfl rfl rfl ?_
    obtain ⟨hc8, h⟩ := chk h
    refine z_iast (j := x1.toNatClampNeg) allR_nd dX10_readsSingle_76 (m19 _ (Nat.le_of_ble_eq_true rfl)) rfl hc8 rfl ?_
    refine z_aload_n (i := 0) dX10_readsSingle_77 rfl rfl ?_
    refine z_getR (r' := (19, 10, 0)) dX10_readsSingle_78 fl_X10_48 mk18 rfl rfl ?_
    refine z_iload_n (i := 1) dX10_readsSingle_81 rfl rfl ?_
    refine z_aload_n (i := 0) dX10_readsSingle_82 rfl rfl ?_
    refine z_iconst (v := (0 : Int32)) dX10_readsSingle_83 kc_0 ?_
    refine z_bipush (v := (63 : Int32)) dX10_readsSingle_84 kb_63 ?_
    obtain ⟨q9, hq10, h⟩ := bnd h
    refine z_fVi (sX10_number (putI q6.2 (19, 9, 0) x1.toNatClampNeg q6.1) (0 : Int32) (63 : Int32) hq10) dX10_readsSingle_86 ml_X10_177 cd_X10_number mk18 rfl rfl rfl rfl rfl rfl ?_
    obtain ⟨hc11, h⟩ := chk h
    refine z_iast (j := x1.toNatClampNeg) allR_nd dX10_readsSingle_89 (m19 _ (Nat.le_of_ble_eq_true rfl)) rfl hc11 rfl ?_
    refine z_goto (tgt := 240) dX10_readsSingle_90 rfl ?_
    cases h
    exact z_vret dX10_readsSingle_240 rfl (Nat.le_refl _) (Nat.le_refl _) ⟨rfl, rfl⟩
  have h := it_f h hc2
  by_cases hc12 : (M.1 (19, 7, 0) x1.toNatClampNeg) = (1 : Int32)
  · have h := it_t h hc12
    refine z_tin (tgt := 52) dX10_readsSingle_6 (by rw [hc12]; decide) (by rw [hc12]; decide) (off := 46) (by rw [hc12]; decide) rfl ?_
    refine z_aload_n (i := 0) dX10_readsSingle_52 rfl rfl ?_
    refine z_getR (r' := (19, 8, 0)) dX10_readsSingle_53 fl_X10_42 mk18 rfl rfl ?_
    refine z_iload_n (i := 1) dX10_readsSingle_56 rfl rfl ?_
    refine z_aload_n (i := 0) dX10_readsSingle_57 rfl rfl ?_
    refine z_iconst (v := (0 : Int32)) dX10_readsSingle_58 kc_0 ?_
    refine z_iconst (v := (2 : Int32)) dX10_readsSingle_59 kc_2 ?_
    obtain ⟨q13, hq14, h⟩ := bnd h
    refine z_fVi (sX10_number M (0 : Int32) (2 : Int32) hq14) dX10_readsSingle_60 ml_X10_177 cd_X10_number mk18 rfl rfl rfl rfl rfl rfl ?_
    obtain ⟨hc15, h⟩ := chk h
    refine z_iast (j := x1.toNatClampNeg) allR_nd dX10_readsSingle_63 (m19 _ (Nat.le_of_ble_eq_true rfl)) rfl hc15 rfl ?_
    refine z_aload_n (i := 0) dX10_readsSingle_64 rfl rfl ?_
    refine z_getR (r' := (19, 9, 0)) dX10_readsSingle_65 fl_X10_45 mk18 rfl rfl ?_
    refine z_iload_n (i := 1) dX10_readsSingle_68 rfl rfl ?_
    refine z_aload_n (i := 0) dX10_readsSingle_69 rfl rfl ?_
    refine z_iconst (v := (0 : Int32)) dX10_readsSingle_70 kc_0 ?_
    refine z_bipush (v := (11 : Int32)) dX10_readsSingle_71 kb_11 ?_
    obtain ⟨q16, hq17, h⟩ := bnd h
    refine z_fVi (sX10_number (putI q13.2 (19, 8, 0) x1.toNatClampNeg q13.1) (0 : Int32) (11 : Int32) hq17) dX10_readsSingle_73 ml_X10_177 cd_X10_number mk18 rfl rfl rfl rfl rfl rfl ?_
    obtain ⟨hc18, h⟩ := chk h
    refine z_iast (j := x1.toNatClampNeg) allR_nd dX10_readsSingle_76 (m19 _ (Nat.le_of_ble_eq_true rfl)) rfl hc18 rfl ?_
    refine z_aload_n (i := 0) dX10_readsSingle_77 rfl rfl ?_
    refine z_getR (r' := (19, 10, 0)) dX10_readsSingle_78 fl_X10_48 mk18 rfl rfl ?_
    refine z_iload_n (i := 1) dX10_readsSingle_81 rfl rfl ?_
    refine z_aload_n (i := 0) dX10_readsSingle_82 rfl rfl ?_
    refine z_iconst (v := (0 : Int32)) dX10_readsSingle_83 kc_0 ?_
    refine z_bipush (v := (63 : Int32)) dX10_readsSingle_84 kb_63 ?_
    obtain ⟨q19, hq20, h⟩ := bnd h
    refine z_fVi (sX10_number (putI q16.2 (19, 9, 0) x1.toNatClampNeg q16.1) (0 : Int32) (63 : Int32) hq20) dX10_readsSingle_86 ml_X10_177 cd_X10_number mk18 rfl rfl rfl rfl rfl rfl ?_
    obtain ⟨hc21, h⟩ := chk h
    refine z_iast (j := x1.toNatClampNeg) allR_nd dX10_readsSingle_89 (m19 _ (Nat.le_of_ble_eq_true rfl)) rfl hc21 rfl ?_
    refine z_goto (tgt := 240) dX10_readsSingle_90 rfl ?_
    cases h
    exact z_vret dX10_readsSingle_240 rfl (Nat.le_refl _) (Nat.le_refl _) ⟨rfl, rfl⟩
  have h := it_f h hc12
  by_cases hc22 : (M.1 (19, 7, 0) x1.toNatClampNeg) = (2 : Int32)
  · have h := it_t h hc22
    refine z_tin (tgt := 93) dX10_readsSingle_6 (by rw [hc22]; decide) (by rw [hc22]; decide) (off := 87) (by rw [hc22]; decide) rfl ?_
    refine z_aload_n (i := 0) dX10_readsSingle_93 rfl rfl ?_
    refine z_getR (r' := (19, 8, 0)) dX10_readsSingle_94 fl_X10_42 mk18 rfl rfl ?_
    refine z_iload_n (i := 1) dX10_readsSingle_97 rfl rfl ?_
    refine z_aload_n (i := 0) dX10_readsSingle_98 rfl rfl ?_
    refine z_iconst (v := (0 : Int32)) dX10_readsSingle_99 kc_0 ?_
    refine z_bipush (v := (11 : Int32)) dX10_readsSingle_100 kb_11 ?_
    obtain ⟨q23, hq24, h⟩ := bnd h
    refine z_fVi (sX10_number M (0 : Int32) (11 : Int32) hq24) dX10_readsSingle_102 ml_X10_177 cd_X10_number mk18 rfl rfl rfl rfl rfl rfl ?_
    obtain ⟨hc25, h⟩ := chk h
    refine z_iast (j := x1.toNatClampNeg) allR_nd dX10_readsSingle_105 (m19 _ (Nat.le_of_ble_eq_true rfl)) rfl hc25 rfl ?_
    refine z_aload_n (i := 0) dX10_readsSingle_106 rfl rfl ?_
    refine z_getR (r' := (19, 9, 0)) dX10_readsSingle_107 fl_X10_45 mk18 rfl rfl ?_
    refine z_iload_n (i := 1) dX10_readsSingle_110 rfl rfl ?_
    refine z_aload_n (i := 0) dX10_readsSingle_111 rfl rfl ?_
    refine z_iconst (v := (1 : Int32)) dX10_readsSingle_112 kc_1 ?_
    refine z_bipush (v := (9 : Int32)) dX10_readsSingle_113 kb_9 ?_
    obtain ⟨q26, hq27, h⟩ := bnd h
    refine z_fVi (sX10_number (putI q23.2 (19, 8, 0) x1.toNatClampNeg q23.1) (1 : Int32) (9 : Int32) hq27) dX10_readsSingle_115 ml_X10_177 cd_X10_number mk18 rfl rfl rfl rfl rfl rfl ?_
    obtain ⟨hc28, h⟩ := chk h
    refine z_iast (j := x1.toNatClampNeg) allR_nd dX10_readsSingle_118 (m19 _ (Nat.le_of_ble_eq_true rfl)) rfl hc28 rfl ?_
    refine z_goto (tgt := 240) dX10_readsSingle_119 rfl ?_
    cases h
    exact z_vret dX10_readsSingle_240 rfl (Nat.le_refl _) (Nat.le_refl _) ⟨rfl, rfl⟩
  have h := it_f h hc22
  by_cases hc29 : (M.1 (19, 7, 0) x1.toNatClampNeg) = (3 : Int32)
  · have h := it_t h hc29
    refine z_tin (tgt := 122) dX10_readsSingle_6 (by rw [hc29]; decide) (by rw [hc29]; decide) (off := 116) (by rw [hc29]; decide) rfl ?_
    refine z_aload_n (i := 0) dX10_readsSingle_122 rfl rfl ?_
    refine z_getR (r' := (19, 8, 0)) dX10_readsSingle_123 fl_X10_42 mk18 rfl rfl ?_
    refine z_iload_n (i := 1) dX10_readsSingle_126 rfl rfl ?_
    refine z_aload_n (i := 0) dX10_readsSingle_127 rfl rfl ?_
    refine z_iconst (v := (0 : Int32)) dX10_readsSingle_128 kc_0 ?_
    refine z_bipush (v := (11 : Int32)) dX10_readsSingle_129 kb_11 ?_
    obtain ⟨q30, hq31, h⟩ := bnd h
    refine z_fVi (sX10_number M (0 : Int32) (11 : Int32) hq31) dX10_readsSingle_131 ml_X10_177 cd_X10_number mk18 rfl rfl rfl rfl rfl rfl ?_
    obtain ⟨hc32, h⟩ := chk h
    refine z_iast (j := x1.toNatClampNeg) allR_nd dX10_readsSingle_134 (m19 _ (Nat.le_of_ble_eq_true rfl)) rfl hc32 rfl ?_
    refine z_aload_n (i := 0) dX10_readsSingle_135 rfl rfl ?_
    refine z_getR (r' := (19, 9, 0)) dX10_readsSingle_136 fl_X10_45 mk18 rfl rfl ?_
    refine z_iload_n (i := 1) dX10_readsSingle_139 rfl rfl ?_
    refine z_aload_n (i := 0) dX10_readsSingle_140 rfl rfl ?_
    obtain ⟨q33, hq34, h⟩ := bnd h
    refine z_fVi (sX10_takesDirection (putI q30.2 (19, 8, 0) x1.toNatClampNeg q30.1) hq34) dX10_readsSingle_141 ml_X10_231 cd_X10_takesDirection mk18 rfl rfl rfl rfl rfl rfl ?_
    obtain ⟨hc35, h⟩ := chk h
    refine z_iast (j := x1.toNatClampNeg) allR_nd dX10_readsSingle_144 (m19 _ (Nat.le_of_ble_eq_true rfl)) rfl hc35 rfl ?_
    refine z_aload_n (i := 0) dX10_readsSingle_145 rfl rfl ?_
    refine z_getR (r' := (19, 9, 0)) dX10_readsSingle_146 fl_X10_45 mk18 rfl rfl ?_
    refine z_iload_n (i := 1) dX10_readsSingle_149 rfl rfl ?_
    refine z_dup2 dX10_readsSingle_150 rfl rfl ?_
    obtain ⟨hc36, h⟩ := chk h
    refine z_iald (x := q33.1) dX10_readsSingle_151 (m19 _ (Nat.le_of_ble_eq_true rfl)) rfl hc36 (gp1 (M := q33.2) (r := (19, 9, 0)) (j := x1.toNatClampNeg) (v := q33.1)) ?_
    refine z_aload_n (i := 0) dX10_readsSingle_152 rfl rfl ?_
    refine z_iconst (v := (1 : Int32)) dX10_readsSingle_153 kc_1 ?_
    refine z_iconst (v := (3 : Int32)) dX10_readsSingle_154 kc_3 ?_
    obtain ⟨q37, hq38, h⟩ := bnd h
    refine z_fVi (sX10_number (putI q33.2 (19, 9, 0) x1.toNatClampNeg q33.1) (1 : Int32) (3 : Int32) hq38) dX10_readsSingle_155 ml_X10_177 cd_X10_number mk18 rfl rfl rfl rfl rfl rfl ?_
    refine z_imul dX10_readsSingle_158 ?_
    obtain ⟨hc39, h⟩ := chk h
    refine z_iast (j := x1.toNatClampNeg) allR_nd dX10_readsSingle_159 (m19 _ (Nat.le_of_ble_eq_true rfl)) rfl hc39 rfl ?_
    refine z_goto (tgt := 240) dX10_readsSingle_160 rfl ?_
    cases h
    exact z_vret dX10_readsSingle_240 rfl (Nat.le_refl _) (Nat.le_refl _) ⟨rfl, rfl⟩
  have h := it_f h hc29
  by_cases hc40 : (M.1 (19, 7, 0) x1.toNatClampNeg) = (4 : Int32)
  · have h := it_t h hc40
    refine z_tin (tgt := 163) dX10_readsSingle_6 (by rw [hc40]; decide) (by rw [hc40]; decide) (off := 157) (by rw [hc40]; decide) rfl ?_
    refine z_aload_n (i := 0) dX10_readsSingle_163 rfl rfl ?_
    refine z_getR (r' := (19, 8, 0)) dX10_readsSingle_164 fl_X10_42 mk18 rfl rfl ?_
    refine z_iload_n (i := 1) dX10_readsSingle_167 rfl rfl ?_
    refine z_aload_n (i := 0) dX10_readsSingle_168 rfl rfl ?_
    refine z_iconst (v := (0 : Int32)) dX10_readsSingle_169 kc_0 ?_
    refine z_bipush (v := (11 : Int32)) dX10_readsSingle_170 kb_11 ?_
    obtain ⟨q41, hq42, h⟩ := bnd h
    refine z_fVi (sX10_number M (0 : Int32) (11 : Int32) hq42) dX10_readsSingle_172 ml_X10_177 cd_X10_number mk18 rfl rfl rfl rfl rfl rfl ?_
    obtain ⟨hc43, h⟩ := chk h
    refine z_iast (j := x1.toNatClampNeg) allR_nd dX10_readsSingle_175 (m19 _ (Nat.le_of_ble_eq_true rfl)) rfl hc43 rfl ?_
    refine z_goto (tgt := 240) dX10_readsSingle_176 rfl ?_
    cases h
    exact z_vret dX10_readsSingle_240 rfl (Nat.le_refl _) (Nat.le_refl _) ⟨rfl, rfl⟩
  have h := it_f h hc40
  by_cases hc44 : (M.1 (19, 7, 0) x1.toNatClampNeg) = (5 : Int32)
  · have h := it_t h hc44
    refine z_tin (tgt := 179) dX10_readsSingle_6 (by rw [hc44]; decide) (by rw [hc44]; decide) (off := 173) (by rw [hc44]; decide) rfl ?_
    refine z_aload_n (i := 0) dX10_readsSingle_179 rfl rfl ?_
    refine z_getR (r' := (19, 8, 0)) dX10_readsSingle_180 fl_X10_42 mk18 rfl rfl ?_
    refine z_iload_n (i := 1) dX10_readsSingle_183 rfl rfl ?_
    refine z_aload_n (i := 0) dX10_readsSingle_184 rfl rfl ?_
    refine z_iconst (v := (0 : Int32)) dX10_readsSingle_185 kc_0 ?_
    refine z_bipush (v := (90 : Int32)) dX10_readsSingle_186 kb_90 ?_
    obtain ⟨q45, hq46, h⟩ := bnd h
    refine z_fVi (sX10_number M (0 : Int32) (90 : Int32) hq46) dX10_readsSingle_188 ml_X10_177 cd_X10_number mk18 rfl rfl rfl rfl rfl rfl ?_
    obtain ⟨hc47, h⟩ := chk h
    refine z_iast (j := x1.toNatClampNeg) allR_nd dX10_readsSingle_191 (m19 _ (Nat.le_of_ble_eq_true rfl)) rfl hc47 rfl ?_
    refine z_goto (tgt := 240) dX10_readsSingle_192 rfl ?_
    cases h
    exact z_vret dX10_readsSingle_240 rfl (Nat.le_refl _) (Nat.le_refl _) ⟨rfl, rfl⟩
  have h := it_f h hc44
  by_cases hc48 : (M.1 (19, 7, 0) x1.toNatClampNeg) = (6 : Int32)
  · have h := it_t h hc48
    refine z_tin (tgt := 195) dX10_readsSingle_6 (by rw [hc48]; decide) (by rw [hc48]; decide) (off := 189) (by rw [hc48]; decide) rfl ?_
    refine z_aload_n (i := 0) dX10_readsSingle_195 rfl rfl ?_
    refine z_getR (r' := (19, 8, 0)) dX10_readsSingle_196 fl_X10_42 mk18 rfl rfl ?_
    refine z_iload_n (i := 1) dX10_readsSingle_199 rfl rfl ?_
    refine z_aload_n (i := 0) dX10_readsSingle_200 rfl rfl ?_
    refine z_iconst (v := (1 : Int32)) dX10_readsSingle_201 kc_1 ?_
    refine z_bipush (v := (20 : Int32)) dX10_readsSingle_202 kb_20 ?_
    obtain ⟨q49, hq50, h⟩ := bnd h
    refine z_fVi (sX10_number M (1 : Int32) (20 : Int32) hq50) dX10_readsSingle_204 ml_X10_177 cd_X10_number mk18 rfl rfl rfl rfl rfl rfl ?_
    obtain ⟨hc51, h⟩ := chk h
    refine z_iast (j := x1.toNatClampNeg) allR_nd dX10_readsSingle_207 (m19 _ (Nat.le_of_ble_eq_true rfl)) rfl hc51 rfl ?_
    refine z_goto (tgt := 240) dX10_readsSingle_208 rfl ?_
    cases h
    exact z_vret dX10_readsSingle_240 rfl (Nat.le_refl _) (Nat.le_refl _) ⟨rfl, rfl⟩
  have h := it_f h hc48
  by_cases hc52 : (M.1 (19, 7, 0) x1.toNatClampNeg) = (7 : Int32)
  · have h := it_t h hc52
    refine z_tin (tgt := 211) dX10_readsSingle_6 (by rw [hc52]; decide) (by rw [hc52]; decide) (off := 205) (by rw [hc52]; decide) rfl ?_
    refine z_aload_n (i := 0) dX10_readsSingle_211 rfl rfl ?_
    refine z_getR (r' := (19, 8, 0)) dX10_readsSingle_212 fl_X10_42 mk18 rfl rfl ?_
    refine z_iload_n (i := 1) dX10_readsSingle_215 rfl rfl ?_
    refine z_aload_n (i := 0) dX10_readsSingle_216 rfl rfl ?_
    refine z_iconst (v := (0 : Int32)) dX10_readsSingle_217 kc_0 ?_
    refine z_iconst (v := (2 : Int32)) dX10_readsSingle_218 kc_2 ?_
    obtain ⟨q53, hq54, h⟩ := bnd h
    refine z_fVi (sX10_number M (0 : Int32) (2 : Int32) hq54) dX10_readsSingle_219 ml_X10_177 cd_X10_number mk18 rfl rfl rfl rfl rfl rfl ?_
    obtain ⟨hc55, h⟩ := chk h
    refine z_iast (j := x1.toNatClampNeg) allR_nd dX10_readsSingle_222 (m19 _ (Nat.le_of_ble_eq_true rfl)) rfl hc55 rfl ?_
    refine z_goto (tgt := 240) dX10_readsSingle_223 rfl ?_
    cases h
    exact z_vret dX10_readsSingle_240 rfl (Nat.le_refl _) (Nat.le_refl _) ⟨rfl, rfl⟩
  have h := it_f h hc52
  refine z_tout (tgt := 226) dX10_readsSingle_6 (tswo (fun k h1 h2 h3 => ?_)) rfl ?_
  · have h4 : k = 0 ∨ k = 1 ∨ k = 2 ∨ k = 3 ∨ k = 4 ∨ k = 5 ∨ k = 6 ∨ k = 7 := by omega
    rcases h4 with rfl | rfl | rfl | rfl | rfl | rfl | rfl | rfl
    · exact hc2 (Int32.toInt_inj.mp (h3.trans (by decide)))
    · exact hc12 (Int32.toInt_inj.mp (h3.trans (by decide)))
    · exact hc22 (Int32.toInt_inj.mp (h3.trans (by decide)))
    · exact hc29 (Int32.toInt_inj.mp (h3.trans (by decide)))
    · exact hc40 (Int32.toInt_inj.mp (h3.trans (by decide)))
    · exact hc44 (Int32.toInt_inj.mp (h3.trans (by decide)))
    · exact hc48 (Int32.toInt_inj.mp (h3.trans (by decide)))
    · exact hc52 (Int32.toInt_inj.mp (h3.trans (by decide)))
  · refine z_aload_n (i := 0) dX10_readsSingle_226 rfl rfl ?_
    refine z_getR (r' := (19, 8, 0)) dX10_readsSingle_227 fl_X10_42 mk18 rfl rfl ?_
    refine z_iload_n (i := 1) dX10_readsSingle_230 rfl rfl ?_
    refine z_aload_n (i := 0) dX10_readsSingle_231 rfl rfl ?_
    refine z_iconst (v := (1 : Int32)) dX10_readsSingle_232 kc_1 ?_
    refine z_sipush (v := (300 : Int32)) dX10_readsSingle_233 ks_300 ?_
    obtain ⟨q56, hq57, h⟩ := bnd h
    refine z_fVi (sX10_number M (1 : Int32) (300 : Int32) hq57) dX10_readsSingle_236 ml_X10_177 cd_X10_number mk18 rfl rfl rfl rfl rfl rfl ?_
    obtain ⟨hc58, h⟩ := chk h
    refine z_iast (j := x1.toNatClampNeg) allR_nd dX10_readsSingle_239 (m19 _ (Nat.le_of_ble_eq_true rfl)) rfl hc58 rfl ?_
    cases h
    exact z_vret dX10_readsSingle_240 rfl (Nat.le_refl _) (Nat.le_refl _) ⟨rfl, rfl⟩
