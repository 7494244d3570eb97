theorem dX7_takeSign_0 : decode cX7_takeSign 0 = .ok (.aload_n 0, 1) := by decide +kernel
theorem dX7_takeSign_1 : decode cX7_takeSign 1 = .ok (.iload_n 1, 1) := by decide +kernel
theorem dX7_takeSign_2 : decode cX7_takeSign 2 = .ok (.invokevirtual 88, 3) := by decide +kernel
theorem dX7_takeSign_5 : decode cX7_takeSign 5 = .ok (.ifCond .ne 9, 3) := by decide +kernel
theorem dX7_takeSign_8 : decode cX7_takeSign 8 = .ok (.aload_n 0, 1) := by decide +kernel
theorem dX7_takeSign_9 : decode cX7_takeSign 9 = .ok (.iconst 1, 1) := by decide +kernel
theorem dX7_takeSign_10 : decode cX7_takeSign 10 = .ok (.invokevirtual 81, 3) := by decide +kernel
theorem dX7_takeSign_13 : decode cX7_takeSign 13 = .ok (.ireturn, 1) := by decide +kernel
theorem dX7_takeSign_14 : decode cX7_takeSign 14 = .ok (.aload_n 0, 1) := by decide +kernel
theorem dX7_takeSign_15 : decode cX7_takeSign 15 = .ok (.invokevirtual 85, 3) := by decide +kernel
theorem dX7_takeSign_18 : decode cX7_takeSign 18 = .ok (.iconst 1, 1) := by decide +kernel
theorem dX7_takeSign_19 : decode cX7_takeSign 19 = .ok (.ireturn, 1) := by decide +kernel
def fX7_takeSign (M : Mm) (x1 : Int32) : Option (Int32 × Mm) := (fX7_atSign M x1).bind fun q1 => if q1 = 0 then ((fX7_fail M (1 : Int32)).bind fun q4 => some ((bz q4.1), q4.2)) else some ((1 : Int32), (fX7_advance M))
set_option maxRecDepth 20000 in
set_option maxHeartbeats 2000000 in
theorem sX7_takeSign {wv : Nat} (M : Mm) (x1 : Int32) {res : (Int32 × Mm)} (h : fX7_takeSign M x1 = some res) : TF wv yX7_takeSign cX7_takeSign 2 (some .boolean) 2 [.inr (3, 0, 0), .inl (.int x1)] M (some (.int res.1)) res.2 := by
  rw [fX7_takeSign] at h
  refine TF.go (n := 0) (ls := [some (.inr (3, 0, 0)), some (.inl (.int x1))]) rfl rfl rfl rfl rfl ?_
  refine z_aload_n (i := 0) dX7_takeSign_0 rfl rfl ?_
  refine z_iload_n (i := 1) dX7_takeSign_1 rfl rfl ?_
  obtain ⟨q1, hq2, h⟩ := bnd h
  refine z_fVi (sX7_atSign M x1 hq2) dX7_takeSign_2 ml_X7_88 cd_X7_atSign mk3 rfl rfl rfl rfl rfl rfl ?_
  refine z_if_ne (tgt := 14) dX7_takeSign_5 rfl (fun hc3 => ?_) (fun hc3 => ?_)
  · have h := it_f h hc3
    refine z_aload_n (i := 0) dX7_takeSign_14 rfl rfl ?_
    refine z_fVv (sX7_advance M) dX7_takeSign_15 ml_X7_85 cd_X7_advance mk3 rfl rfl rfl rfl rfl rfl ?_
    refine z_iconst (v := (1 : Int32)) dX7_takeSign_18 kc_1 ?_
    cases h
    exact z_iret dX7_takeSign_19 rfl rfl (Nat.le_refl _) (Nat.le_refl _) ⟨rfl, rfl⟩
  · have h := it_t h hc3
    refine z_aload_n (i := 0) dX7_takeSign_8 rfl rfl ?_
    refine z_iconst (v := (1 : Int32)) dX7_takeSign_9 kc_1 ?_
    obtain ⟨q4, hq5, h⟩ := bnd h
    refine z_fVi (sX7_fail M (1 : Int32) hq5) dX7_takeSign_10 ml_X7_81 cd_X7_fail mk3 rfl rfl rfl rfl rfl rfl ?_
    cases h
    exact z_iret dX7_takeSign_13 rfl (bz_ok _) (Nat.le_refl _) (Nat.le_refl _) ⟨rfl, rfl⟩
theorem dX5_readRepeat_0 : decode cX5_readRepeat 0 = .ok (.aload_n 0, 1) := by decide +kernel
theorem dX5_readRepeat_1 : decode cX5_readRepeat 1 = .ok (.iload_n 1, 1) := by decide +kernel
theorem dX5_readRepeat_2 : decode cX5_readRepeat 2 = .ok (.iconst 0, 1) := by decide +kernel
theorem dX5_readRepeat_3 : decode cX5_readRepeat 3 = .ok (.iconst 0, 1) := by decide +kernel
theorem dX5_readRepeat_4 : decode cX5_readRepeat 4 = .ok (.bipush 20, 2) := by decide +kernel
theorem dX5_readRepeat_6 : decode cX5_readRepeat 6 = .ok (.invokevirtual 69, 3) := by decide +kernel
theorem dX5_readRepeat_9 : decode cX5_readRepeat 9 = .ok (.ifCond .ne 5, 3) := by decide +kernel
theorem dX5_readRepeat_12 : decode cX5_readRepeat 12 = .ok (.iconst 0, 1) := by decide +kernel
theorem dX5_readRepeat_13 : decode cX5_readRepeat 13 = .ok (.ireturn, 1) := by decide +kernel
theorem dX5_readRepeat_14 : decode cX5_readRepeat 14 = .ok (.aload_n 0, 1) := by decide +kernel
theorem dX5_readRepeat_15 : decode cX5_readRepeat 15 = .ok (.getfield 9, 3) := by decide +kernel
theorem dX5_readRepeat_18 : decode cX5_readRepeat 18 = .ok (.bipush 40, 2) := by decide +kernel
theorem dX5_readRepeat_20 : decode cX5_readRepeat 20 = .ok (.invokevirtual 73, 3) := by decide +kernel
theorem dX5_readRepeat_23 : decode cX5_readRepeat 23 = .ok (.ifCond .eq 17, 3) := by decide +kernel
theorem dX5_readRepeat_26 : decode cX5_readRepeat 26 = .ok (.iload_n 2, 1) := by decide +kernel
theorem dX5_readRepeat_27 : decode cX5_readRepeat 27 = .ok (.iconst 2, 1) := by decide +kernel
theorem dX5_readRepeat_28 : decode cX5_readRepeat 28 = .ok (.if_icmp .lt 12, 3) := by decide +kernel
theorem dX5_readRepeat_31 : decode cX5_readRepeat 31 = .ok (.aload_n 0, 1) := by decide +kernel
theorem dX5_readRepeat_32 : decode cX5_readRepeat 32 = .ok (.getfield 9, 3) := by decide +kernel
theorem dX5_readRepeat_35 : decode cX5_readRepeat 35 = .ok (.iconst 4, 1) := by decide +kernel
theorem dX5_readRepeat_36 : decode cX5_readRepeat 36 = .ok (.invokevirtual 44, 3) := by decide +kernel
theorem dX5_readRepeat_39 : decode cX5_readRepeat 39 = .ok (.ireturn, 1) := by decide +kernel
theorem dX5_readRepeat_40 : decode cX5_readRepeat 40 = .ok (.aload_n 0, 1) := by decide +kernel
theorem dX5_readRepeat_41 : decode cX5_readRepeat 41 = .ok (.getfield 9, 3) := by decide +kernel
theorem dX5_readRepeat_44 : decode cX5_readRepeat 44 = .ok (.bipush 40, 2) := by decide +kernel
theorem dX5_readRepeat_46 : decode cX5_readRepeat 46 = .ok (.invokevirtual 65, 3) := by decide +kernel
theorem dX5_readRepeat_49 : decode cX5_readRepeat 49 = .ok (.ifCond .eq 13, 3) := by decide +kernel
theorem dX5_readRepeat_52 : decode cX5_readRepeat 52 = .ok (.aload_n 0, 1) := by decide +kernel
theorem dX5_readRepeat_53 : decode cX5_readRepeat 53 = .ok (.iload_n 2, 1) := by decide +kernel
theorem dX5_readRepeat_54 : decode cX5_readRepeat 54 = .ok (.iconst 1, 1) := by decide +kernel
theorem dX5_readRepeat_55 : decode cX5_readRepeat 55 = .ok (.iadd, 1) := by decide +kernel
theorem dX5_readRepeat_56 : decode cX5_readRepeat 56 = .ok (.invokevirtual 29, 3) := by decide +kernel
theorem dX5_readRepeat_59 : decode cX5_readRepeat 59 = .ok (.ifCond .ne 5, 3) := by decide +kernel
theorem dX5_readRepeat_62 : decode cX5_readRepeat 62 = .ok (.iconst 0, 1) := by decide +kernel
theorem dX5_readRepeat_63 : decode cX5_readRepeat 63 = .ok (.ireturn, 1) := by decide +kernel
theorem dX5_readRepeat_64 : decode cX5_readRepeat 64 = .ok (.aload_n 0, 1) := by decide +kernel
theorem dX5_readRepeat_65 : decode cX5_readRepeat 65 = .ok (.getfield 15, 3) := by decide +kernel
theorem dX5_readRepeat_68 : decode cX5_readRepeat 68 = .ok (.iload_n 1, 1) := by decide +kernel
theorem dX5_readRepeat_69 : decode cX5_readRepeat 69 = .ok (.invokevirtual 76, 3) := by decide +kernel
theorem dX5_readRepeat_72 : decode cX5_readRepeat 72 = .ok (.aload_n 0, 1) := by decide +kernel
theorem dX5_readRepeat_73 : decode cX5_readRepeat 73 = .ok (.getfield 9, 3) := by decide +kernel
theorem dX5_readRepeat_76 : decode cX5_readRepeat 76 = .ok (.bipush 41, 2) := by decide +kernel
theorem dX5_readRepeat_78 : decode cX5_readRepeat 78 = .ok (.invokevirtual 65, 3) := by decide +kernel
theorem dX5_readRepeat_81 : decode cX5_readRepeat 81 = .ok (.ireturn, 1) := by decide +kernel
def fX5_readRepeat (rc : Mm → Int32 → Option (Int32 × Mm)) (M : Mm) (x1 : Int32) (x2 : Int32) : Option (Int32 × Mm) := (fX5_readArgument M x1 (0 : Int32) (0 : Int32) (20 : Int32)).bind fun q1 => if q1.1 = 0 then some ((0 : Int32), q1.2) else (fX7_atSign q1.2 (40 : Int32)).bind fun q4 => if q4 = 0 then ((fX7_takeSign q1.2 (40 : Int32)).bind fun q7 => if q7.1 = 0 then some ((0 : Int32), q7.2) else (rc q7.2 (x2 + (1 : Int32))).bind fun q10 => if q10.1 = 0 then some ((0 : Int32), q10.2) else (fX4_closeRepeat q10.2 x1).bind fun q13 => (fX7_takeSign q13 (41 : Int32)).bind fun q15 => some ((bz q15.1), q15.2)) else if x2 < (2 : Int32) then ((fX7_takeSign q1.2 (40 : Int32)).bind fun q18 => if q18.1 = 0 then some ((0 : Int32), q18.2) else (rc q18.2 (x2 + (1 : Int32))).bind fun q21 => if q21.1 = 0 then some ((0 : Int32), q21.2) else (fX4_closeRepeat q21.2 x1).bind fun q24 => (fX7_takeSign q24 (41 : Int32)).bind fun q26 => some ((bz q26.1), q26.2)) else (fX7_fail q1.2 (4 : Int32)).bind fun q28 => some ((bz q28.1), q28.2)
set_option maxRecDepth 20000 in
set_option maxHeartbeats 2000000 in
theorem sX5_readRepeat {wv : Nat} (rc : Mm → Int32 → Option (Int32 × Mm)) (dd : Nat) (hrc : ∀ (M : Mm) (x1 : Int32) (res : (Int32 × Mm)), rc M x1 = some res → TF wv yX5_readCommands cX5_readCommands 6 (some .boolean) dd [.inr (6, 0, 0), .inl (.int x1)] M (some (.int res.1)) res.2) (M : Mm) (x1 : Int32) (x2 : Int32) {res : (Int32 × Mm)} (h : fX5_readRepeat rc M x1 x2 = some res) : TF wv yX5_readRepeat cX5_readRepeat 3 (some .boolean) (dd + 3) [.inr (6, 0, 0), .inl (.int x1), .inl (.int x2)] M (some (.int res.1)) res.2 := by
  rw [fX5_readRepeat] at h
  refine TF.go (n := 0) (ls := [some (.inr (6, 0, 0)), some (.inl (.int x1)), some (.inl (.int x2))]) rfl rfl rfl rfl rfl ?_
  refine z_aload_n (i := 0) dX5_readRepeat_0 rfl rfl ?_
  refine z_iload_n (i := 1) dX5_readRepeat_1 rfl rfl ?_
  refine z_iconst (v := (0 : Int32)) dX5_readRepeat_2 kc_0 ?_
  refine z_iconst (v := (0 : Int32)) dX5_readRepeat_3 kc_0 ?_
  refine z_bipush (v := (20 : Int32)) dX5_readRepeat_4 kb_20 ?_
  obtain ⟨q1, hq2, h⟩ := bnd h
  refine z_fVi (sX5_readArgument M x1 (0 : Int32) (0 : Int32) (20 : Int32) hq2) dX5_readRepeat_6 ml_X5_69 cd_X5_readArgument mk6 rfl rfl rfl (rmk_d (by omega) (by decide)) rfl rfl ?_
  refine z_if_ne (tgt := 14) dX5_readRepeat_9 rfl (fun hc3 => ?_) (fun hc3 => ?_)
  · have h := it_f h hc3
    refine z_aload_n (i := 0) dX5_readRepeat_14 rfl rfl ?_
    refine z_getR (r' := (3, 0, 0)) dX5_readRepeat_15 fl_X5_9 mk6 rfl rfl ?_
    refine z_bipush (v := (40 : Int32)) dX5_readRepeat_18 kb_40 ?_
    obtain ⟨q4, hq5, h⟩ := bnd h
    refine z_fVi (sX7_atSign q1.2 (40 : Int32) hq5) dX5_readRepeat_20 ml_X5_73 cd_X7_atSign mk3 rfl rfl rfl (rmk_d (by omega) (by decide)) rfl rfl ?_
    refine z_if_eq (tgt := 40) dX5_readRepeat_23 rfl (fun hc6 => ?_) (fun hc6 => ?_)
    · have h := it_t h hc6
      refine z_aload_n (i := 0) dX5_readRepeat_40 rfl rfl ?_
      refine z_getR (r' := (3, 0, 0)) dX5_readRepeat_41 fl_X5_9 mk6 rfl rfl ?_
      refine z_bipush (v := (40 : Int32)) dX5_readRepeat_44 kb_40 ?_
      obtain ⟨q7, hq8, h⟩ := bnd h
      refine z_fVi (sX7_takeSign q1.2 (40 : Int32) hq8) dX5_readRepeat_46 ml_X5_65 cd_X7_takeSign mk3 rfl rfl rfl (rmk_d (by omega) (by decide)) rfl rfl ?_
      refine z_if_eq (tgt := 62) dX5_readRepeat_49 rfl (fun hc9 => ?_) (fun hc9 => ?_)
      · have h := it_t h hc9
        refine z_iconst (v := (0 : Int32)) dX5_readRepeat_62 kc_0 ?_
        cases h
        exact z_iret dX5_readRepeat_63 rfl rfl (Nat.le_refl _) (Nat.le_refl _) ⟨rfl, rfl⟩
      · have h := it_f h hc9
        refine z_aload_n (i := 0) dX5_readRepeat_52 rfl rfl ?_
        refine z_iload_n (i := 2) dX5_readRepeat_53 rfl rfl ?_
        refine z_iconst (v := (1 : Int32)) dX5_readRepeat_54 kc_1 ?_
        refine z_iadd dX5_readRepeat_55 ?_
        obtain ⟨q10, hq11, h⟩ := bnd h
        refine z_fVi (hrc q7.2 (x2 + (1 : Int32)) _ hq11) dX5_readRepeat_56 ml_X5_29 cd_X5_readCommands mk6 rfl rfl rfl (rmk_d (by omega) (by decide)) rfl rfl ?_
        refine z_if_ne (tgt := 64) dX5_readRepeat_59 rfl (fun hc12 => ?_) (fun hc12 => ?_)
        · have h := it_f h hc12
          refine z_aload_n (i := 0) dX5_readRepeat_64 rfl rfl ?_
          refine z_getR (r' := (7, 0, 0)) dX5_readRepeat_65 fl_X5_15 mk6 rfl rfl ?_
          refine z_iload_n (i := 1) dX5_readRepeat_68 rfl rfl ?_
          obtain ⟨q13, hq14, h⟩ := bnd h
          refine z_fVv (sX4_closeRepeat q10.2 x1 hq14) dX5_readRepeat_69 ml_X5_76 cd_X4_closeRepeat mk7 rfl rfl rfl (rmk_d (by omega) (by decide)) rfl rfl ?_
          refine z_aload_n (i := 0) dX5_readRepeat_72 rfl rfl ?_
          refine z_getR (r' := (3, 0, 0)) dX5_readRepeat_73 fl_X5_9 mk6 rfl rfl ?_
          refine z_bipush (v := (41 : Int32)) dX5_readRepeat_76 kb_41 ?_
          obtain ⟨q15, hq16, h⟩ := bnd h
          refine z_fVi (sX7_takeSign q13 (41 : Int32) hq16) dX5_readRepeat_78 ml_X5_65 cd_X7_takeSign mk3 rfl rfl rfl (rmk_d (by omega) (by decide)) rfl rfl ?_
          cases h
          exact z_iret dX5_readRepeat_81 rfl (bz_ok _) (Nat.le_refl _) (Nat.le_refl _) ⟨rfl, rfl⟩
        · have h := it_t h hc12
          refine z_iconst (v := (0 : Int32)) dX5_readRepeat_62 kc_0 ?_
          cases h
          exact z_iret dX5_readRepeat_63 rfl rfl (Nat.le_refl _) (Nat.le_refl _) ⟨rfl, rfl⟩
    · have h := it_f h hc6
      refine z_iload_n (i := 2) dX5_readRepeat_26 rfl rfl ?_
      refine z_iconst (v := (2 : Int32)) dX5_readRepeat_27 kc_2 ?_
      refine z_icmp_lt (tgt := 40) dX5_readRepeat_28 rfl (fun hc17 => ?_) (fun hc17 => ?_)
      · have h := it_t h hc17
        refine z_aload_n (i := 0) dX5_readRepeat_40 rfl rfl ?_
        refine z_getR (r' := (3, 0, 0)) dX5_readRepeat_41 fl_X5_9 mk6 rfl rfl ?_
        refine z_bipush (v := (40 : Int32)) dX5_readRepeat_44 kb_40 ?_
        obtain ⟨q18, hq19, h⟩ := bnd h
        refine z_fVi (sX7_takeSign q1.2 (40 : Int32) hq19) dX5_readRepeat_46 ml_X5_65 cd_X7_takeSign mk3 rfl rfl rfl (rmk_d (by omega) (by decide)) rfl rfl ?_
        refine z_if_eq (tgt := 62) dX5_readRepeat_49 rfl (fun hc20 => ?_) (fun hc20 => ?_)
        · have h := it_t h hc20
          refine z_iconst (v := (0 : Int32)) dX5_readRepeat_62 kc_0 ?_
          cases h
          exact z_iret dX5_readRepeat_63 rfl rfl (Nat.le_refl _) (Nat.le_refl _) ⟨rfl, rfl⟩
        · have h := it_f h hc20
          refine z_aload_n (i := 0) dX5_readRepeat_52 rfl rfl ?_
          refine z_iload_n (i := 2) dX5_readRepeat_53 rfl rfl ?_
          refine z_iconst (v := (1 : Int32)) dX5_readRepeat_54 kc_1 ?_
          refine z_iadd dX5_readRepeat_55 ?_
          obtain ⟨q21, hq22, h⟩ := bnd h
          refine z_fVi (hrc q18.2 (x2 + (1 : Int32)) _ hq22) dX5_readRepeat_56 ml_X5_29 cd_X5_readCommands mk6 rfl rfl rfl (rmk_d (by omega) (by decide)) rfl rfl ?_
          refine z_if_ne (tgt := 64) dX5_readRepeat_59 rfl (fun hc23 => ?_) (fun hc23 => ?_)
          · have h := it_f h hc23
            refine z_aload_n (i := 0) dX5_readRepeat_64 rfl rfl ?_
            refine z_getR (r' := (7, 0, 0)) dX5_readRepeat_65 fl_X5_15 mk6 rfl rfl ?_
            refine z_iload_n (i := 1) dX5_readRepeat_68 rfl rfl ?_
            obtain ⟨q24, hq25, h⟩ := bnd h
            refine z_fVv (sX4_closeRepeat q21.2 x1 hq25) dX5_readRepeat_69 ml_X5_76 cd_X4_closeRepeat mk7 rfl rfl rfl (rmk_d (by omega) (by decide)) rfl rfl ?_
            refine z_aload_n (i := 0) dX5_readRepeat_72 rfl rfl ?_
            refine z_getR (r' := (3, 0, 0)) dX5_readRepeat_73 fl_X5_9 mk6 rfl rfl ?_
            refine z_bipush (v := (41 : Int32)) dX5_readRepeat_76 kb_41 ?_
            obtain ⟨q26, hq27, h⟩ := bnd h
            refine z_fVi (sX7_takeSign q24 (41 : Int32) hq27) dX5_readRepeat_78 ml_X5_65 cd_X7_takeSign mk3 rfl rfl rfl (rmk_d (by omega) (by decide)) rfl rfl ?_
            cases h
            exact z_iret dX5_readRepeat_81 rfl (bz_ok _) (Nat.le_refl _) (Nat.le_refl _) ⟨rfl, rfl⟩
          · have h := it_t h hc23
            refine z_iconst (v := (0 : Int32)) dX5_readRepeat_62 kc_0 ?_
            cases h
            exact z_iret dX5_readRepeat_63 rfl rfl (Nat.le_refl _) (Nat.le_refl _) ⟨rfl, rfl⟩
      · have h := it_f h hc17
        refine z_aload_n (i := 0) dX5_readRepeat_31 rfl rfl ?_
        refine z_getR (r' := (3, 0, 0)) dX5_readRepeat_32 fl_X5_9 mk6 rfl rfl ?_
        refine z_iconst (v := (4 : Int32)) dX5_readRepeat_35 kc_4 ?_
        obtain ⟨q28, hq29, h⟩ := bnd h
        refine z_fVi (sX7_fail q1.2 (4 : Int32) hq29) dX5_readRepeat_36 ml_X5_44 cd_X7_fail mk3 rfl rfl rfl (rmk_d (by omega) (by decide)) rfl rfl ?_
        cases h
        exact z_iret dX5_readRepeat_39 rfl (bz_ok _) (Nat.le_refl _) (Nat.le_refl _) ⟨rfl, rfl⟩
  · have h := it_t h hc3
    refine z_iconst (v := (0 : Int32)) dX5_readRepeat_12 kc_0 ?_
    cases h
    exact z_iret dX5_readRepeat_13 rfl rfl (Nat.le_refl _) (Nat.le_refl _) ⟨rfl, rfl⟩
theorem dX5_readDirection_0 : decode cX5_readDirection 0 = .ok (.aload_n 0, 1) := by decide +kernel
theorem dX5_readDirection_1 : decode cX5_readDirection 1 = .ok (.getfield 9, 3) := by decide +kernel
theorem dX5_readDirection_4 : decode cX5_readDirection 4 = .ok (.ldc 114, 2) := by decide +kernel
theorem dX5_readDirection_6 : decode cX5_readDirection 6 = .ok (.invokevirtual 82, 3) := by decide +kernel
theorem dX5_readDirection_9 : decode cX5_readDirection 9 = .ok (.istore_n 3, 1) := by decide +kernel
theorem dX5_readDirection_10 : decode cX5_readDirection 10 = .ok (.iload_n 3, 1) := by decide +kernel
theorem dX5_readDirection_11 : decode cX5_readDirection 11 = .ok (.ifCond .ne 24, 3) := by decide +kernel
theorem dX5_readDirection_14 : decode cX5_readDirection 14 = .ok (.aload_n 0, 1) := by decide +kernel
theorem dX5_readDirection_15 : decode cX5_readDirection 15 = .ok (.getfield 9, 3) := by decide +kernel
theorem dX5_readDirection_18 : decode cX5_readDirection 18 = .ok (.ldc 116, 2) := by decide +kernel
theorem dX5_readDirection_20 : decode cX5_readDirection 20 = .ok (.invokevirtual 82, 3) := by decide +kernel
theorem dX5_readDirection_23 : decode cX5_readDirection 23 = .ok (.ifCond .ne 12, 3) := by decide +kernel
theorem dX5_readDirection_26 : decode cX5_readDirection 26 = .ok (.aload_n 0, 1) := by decide +kernel
theorem dX5_readDirection_27 : decode cX5_readDirection 27 = .ok (.getfield 9, 3) := by decide +kernel
theorem dX5_readDirection_30 : decode cX5_readDirection 30 = .ok (.iconst 1, 1) := by decide +kernel
theorem dX5_readDirection_31 : decode cX5_readDirection 31 = .ok (.invokevirtual 44, 3) := by decide +kernel
theorem dX5_readDirection_34 : decode cX5_readDirection 34 = .ok (.ireturn, 1) := by decide +kernel
theorem dX5_readDirection_35 : decode cX5_readDirection 35 = .ok (.aload_n 0, 1) := by decide +kernel
theorem dX5_readDirection_36 : decode cX5_readDirection 36 = .ok (.getfield 9, 3) := by decide +kernel
theorem dX5_readDirection_39 : decode cX5_readDirection 39 = .ok (.invokevirtual 51, 3) := by decide +kernel
theorem dX5_readDirection_42 : decode cX5_readDirection 42 = .ok (.aload_n 0, 1) := by decide +kernel
theorem dX5_readDirection_43 : decode cX5_readDirection 43 = .ok (.getfield 15, 3) := by decide +kernel
theorem dX5_readDirection_46 : decode cX5_readDirection 46 = .ok (.iload_n 1, 1) := by decide +kernel
theorem dX5_readDirection_47 : decode cX5_readDirection 47 = .ok (.iload_n 2, 1) := by decide +kernel
theorem dX5_readDirection_48 : decode cX5_readDirection 48 = .ok (.iload_n 3, 1) := by decide +kernel
theorem dX5_readDirection_49 : decode cX5_readDirection 49 = .ok (.ifCond .eq 7, 3) := by decide +kernel
theorem dX5_readDirection_52 : decode cX5_readDirection 52 = .ok (.iconst 1, 1) := by decide +kernel
theorem dX5_readDirection_53 : decode cX5_readDirection 53 = .ok (.goto 4, 3) := by decide +kernel
theorem dX5_readDirection_56 : decode cX5_readDirection 56 = .ok (.iconst (-1), 1) := by decide +kernel
theorem dX5_readDirection_57 : decode cX5_readDirection 57 = .ok (.invokevirtual 110, 3) := by decide +kernel
theorem dX5_readDirection_60 : decode cX5_readDirection 60 = .ok (.iconst 1, 1) := by decide +kernel
theorem dX5_readDirection_61 : decode cX5_readDirection 61 = .ok (.ireturn, 1) := by decide +kernel
def fX5_readDirection (M : Mm) (x1 : Int32) (x2 : Int32) : Option (Int32 × Mm) := (fX7_atWord M 13).bind fun q1 => if q1 = 0 then ((fX7_atWord M 14).bind fun q9 => if q9 = 0 then ((fX7_fail M (1 : Int32)).bind fun q17 => some ((bz q17.1), q17.2)) else if q1 = 0 then ((fX4_putArgument (fX7_advance M) x1 x2 (-1 : Int32)).bind fun q13 => some ((1 : Int32), q13)) else (fX4_putArgument (fX7_advance M) x1 x2 (1 : Int32)).bind fun q15 => some ((1 : Int32), q15)) else if q1 = 0 then ((fX4_putArgument (fX7_advance M) x1 x2 (-1 : Int32)).bind fun q5 => some ((1 : Int32), q5)) else (fX4_putArgument (fX7_advance M) x1 x2 (1 : Int32)).bind fun q7 => some ((1 : Int32), q7)
set_option maxRecDepth 20000 in
set_option maxHeartbeats 2000000 in
theorem sX5_readDirection {wv : Nat} (M : Mm) (x1 : Int32) (x2 : Int32) {res : (Int32 × Mm)} (h : fX5_readDirection M x1 x2 = some res) : TF wv yX5_readDirection cX5_readDirection 4 (some .boolean) 8 [.inr (6, 0, 0), .inl (.int x1), .inl (.int x2)] M (some (.int res.1)) res.2 := by
  rw [fX5_readDirection] at h
  refine TF.go (n := 1) (ls := [some (.inr (6, 0, 0)), some (.inl (.int x1)), some (.inl (.int x2)), none]) rfl rfl rfl rfl rfl ?_
  refine z_aload_n (i := 0) dX5_readDirection_0 rfl rfl ?_
  refine z_getR (r' := (3, 0, 0)) dX5_readDirection_1 fl_X5_9 mk6 rfl rfl ?_
  refine z_ldcS (j := 13) dX5_readDirection_4 sw_RX5_114 ?_
  obtain ⟨q1, hq2, h⟩ := bnd h
  refine z_fVi (sX7_atWord M 13 (Nat.le_of_ble_eq_true rfl) hq2) dX5_readDirection_6 ml_X5_82 cd_X7_atWord mk3 rfl rfl rfl rfl rfl rfl ?_
  refine z_istore_n (i := 3) dX5_readDirection_9 rfl (Nat.le_of_ble_eq_true rfl) rfl ?_
  refine z_iload_n (i := 3) dX5_readDirection_10 rfl rfl ?_
  refine z_if_ne (tgt := 35) dX5_readDirection_11 rfl (fun hc3 => ?_) (fun hc3 => ?_)
  · have h := it_f h hc3
    refine z_aload_n (i := 0) dX5_readDirection_35 rfl rfl ?_
    refine z_getR (r' := (3, 0, 0)) dX5_readDirection_36 fl_X5_9 mk6 rfl rfl ?_
    refine z_fVv (sX7_advance M) dX5_readDirection_39 ml_X5_51 cd_X7_advance mk3 rfl rfl rfl rfl rfl rfl ?_
    refine z_aload_n (i := 0) dX5_readDirection_42 rfl rfl ?_
    refine z_getR (r' := (7, 0, 0)) dX5_readDirection_43 fl_X5_15 mk6 rfl rfl ?_
    refine z_iload_n (i := 1) dX5_readDirection_46 rfl rfl ?_
    refine z_iload_n (i := 2) dX5_readDirection_47 rfl rfl ?_
    refine z_iload_n (i := 3) dX5_readDirection_48 rfl rfl ?_
    refine z_if_eq (tgt := 56) dX5_readDirection_49 rfl (fun hc4 => ?_) (fun hc4 => ?_)
    · have h := it_t h hc4
      refine z_iconst (v := (-1 : Int32)) dX5_readDirection_56 kc_m1 ?_
      obtain ⟨q5, hq6, h⟩ := bnd h
      refine z_fVv (sX4_putArgument (fX7_advance M) x1 x2 (-1 : Int32) hq6) dX5_readDirection_57 ml_X5_110 cd_X4_putArgument mk7 rfl rfl rfl rfl rfl rfl ?_
      refine z_iconst (v := (1 : Int32)) dX5_readDirection_60 kc_1 ?_
      cases h
      exact z_iret dX5_readDirection_61 rfl rfl (Nat.le_refl _) (Nat.le_refl _) ⟨rfl, rfl⟩
    · have h := it_f h hc4
      refine z_iconst (v := (1 : Int32)) dX5_readDirection_52 kc_1 ?_
      refine z_goto (tgt := 57) dX5_readDirection_53 rfl ?_
      obtain ⟨q7, hq8, h⟩ := bnd h
      refine z_fVv (sX4_putArgument (fX7_advance M) x1 x2 (1 : Int32) hq8) dX5_readDirection_57 ml_X5_110 cd_X4_putArgument mk7 rfl rfl rfl rfl rfl rfl ?_
      refine z_iconst (v := (1 : Int32)) dX5_readDirection_60 kc_1 ?_
      cases h
      exact z_iret dX5_readDirection_61 rfl rfl (Nat.le_refl _) (Nat.le_refl _) ⟨rfl, rfl⟩
  · have h := it_t h hc3
    refine z_aload_n (i := 0) dX5_readDirection_14 rfl rfl ?_
    refine z_getR (r' := (3, 0, 0)) dX5_readDirection_15 fl_X5_9 mk6 rfl rfl ?_
    refine z_ldcS (j := 14) dX5_readDirection_18 sw_RX5_116 ?_
    obtain ⟨q9, hq10, h⟩ := bnd h
    refine z_fVi (sX7_atWord M 14 (Nat.le_of_ble_eq_true rfl) hq10) dX5_readDirection_20 ml_X5_82 cd_X7_atWord mk3 rfl rfl rfl rfl rfl rfl ?_
    refine z_if_ne (tgt := 35) dX5_readDirection_23 rfl (fun hc11 => ?_) (fun hc11 => ?_)
    · have h := it_f h hc11
      refine z_aload_n (i := 0) dX5_readDirection_35 rfl rfl ?_
      refine z_getR (r' := (3, 0, 0)) dX5_readDirection_36 fl_X5_9 mk6 rfl rfl ?_
      refine z_fVv (sX7_advance M) dX5_readDirection_39 ml_X5_51 cd_X7_advance mk3 rfl rfl rfl rfl rfl rfl ?_
      refine z_aload_n (i := 0) dX5_readDirection_42 rfl rfl ?_
      refine z_getR (r' := (7, 0, 0)) dX5_readDirection_43 fl_X5_15 mk6 rfl rfl ?_
      refine z_iload_n (i := 1) dX5_readDirection_46 rfl rfl ?_
      refine z_iload_n (i := 2) dX5_readDirection_47 rfl rfl ?_
      refine z_iload_n (i := 3) dX5_readDirection_48 rfl rfl ?_
      refine z_if_eq (tgt := 56) dX5_readDirection_49 rfl (fun hc12 => ?_) (fun hc12 => ?_)
      · have h := it_t h hc12
        refine z_iconst (v := (-1 : Int32)) dX5_readDirection_56 kc_m1 ?_
        obtain ⟨q13, hq14, h⟩ := bnd h
        refine z_fVv (sX4_putArgument (fX7_advance M) x1 x2 (-1 : Int32) hq14) dX5_readDirection_57 ml_X5_110 cd_X4_putArgument mk7 rfl rfl rfl rfl rfl rfl ?_
        refine z_iconst (v := (1 : Int32)) dX5_readDirection_60 kc_1 ?_
        cases h
        exact z_iret dX5_readDirection_61 rfl rfl (Nat.le_refl _) (Nat.le_refl _) ⟨rfl, rfl⟩
      · have h := it_f h hc12
        refine z_iconst (v := (1 : Int32)) dX5_readDirection_52 kc_1 ?_
        refine z_goto (tgt := 57) dX5_readDirection_53 rfl ?_
        obtain ⟨q15, hq16, h⟩ := bnd h
        refine z_fVv (sX4_putArgument (fX7_advance M) x1 x2 (1 : Int32) hq16) dX5_readDirection_57 ml_X5_110 cd_X4_putArgument mk7 rfl rfl rfl rfl rfl rfl ?_
        refine z_iconst (v := (1 : Int32)) dX5_readDirection_60 kc_1 ?_
        cases h
        exact z_iret dX5_readDirection_61 rfl rfl (Nat.le_refl _) (Nat.le_refl _) ⟨rfl, rfl⟩
    · have h := it_t h hc11
      refine z_aload_n (i := 0) dX5_readDirection_26 rfl rfl ?_
      refine z_getR (r' := (3, 0, 0)) dX5_readDirection_27 fl_X5_9 mk6 rfl rfl ?_
      refine z_iconst (v := (1 : Int32)) dX5_readDirection_30 kc_1 ?_
      obtain ⟨q17, hq18, h⟩ := bnd h
      refine z_fVi (sX7_fail M (1 : Int32) hq18) dX5_readDirection_31 ml_X5_44 cd_X7_fail mk3 rfl rfl rfl rfl rfl rfl ?_
      cases h
      exact z_iret dX5_readDirection_34 rfl (bz_ok _) (Nat.le_refl _) (Nat.le_refl _) ⟨rfl, rfl⟩
theorem dX5_readArguments_0 : decode cX5_readArguments 0 = .ok (.iload_n 2, 1) := by decide +kernel
theorem dX5_readArguments_1 : decode cX5_readArguments 1 = .ok (.tableswitch 195 0 7 #[47, 47, 88, 118, 156, 166, 176, 186], 47) := by decide +kernel
theorem dX5_readArguments_48 : decode cX5_readArguments 48 = .ok (.aload_n 0, 1) := by decide +kernel
theorem dX5_readArguments_49 : decode cX5_readArguments 49 = .ok (.iload_n 1, 1) := by decide +kernel
theorem dX5_readArguments_50 : decode cX5_readArguments 50 = .ok (.iconst 0, 1) := by decide +kernel
theorem dX5_readArguments_51 : decode cX5_readArguments 51 = .ok (.iconst 0, 1) := by decide +kernel
theorem dX5_readArguments_52 : decode cX5_readArguments 52 = .ok (.iconst 2, 1) := by decide +kernel
theorem dX5_readArguments_53 : decode cX5_readArguments 53 = .ok (.invokevirtual 69, 3) := by decide +kernel
theorem dX5_readArguments_56 : decode cX5_readArguments 56 = .ok (.ifCond .eq 31, 3) := by decide +kernel
theorem dX5_readArguments_59 : decode cX5_readArguments 59 = .ok (.aload_n 0, 1) := by decide +kernel
theorem dX5_readArguments_60 : decode cX5_readArguments 60 = .ok (.iload_n 1, 1) := by decide +kernel
theorem dX5_readArguments_61 : decode cX5_readArguments 61 = .ok (.iconst 1, 1) := by decide +kernel
theorem dX5_readArguments_62 : decode cX5_readArguments 62 = .ok (.iconst 0, 1) := by decide +kernel
theorem dX5_readArguments_63 : decode cX5_readArguments 63 = .ok (.bipush 11, 2) := by decide +kernel
theorem dX5_readArguments_65 : decode cX5_readArguments 65 = .ok (.invokevirtual 69, 3) := by decide +kernel
theorem dX5_readArguments_68 : decode cX5_readArguments 68 = .ok (.ifCond .eq 19, 3) := by decide +kernel
theorem dX5_readArguments_71 : decode cX5_readArguments 71 = .ok (.aload_n 0, 1) := by decide +kernel
theorem dX5_readArguments_72 : decode cX5_readArguments 72 = .ok (.iload_n 1, 1) := by decide +kernel
theorem dX5_readArguments_73 : decode cX5_readArguments 73 = .ok (.iconst 2, 1) := by decide +kernel
theorem dX5_readArguments_74 : decode cX5_readArguments 74 = .ok (.iconst 0, 1) := by decide +kernel
theorem dX5_readArguments_75 : decode cX5_readArguments 75 = .ok (.bipush 63, 2) := by decide +kernel
theorem dX5_readArguments_77 : decode cX5_readArguments 77 = .ok (.invokevirtual 69, 3) := by decide +kernel
theorem dX5_readArguments_80 : decode cX5_readArguments 80 = .ok (.ifCond .eq 7, 3) := by decide +kernel
theorem dX5_readArguments_83 : decode cX5_readArguments 83 = .ok (.iconst 1, 1) := by decide +kernel
theorem dX5_readArguments_84 : decode cX5_readArguments 84 = .ok (.goto 4, 3) := by decide +kernel
theorem dX5_readArguments_87 : decode cX5_readArguments 87 = .ok (.iconst 0, 1) := by decide +kernel
theorem dX5_readArguments_88 : decode cX5_readArguments 88 = .ok (.ireturn, 1) := by decide +kernel
theorem dX5_readArguments_89 : decode cX5_readArguments 89 = .ok (.aload_n 0, 1) := by decide +kernel
theorem dX5_readArguments_90 : decode cX5_readArguments 90 = .ok (.iload_n 1, 1) := by decide +kernel
theorem dX5_readArguments_91 : decode cX5_readArguments 91 = .ok (.iconst 0, 1) := by decide +kernel
theorem dX5_readArguments_92 : decode cX5_readArguments 92 = .ok (.iconst 0, 1) := by decide +kernel
theorem dX5_readArguments_93 : decode cX5_readArguments 93 = .ok (.bipush 11, 2) := by decide +kernel
theorem dX5_readArguments_95 : decode cX5_readArguments 95 = .ok (.invokevirtual 69, 3) := by decide +kernel
theorem dX5_readArguments_98 : decode cX5_readArguments 98 = .ok (.ifCond .eq 19, 3) := by decide +kernel
theorem dX5_readArguments_101 : decode cX5_readArguments 101 = .ok (.aload_n 0, 1) := by decide +kernel
theorem dX5_readArguments_102 : decode cX5_readArguments 102 = .ok (.iload_n 1, 1) := by decide +kernel
theorem dX5_readArguments_103 : decode cX5_readArguments 103 = .ok (.iconst 1, 1) := by decide +kernel
theorem dX5_readArguments_104 : decode cX5_readArguments 104 = .ok (.iconst 1, 1) := by decide +kernel
theorem dX5_readArguments_105 : decode cX5_readArguments 105 = .ok (.bipush 9, 2) := by decide +kernel
theorem dX5_readArguments_107 : decode cX5_readArguments 107 = .ok (.invokevirtual 69, 3) := by decide +kernel
theorem dX5_readArguments_110 : decode cX5_readArguments 110 = .ok (.ifCond .eq 7, 3) := by decide +kernel
theorem dX5_readArguments_113 : decode cX5_readArguments 113 = .ok (.iconst 1, 1) := by decide +kernel
theorem dX5_readArguments_114 : decode cX5_readArguments 114 = .ok (.goto 4, 3) := by decide +kernel
theorem dX5_readArguments_117 : decode cX5_readArguments 117 = .ok (.iconst 0, 1) := by decide +kernel
theorem dX5_readArguments_118 : decode cX5_readArguments 118 = .ok (.ireturn, 1) := by decide +kernel
theorem dX5_readArguments_119 : decode cX5_readArguments 119 = .ok (.aload_n 0, 1) := by decide +kernel
theorem dX5_readArguments_120 : decode cX5_readArguments 120 = .ok (.iload_n 1, 1) := by decide +kernel
theorem dX5_readArguments_121 : decode cX5_readArguments 121 = .ok (.iconst 0, 1) := by decide +kernel
theorem dX5_readArguments_122 : decode cX5_readArguments 122 = .ok (.iconst 0, 1) := by decide +kernel
theorem dX5_readArguments_123 : decode cX5_readArguments 123 = .ok (.bipush 11, 2) := by decide +kernel
theorem dX5_readArguments_125 : decode cX5_readArguments 125 = .ok (.invokevirtual 69, 3) := by decide +kernel
theorem dX5_readArguments_128 : decode cX5_readArguments 128 = .ok (.ifCond .eq 27, 3) := by decide +kernel
theorem dX5_readArguments_131 : decode cX5_readArguments 131 = .ok (.aload_n 0, 1) := by decide +kernel
theorem dX5_readArguments_132 : decode cX5_readArguments 132 = .ok (.iload_n 1, 1) := by decide +kernel
theorem dX5_readArguments_133 : decode cX5_readArguments 133 = .ok (.iconst 1, 1) := by decide +kernel
theorem dX5_readArguments_134 : decode cX5_readArguments 134 = .ok (.invokevirtual 104, 3) := by decide +kernel
theorem dX5_readArguments_137 : decode cX5_readArguments 137 = .ok (.ifCond .eq 18, 3) := by decide +kernel
theorem dX5_readArguments_140 : decode cX5_readArguments 140 = .ok (.aload_n 0, 1) := by decide +kernel
theorem dX5_readArguments_141 : decode cX5_readArguments 141 = .ok (.iload_n 1, 1) := by decide +kernel
theorem dX5_readArguments_142 : decode cX5_readArguments 142 = .ok (.iconst 2, 1) := by decide +kernel
theorem dX5_readArguments_143 : decode cX5_readArguments 143 = .ok (.iconst 1, 1) := by decide +kernel
theorem dX5_readArguments_144 : decode cX5_readArguments 144 = .ok (.iconst 3, 1) := by decide +kernel
theorem dX5_readArguments_145 : decode cX5_readArguments 145 = .ok (.invokevirtual 69, 3) := by decide +kernel
theorem dX5_readArguments_148 : decode cX5_readArguments 148 = .ok (.ifCond .eq 7, 3) := by decide +kernel
theorem dX5_readArguments_151 : decode cX5_readArguments 151 = .ok (.iconst 1, 1) := by decide +kernel
theorem dX5_readArguments_152 : decode cX5_readArguments 152 = .ok (.goto 4, 3) := by decide +kernel
theorem dX5_readArguments_155 : decode cX5_readArguments 155 = .ok (.iconst 0, 1) := by decide +kernel
theorem dX5_readArguments_156 : decode cX5_readArguments 156 = .ok (.ireturn, 1) := by decide +kernel
theorem dX5_readArguments_157 : decode cX5_readArguments 157 = .ok (.aload_n 0, 1) := by decide +kernel
theorem dX5_readArguments_158 : decode cX5_readArguments 158 = .ok (.iload_n 1, 1) := by decide +kernel
theorem dX5_readArguments_159 : decode cX5_readArguments 159 = .ok (.iconst 0, 1) := by decide +kernel
theorem dX5_readArguments_160 : decode cX5_readArguments 160 = .ok (.iconst 0, 1) := by decide +kernel
theorem dX5_readArguments_161 : decode cX5_readArguments 161 = .ok (.bipush 11, 2) := by decide +kernel
theorem dX5_readArguments_163 : decode cX5_readArguments 163 = .ok (.invokevirtual 69, 3) := by decide +kernel
theorem dX5_readArguments_166 : decode cX5_readArguments 166 = .ok (.ireturn, 1) := by decide +kernel
theorem dX5_readArguments_167 : decode cX5_readArguments 167 = .ok (.aload_n 0, 1) := by decide +kernel
theorem dX5_readArguments_168 : decode cX5_readArguments 168 = .ok (.iload_n 1, 1) := by decide +kernel
theorem dX5_readArguments_169 : decode cX5_readArguments 169 = .ok (.iconst 0, 1) := by decide +kernel
theorem dX5_readArguments_170 : decode cX5_readArguments 170 = .ok (.iconst 0, 1) := by decide +kernel
theorem dX5_readArguments_171 : decode cX5_readArguments 171 = .ok (.bipush 90, 2) := by decide +kernel
theorem dX5_readArguments_173 : decode cX5_readArguments 173 = .ok (.invokevirtual 69, 3) := by decide +kernel
theorem dX5_readArguments_176 : decode cX5_readArguments 176 = .ok (.ireturn, 1) := by decide +kernel
theorem dX5_readArguments_177 : decode cX5_readArguments 177 = .ok (.aload_n 0, 1) := by decide +kernel
theorem dX5_readArguments_178 : decode cX5_readArguments 178 = .ok (.iload_n 1, 1) := by decide +kernel
theorem dX5_readArguments_179 : decode cX5_readArguments 179 = .ok (.iconst 0, 1) := by decide +kernel
theorem dX5_readArguments_180 : decode cX5_readArguments 180 = .ok (.iconst 1, 1) := by decide +kernel
theorem dX5_readArguments_181 : decode cX5_readArguments 181 = .ok (.bipush 20, 2) := by decide +kernel
theorem dX5_readArguments_183 : decode cX5_readArguments 183 = .ok (.invokevirtual 69, 3) := by decide +kernel
theorem dX5_readArguments_186 : decode cX5_readArguments 186 = .ok (.ireturn, 1) := by decide +kernel
theorem dX5_readArguments_187 : decode cX5_readArguments 187 = .ok (.aload_n 0, 1) := by decide +kernel
theorem dX5_readArguments_188 : decode cX5_readArguments 188 = .ok (.iload_n 1, 1) := by decide +kernel
theorem dX5_readArguments_189 : decode cX5_readArguments 189 = .ok (.iconst 0, 1) := by decide +kernel
theorem dX5_readArguments_190 : decode cX5_readArguments 190 = .ok (.iconst 0, 1) := by decide +kernel
theorem dX5_readArguments_191 : decode cX5_readArguments 191 = .ok (.iconst 2, 1) := by decide +kernel
theorem dX5_readArguments_192 : decode cX5_readArguments 192 = .ok (.invokevirtual 69, 3) := by decide +kernel
theorem dX5_readArguments_195 : decode cX5_readArguments 195 = .ok (.ireturn, 1) := by decide +kernel
theorem dX5_readArguments_196 : decode cX5_readArguments 196 = .ok (.aload_n 0, 1) := by decide +kernel
theorem dX5_readArguments_197 : decode cX5_readArguments 197 = .ok (.iload_n 1, 1) := by decide +kernel
theorem dX5_readArguments_198 : decode cX5_readArguments 198 = .ok (.iconst 0, 1) := by decide +kernel
theorem dX5_readArguments_199 : decode cX5_readArguments 199 = .ok (.iconst 1, 1) := by decide +kernel
theorem dX5_readArguments_200 : decode cX5_readArguments 200 = .ok (.sipush 300, 3) := by decide +kernel
theorem dX5_readArguments_203 : decode cX5_readArguments 203 = .ok (.invokevirtual 69, 3) := by decide +kernel
theorem dX5_readArguments_206 : decode cX5_readArguments 206 = .ok (.ireturn, 1) := by decide +kernel
def fX5_readArguments (M : Mm) (x1 : Int32) (x2 : Int32) : Option (Int32 × Mm) := if x2 = (0 : Int32) then ((fX5_readArgument M x1 (0 : Int32) (0 : Int32) (2 : Int32)).bind fun q2 => if q2.1 = 0 then some ((0 : Int32), q2.2) else (fX5_readArgument q2.2 x1 (1 : Int32) (0 : Int32) (11 : Int32)).bind fun q5 => if q5.1 = 0 then some ((0 : Int32), q5.2) else (fX5_readArgument q5.2 x1 (2 : Int32) (0 : Int32) (63 : Int32)).bind fun q8 => if q8.1 = 0 then some ((0 : Int32), q8.2) else some ((1 : Int32), q8.2)) else if x2 = (1 : Int32) then ((fX5_readArgument M x1 (0 : Int32) (0 : Int32) (2 : Int32)).bind fun q12 => if q12.1 = 0 then some ((0 : Int32), q12.2) else (fX5_readArgument q12.2 x1 (1 : Int32) (0 : Int32) (11 : Int32)).bind fun q15 => if q15.1 = 0 then some ((0 : Int32), q15.2) else (fX5_readArgument q15.2 x1 (2 : Int32) (0 : Int32) (63 : Int32)).bind fun q18 => if q18.1 = 0 then some ((0 : Int32), q18.2) else some ((1 : Int32), q18.2)) else if x2 = (2 : Int32) then ((fX5_readArgument M x1 (0 : Int32) (0 : Int32) (11 : Int32)).bind fun q22 => if q22.1 = 0 then some ((0 : Int32), q22.2) else (fX5_readArgument q22.2 x1 (1 : Int32) (1 : Int32) (9 : Int32)).bind fun q25 => if q25.1 = 0 then some ((0 : Int32), q25.2) else some ((1 : Int32), q25.2)) else if x2 = (3 : Int32) then ((fX5_readArgument M x1 (0 : Int32) (0 : Int32) (11 : Int32)).bind fun q29 => if q29.1 = 0 then some ((0 : Int32), q29.2) else (fX5_readDirection q29.2 x1 (1 : Int32)).bind fun q32 => if q32.1 = 0 then some ((0 : Int32), q32.2) else (fX5_readArgument q32.2 x1 (2 : Int32) (1 : Int32) (3 : Int32)).bind fun q35 => if q35.1 = 0 then some ((0 : Int32), q35.2) else some ((1 : Int32), q35.2)) else if x2 = (4 : Int32) then ((fX5_readArgument M x1 (0 : Int32) (0 : Int32) (11 : Int32)).bind fun q39 => some ((bz q39.1), q39.2)) else if x2 = (5 : Int32) then ((fX5_readArgument M x1 (0 : Int32) (0 : Int32) (90 : Int32)).bind fun q42 => some ((bz q42.1), q42.2)) else if x2 = (6 : Int32) then ((fX5_readArgument M x1 (0 : Int32) (1 : Int32) (20 : Int32)).bind fun q45 => some ((bz q45.1), q45.2)) else if x2 = (7 : Int32) then ((fX5_readArgument M x1 (0 : Int32) (0 : Int32) (2 : Int32)).bind fun q48 => some ((bz q48.1), q48.2)) else (fX5_readArgument M x1 (0 : Int32) (1 : Int32) (300 : Int32)).bind fun q50 => some ((bz q50.1), q50.2)
set_option maxRecDepth 20000 in
set_option maxHeartbeats 2000000 in
theorem sX5_readArguments {wv : Nat} (M : Mm) (x1 : Int32) (x2 : Int32) {res : (Int32 × Mm)} (h : fX5_readArguments M x1 x2 = some res) : TF wv yX5_readArguments cX5_readArguments 3 (some .boolean) 9 [.inr (6, 0, 0), .inl (.int x1), .inl (.int x2)] M (some (.int res.1)) res.2 := by
  rw [fX5_readArguments] at h
  refine TF.go (n := 0) (ls := [some (.inr (6, 0, 0)), some (.inl (.int x1)), some (.inl (.int x2))]) rfl rfl rfl rfl rfl ?_
  refine z_iload_n (i := 2) dX5_readArguments_0 rfl rfl ?_
  by_cases hc1 : x2 = (0 : Int32)
  · have h := it_t h hc1
    refine z_tin (tgt := 48) dX5_readArguments_1 (by rw [hc1]; decide) (by rw [hc1]; decide) (off := 47) (by rw [hc1]; decide) rfl ?_
    refine z_aload_n (i := 0) dX5_readArguments_48 rfl rfl ?_
    refine z_iload_n (i := 1) dX5_readArguments_49 rfl rfl ?_
    refine z_iconst (v := (0 : Int32)) dX5_readArguments_50 kc_0 ?_
    refine z_iconst (v := (0 : Int32)) dX5_readArguments_51 kc_0 ?_
    refine z_iconst (v := (2 : Int32)) dX5_readArguments_52 kc_2 ?_
    obtain ⟨q2, hq3, h⟩ := bnd h
    refine z_fVi (sX5_readArgument M x1 (0 : Int32) (0 : Int32) (2 : Int32) hq3) dX5_readArguments_53 ml_X5_69 cd_X5_readArgument mk6 rfl rfl rfl rfl rfl rfl ?_
    refine z_if_eq (tgt := 87) dX5_readArguments_56 rfl (fun hc4 => ?_) (fun hc4 => ?_)
    · have h := it_t h hc4
      refine z_iconst (v := (0 : Int32)) dX5_readArguments_87 kc_0 ?_
      cases h
      exact z_iret dX5_readArguments_88 rfl rfl (Nat.le_refl _) (Nat.le_refl _) ⟨rfl, rfl⟩
    · have h := it_f h hc4
      refine z_aload_n (i := 0) dX5_readArguments_59 rfl rfl ?_
      refine z_iload_n (i := 1) dX5_readArguments_60 rfl rfl ?_
      refine z_iconst (v := (1 : Int32)) dX5_readArguments_61 kc_1 ?_
      refine z_iconst (v := (0 : Int32)) dX5_readArguments_62 kc_0 ?_
      refine z_bipush (v := (11 : Int32)) dX5_readArguments_63 kb_11 ?_
      obtain ⟨q5, hq6, h⟩ := bnd h
      refine z_fVi (sX5_readArgument q2.2 x1 (1 : Int32) (0 : Int32) (11 : Int32) hq6) dX5_readArguments_65 ml_X5_69 cd_X5_readArgument mk6 rfl rfl rfl rfl rfl rfl ?_
      refine z_if_eq (tgt := 87) dX5_readArguments_68 rfl (fun hc7 => ?_) (fun hc7 => ?_)
      · have h := it_t h hc7
        refine z_iconst (v := (0 : Int32)) dX5_readArguments_87 kc_0 ?_
        cases h
        exact z_iret dX5_readArguments_88 rfl rfl (Nat.le_refl _) (Nat.le_refl _) ⟨rfl, rfl⟩
      · have h := it_f h hc7
        refine z_aload_n (i := 0) dX5_readArguments_71 rfl rfl ?_
        refine z_iload_n (i := 1) dX5_readArguments_72 rfl rfl ?_
        refine z_iconst (v := (2 : Int32)) dX5_readArguments_73 kc_2 ?_
        refine z_iconst (v := (0 : Int32)) dX5_readArguments_74 kc_0 ?_
        refine z_bipush (v := (63 : Int32)) dX5_readArguments_75 kb_63 ?_
        obtain ⟨q8, hq9, h⟩ := bnd h
        refine z_fVi (sX5_readArgument q5.2 x1 (2 : Int32) (0 : Int32) (63 : Int32) hq9) dX5_readArguments_77 ml_X5_69 cd_X5_readArgument mk6 rfl rfl rfl rfl rfl rfl ?_
        refine z_if_eq (tgt := 87) dX5_readArguments_80 rfl (fun hc10 => ?_) (fun hc10 => ?_)
        · have h := it_t h hc10
          refine z_iconst (v := (0 : Int32)) dX5_readArguments_87 kc_0 ?_
          cases h
          exact z_iret dX5_readArguments_88 rfl rfl (Nat.le_refl _) (Nat.le_refl _) ⟨rfl, rfl⟩
        · have h := it_f h hc10
          refine z_iconst (v := (1 : Int32)) dX5_readArguments_83 kc_1 ?_
          refine z_goto (tgt := 88) dX5_readArguments_84 rfl ?_
          cases h
          exact z_iret dX5_readArguments_88 rfl rfl (Nat.le_refl _) (Nat.le_refl _) ⟨rfl, rfl⟩
  have h := it_f h hc1
  by_cases hc11 : x2 = (1 : Int32)
  · have h := it_t h hc11
    refine z_tin (tgt := 48) dX5_readArguments_1 (by rw [hc11]; decide) (by rw [hc11]; decide) (off := 47) (by rw [hc11]; decide) rfl ?_
    refine z_aload_n (i := 0) dX5_readArguments_48 rfl rfl ?_
    refine z_iload_n (i := 1) dX5_readArguments_49 rfl rfl ?_
    refine z_iconst (v := (0 : Int32)) dX5_readArguments_50 kc_0 ?_
    refine z_iconst (v := (0 : Int32)) dX5_readArguments_51 kc_0 ?_
    refine z_iconst (v := (2 : Int32)) dX5_readArguments_52 kc_2 ?_
    obtain ⟨q12, hq13, h⟩ := bnd h
    refine z_fVi (sX5_readArgument M x1 (0 : Int32) (0 : Int32) (2 : Int32) hq13) dX5_readArguments_53 ml_X5_69 cd_X5_readArgument mk6 rfl rfl rfl rfl rfl rfl ?_
    refine z_if_eq (tgt := 87) dX5_readArguments_56 rfl (fun hc14 => ?_) (fun hc14 => ?_)
    · have h := it_t h hc14
      refine z_iconst (v := (0 : Int32)) dX5_readArguments_87 kc_0 ?_
      cases h
      exact z_iret dX5_readArguments_88 rfl rfl (Nat.le_refl _) (Nat.le_refl _) ⟨rfl, rfl⟩
    · have h := it_f h hc14
      refine z_aload_n (i := 0) dX5_readArguments_59 rfl rfl ?_
      refine z_iload_n (i := 1) dX5_readArguments_60 rfl rfl ?_
      refine z_iconst (v := (1 : Int32)) dX5_readArguments_61 kc_1 ?_
      refine z_iconst (v := (0 : Int32)) dX5_readArguments_62 kc_0 ?_
      refine z_bipush (v := (11 : Int32)) dX5_readArguments_63 kb_11 ?_
      obtain ⟨q15, hq16, h⟩ := bnd h
      refine z_fVi (sX5_readArgument q12.2 x1 (1 : Int32) (0 : Int32) (11 : Int32) hq16) dX5_readArguments_65 ml_X5_69 cd_X5_readArgument mk6 rfl rfl rfl rfl rfl rfl ?_
      refine z_if_eq (tgt := 87) dX5_readArguments_68 rfl (fun hc17 => ?_) (fun hc17 => ?_)
      · have h := it_t h hc17
        refine z_iconst (v := (0 : Int32)) dX5_readArguments_87 kc_0 ?_
        cases h
        exact z_iret dX5_readArguments_88 rfl rfl (Nat.le_refl _) (Nat.le_refl _) ⟨rfl, rfl⟩
      · have h := it_f h hc17
        refine z_aload_n (i := 0) dX5_readArguments_71 rfl rfl ?_
        refine z_iload_n (i := 1) dX5_readArguments_72 rfl rfl ?_
        refine z_iconst (v := (2 : Int32)) dX5_readArguments_73 kc_2 ?_
        refine z_iconst (v := (0 : Int32)) dX5_readArguments_74 kc_0 ?_
        refine z_bipush (v := (63 : Int32)) dX5_readArguments_75 kb_63 ?_
        obtain ⟨q18, hq19, h⟩ := bnd h
        refine z_fVi (sX5_readArgument q15.2 x1 (2 : Int32) (0 : Int32) (63 : Int32) hq19) dX5_readArguments_77 ml_X5_69 cd_X5_readArgument mk6 rfl rfl rfl rfl rfl rfl ?_
        refine z_if_eq (tgt := 87) dX5_readArguments_80 rfl (fun hc20 => ?_) (fun hc20 => ?_)
        · have h := it_t h hc20
          refine z_iconst (v := (0 : Int32)) dX5_readArguments_87 kc_0 ?_
          cases h
          exact z_iret dX5_readArguments_88 rfl rfl (Nat.le_refl _) (Nat.le_refl _) ⟨rfl, rfl⟩
        · have h := it_f h hc20
          refine z_iconst (v := (1 : Int32)) dX5_readArguments_83 kc_1 ?_
          refine z_goto (tgt := 88) dX5_readArguments_84 rfl ?_
          cases h
          exact z_iret dX5_readArguments_88 rfl rfl (Nat.le_refl _) (Nat.le_refl _) ⟨rfl, rfl⟩
  have h := it_f h hc11
  by_cases hc21 : x2 = (2 : Int32)
  · have h := it_t h hc21
    refine z_tin (tgt := 89) dX5_readArguments_1 (by rw [hc21]; decide) (by rw [hc21]; decide) (off := 88) (by rw [hc21]; decide) rfl ?_
    refine z_aload_n (i := 0) dX5_readArguments_89 rfl rfl ?_
    refine z_iload_n (i := 1) dX5_readArguments_90 rfl rfl ?_
    refine z_iconst (v := (0 : Int32)) dX5_readArguments_91 kc_0 ?_
    refine z_iconst (v := (0 : Int32)) dX5_readArguments_92 kc_0 ?_
    refine z_bipush (v := (11 : Int32)) dX5_readArguments_93 kb_11 ?_
    obtain ⟨q22, hq23, h⟩ := bnd h
    refine z_fVi (sX5_readArgument M x1 (0 : Int32) (0 : Int32) (11 : Int32) hq23) dX5_readArguments_95 ml_X5_69 cd_X5_readArgument mk6 rfl rfl rfl rfl rfl rfl ?_
    refine z_if_eq (tgt := 117) dX5_readArguments_98 rfl (fun hc24 => ?_) (fun hc24 => ?_)
    · have h := it_t h hc24
      refine z_iconst (v := (0 : Int32)) dX5_readArguments_117 kc_0 ?_
      cases h
      exact z_iret dX5_readArguments_118 rfl rfl (Nat.le_refl _) (Nat.le_refl _) ⟨rfl, rfl⟩
    · have h := it_f h hc24
      refine z_aload_n (i := 0) dX5_readArguments_101 rfl rfl ?_
      refine z_iload_n (i := 1) dX5_readArguments_102 rfl rfl ?_
      refine z_iconst (v := (1 : Int32)) dX5_readArguments_103 kc_1 ?_
      refine z_iconst (v := (1 : Int32)) dX5_readArguments_104 kc_1 ?_
      refine z_bipush (v := (9 : Int32)) dX5_readArguments_105 kb_9 ?_
      obtain ⟨q25, hq26, h⟩ := bnd h
      refine z_fVi (sX5_readArgument q22.2 x1 (1 : Int32) (1 : Int32) (9 : Int32) hq26) dX5_readArguments_107 ml_X5_69 cd_X5_readArgument mk6 rfl rfl rfl rfl rfl rfl ?_
      refine z_if_eq (tgt := 117) dX5_readArguments_110 rfl (fun hc27 => ?_) (fun hc27 => ?_)
      · have h := it_t h hc27
        refine z_iconst (v := (0 : Int32)) dX5_readArguments_117 kc_0 ?_
        cases h
        exact z_iret dX5_readArguments_118 rfl rfl (Nat.le_refl _) (Nat.le_refl _) ⟨rfl, rfl⟩
      · have h := it_f h hc27
        refine z_iconst (v := (1 : Int32)) dX5_readArguments_113 kc_1 ?_
        refine z_goto (tgt := 118) dX5_readArguments_114 rfl ?_
        cases h
        exact z_iret dX5_readArguments_118 rfl rfl (Nat.le_refl _) (Nat.le_refl _) ⟨rfl, rfl⟩
  have h := it_f h hc21
  by_cases hc28 : x2 = (3 : Int32)
  · have h := it_t h hc28
    refine z_tin (tgt := 119) dX5_readArguments_1 (by rw [hc28]; decide) (by rw [hc28]; decide) (off := 118) (by rw [hc28]; decide) rfl ?_
    refine z_aload_n (i := 0) dX5_readArguments_119 rfl rfl ?_
    refine z_iload_n (i := 1) dX5_readArguments_120 rfl rfl ?_
    refine z_iconst (v := (0 : Int32)) dX5_readArguments_121 kc_0 ?_
    refine z_iconst (v := (0 : Int32)) dX5_readArguments_122 kc_0 ?_
    refine z_bipush (v := (11 : Int32)) dX5_readArguments_123 kb_11 ?_
    obtain ⟨q29, hq30, h⟩ := bnd h
    refine z_fVi (sX5_readArgument M x1 (0 : Int32) (0 : Int32) (11 : Int32) hq30) dX5_readArguments_125 ml_X5_69 cd_X5_readArgument mk6 rfl rfl rfl rfl rfl rfl ?_
    refine z_if_eq (tgt := 155) dX5_readArguments_128 rfl (fun hc31 => ?_) (fun hc31 => ?_)
    · have h := it_t h hc31
      refine z_iconst (v := (0 : Int32)) dX5_readArguments_155 kc_0 ?_
      cases h
      exact z_iret dX5_readArguments_156 rfl rfl (Nat.le_refl _) (Nat.le_refl _) ⟨rfl, rfl⟩
    · have h := it_f h hc31
      refine z_aload_n (i := 0) dX5_readArguments_131 rfl rfl ?_
      refine z_iload_n (i := 1) dX5_readArguments_132 rfl rfl ?_
      refine z_iconst (v := (1 : Int32)) dX5_readArguments_133 kc_1 ?_
      obtain ⟨q32, hq33, h⟩ := bnd h
      refine z_fVi (sX5_readDirection q29.2 x1 (1 : Int32) hq33) dX5_readArguments_134 ml_X5_104 cd_X5_readDirection mk6 rfl rfl rfl rfl rfl rfl ?_
      refine z_if_eq (tgt := 155) dX5_readArguments_137 rfl (fun hc34 => ?_) (fun hc34 => ?_)
      · have h := it_t h hc34
        refine z_iconst (v := (0 : Int32)) dX5_readArguments_155 kc_0 ?_
        cases h
        exact z_iret dX5_readArguments_156 rfl rfl (Nat.le_refl _) (Nat.le_refl _) ⟨rfl, rfl⟩
      · have h := it_f h hc34
        refine z_aload_n (i := 0) dX5_readArguments_140 rfl rfl ?_
        refine z_iload_n (i := 1) dX5_readArguments_141 rfl rfl ?_
        refine z_iconst (v := (2 : Int32)) dX5_readArguments_142 kc_2 ?_
        refine z_iconst (v := (1 : Int32)) dX5_readArguments_143 kc_1 ?_
        refine z_iconst (v := (3 : Int32)) dX5_readArguments_144 kc_3 ?_
        obtain ⟨q35, hq36, h⟩ := bnd h
        refine z_fVi (sX5_readArgument q32.2 x1 (2 : Int32) (1 : Int32) (3 : Int32) hq36) dX5_readArguments_145 ml_X5_69 cd_X5_readArgument mk6 rfl rfl rfl rfl rfl rfl ?_
        refine z_if_eq (tgt := 155) dX5_readArguments_148 rfl (fun hc37 => ?_) (fun hc37 => ?_)
        · have h := it_t h hc37
          refine z_iconst (v := (0 : Int32)) dX5_readArguments_155 kc_0 ?_
          cases h
          exact z_iret dX5_readArguments_156 rfl rfl (Nat.le_refl _) (Nat.le_refl _) ⟨rfl, rfl⟩
        · have h := it_f h hc37
          refine z_iconst (v := (1 : Int32)) dX5_readArguments_151 kc_1 ?_
          refine z_goto (tgt := 156) dX5_readArguments_152 rfl ?_
          cases h
          exact z_iret dX5_readArguments_156 rfl rfl (Nat.le_refl _) (Nat.le_refl _) ⟨rfl, rfl⟩
  have h := it_f h hc28
  by_cases hc38 : x2 = (4 : Int32)
  · have h := it_t h hc38
    refine z_tin (tgt := 157) dX5_readArguments_1 (by rw [hc38]; decide) (by rw [hc38]; decide) (off := 156) (by rw [hc38]; decide) rfl ?_
    refine z_aload_n (i := 0) dX5_readArguments_157 rfl rfl ?_
    refine z_iload_n (i := 1) dX5_readArguments_158 rfl rfl ?_
    refine z_iconst (v := (0 : Int32)) dX5_readArguments_159 kc_0 ?_
    refine z_iconst (v := (0 : Int32)) dX5_readArguments_160 kc_0 ?_
    refine z_bipush (v := (11 : Int32)) dX5_readArguments_161 kb_11 ?_
    obtain ⟨q39, hq40, h⟩ := bnd h
    refine z_fVi (sX5_readArgument M x1 (0 : Int32) (0 : Int32) (11 : Int32) hq40) dX5_readArguments_163 ml_X5_69 cd_X5_readArgument mk6 rfl rfl rfl rfl rfl rfl ?_
    cases h
    exact z_iret dX5_readArguments_166 rfl (bz_ok _) (Nat.le_refl _) (Nat.le_refl _) ⟨rfl, rfl⟩
  have h := it_f h hc38
  by_cases hc41 : x2 = (5 : Int32)
  · have h := it_t h hc41
    refine z_tin (tgt := 167) dX5_readArguments_1 (by rw [hc41]; decide) (by rw [hc41]; decide) (off := 166) (by rw [hc41]; decide) rfl ?_
    refine z_aload_n (i := 0) dX5_readArguments_167 rfl rfl ?_
    refine z_iload_n (i := 1) dX5_readArguments_168 rfl rfl ?_
    refine z_iconst (v := (0 : Int32)) dX5_readArguments_169 kc_0 ?_
    refine z_iconst (v := (0 : Int32)) dX5_readArguments_170 kc_0 ?_
    refine z_bipush (v := (90 : Int32)) dX5_readArguments_171 kb_90 ?_
    obtain ⟨q42, hq43, h⟩ := bnd h
    refine z_fVi (sX5_readArgument M x1 (0 : Int32) (0 : Int32) (90 : Int32) hq43) dX5_readArguments_173 ml_X5_69 cd_X5_readArgument mk6 rfl rfl rfl rfl rfl rfl ?_
    cases h
    exact z_iret dX5_readArguments_176 rfl (bz_ok _) (Nat.le_refl _) (Nat.le_refl _) ⟨rfl, rfl⟩
  have h := it_f h hc41
  by_cases hc44 : x2 = (6 : Int32)
  · have h := it_t h hc44
    refine z_tin (tgt := 177) dX5_readArguments_1 (by rw [hc44]; decide) (by rw [hc44]; decide) (off := 176) (by rw [hc44]; decide) rfl ?_
    refine z_aload_n (i := 0) dX5_readArguments_177 rfl rfl ?_
    refine z_iload_n (i := 1) dX5_readArguments_178 rfl rfl ?_
    refine z_iconst (v := (0 : Int32)) dX5_readArguments_179 kc_0 ?_
    refine z_iconst (v := (1 : Int32)) dX5_readArguments_180 kc_1 ?_
    refine z_bipush (v := (20 : Int32)) dX5_readArguments_181 kb_20 ?_
    obtain ⟨q45, hq46, h⟩ := bnd h
    refine z_fVi (sX5_readArgument M x1 (0 : Int32) (1 : Int32) (20 : Int32) hq46) dX5_readArguments_183 ml_X5_69 cd_X5_readArgument mk6 rfl rfl rfl rfl rfl rfl ?_
    cases h
    exact z_iret dX5_readArguments_186 rfl (bz_ok _) (Nat.le_refl _) (Nat.le_refl _) ⟨rfl, rfl⟩
  have h := it_f h hc44
  by_cases hc47 : x2 = (7 : Int32)
  · have h := it_t h hc47
    refine z_tin (tgt := 187) dX5_readArguments_1 (by rw [hc47]; decide) (by rw [hc47]; decide) (off := 186) (by rw [hc47]; decide) rfl ?_
    refine z_aload_n (i := 0) dX5_readArguments_187 rfl rfl ?_
    refine z_iload_n (i := 1) dX5_readArguments_188 rfl rfl ?_
    refine z_iconst (v := (0 : Int32)) dX5_readArguments_189 kc_0 ?_
    refine z_iconst (v := (0 : Int32)) dX5_readArguments_190 kc_0 ?_
    refine z_iconst (v := (2 : Int32)) dX5_readArguments_191 kc_2 ?_
    obtain ⟨q48, hq49, h⟩ := bnd h
    refine z_fVi (sX5_readArgument M x1 (0 : Int32) (0 : Int32) (2 : Int32) hq49) dX5_readArguments_192 ml_X5_69 cd_X5_readArgument mk6 rfl rfl rfl rfl rfl rfl ?_
    cases h
    exact z_iret dX5_readArguments_195 rfl (bz_ok _) (Nat.le_refl _) (Nat.le_refl _) ⟨rfl, rfl⟩
  have h := it_f h hc47
  refine z_tout (tgt := 196) dX5_readArguments_1 (tswo (fun k h1 h2 h3 => ?_)) rfl ?_
  · have h4 : k = 0 ∨ k = 1 ∨ k = 2 ∨ k = 3 ∨ k = 4 ∨ k = 5 ∨ k = 6 ∨ k = 7 := by omega
    rcases h4 with rfl | rfl | rfl | rfl | rfl | rfl | rfl | rfl
    · exact hc1 (Int32.toInt_inj.mp (h3.trans (by decide)))
    · exact hc11 (Int32.toInt_inj.mp (h3.trans (by decide)))
    · exact hc21 (Int32.toInt_inj.mp (h3.trans (by decide)))
    · exact hc28 (Int32.toInt_inj.mp (h3.trans (by decide)))
    · exact hc38 (Int32.toInt_inj.mp (h3.trans (by decide)))
    · exact hc41 (Int32.toInt_inj.mp (h3.trans (by decide)))
    · exact hc44 (Int32.toInt_inj.mp (h3.trans (by decide)))
    · exact hc47 (Int32.toInt_inj.mp (h3.trans (by decide)))
  · refine z_aload_n (i := 0) dX5_readArguments_196 rfl rfl ?_
    refine z_iload_n (i := 1) dX5_readArguments_197 rfl rfl ?_
    refine z_iconst (v := (0 : Int32)) dX5_readArguments_198 kc_0 ?_
    refine z_iconst (v := (1 : Int32)) dX5_readArguments_199 kc_1 ?_
    refine z_sipush (v := (300 : Int32)) dX5_readArguments_200 ks_300 ?_
    obtain ⟨q50, hq51, h⟩ := bnd h
    refine z_fVi (sX5_readArgument M x1 (0 : Int32) (1 : Int32) (300 : Int32) hq51) dX5_readArguments_203 ml_X5_69 cd_X5_readArgument mk6 rfl rfl rfl rfl rfl rfl ?_
    cases h
    exact z_iret dX5_readArguments_206 rfl (bz_ok _) (Nat.le_refl _) (Nat.le_refl _) ⟨rfl, rfl⟩
